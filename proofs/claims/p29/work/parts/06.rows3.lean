/-! ===== calls ===== -/
theorem xcl_at : ∀ ci, ci < 5 → ∃ T : u_T, vwCl[ci]? = some (xcn ci, T, xN ci) := by
  intro ci h
  match ci, h with
  | 0, _ => exact ⟨_, rfl⟩
  | 1, _ => exact ⟨_, rfl⟩
  | 2, _ => exact ⟨_, rfl⟩
  | 3, _ => exact ⟨_, rfl⟩
  | 4, _ => exact ⟨_, rfl⟩
def xMD (μ : xM) (n : Nat) : Prop := (μ.1.cls ≠ "java/lang/invoke/MethodHandle" ∧ μ.1.cls ≠ "java/lang/invoke/VarHandle" ∧ (parseMethodDescriptor μ.1.desc).map (fun d => d.parameters.length) = some n) ∧ μ.2.2.1 ≤ 21
/-- a method that a virtual call finds, of n parameters -/
def xMV (μ : xM) (n : Nat) : Prop := .instanceMethod μ.1 ∈ xtb ∧ .selects μ.1.cls μ.1 μ.1 ∈ xtb ∧ .initialized μ.1.cls ∈ xtb ∧ .code μ.1 μ.2.1 μ.2.2.1 μ.2.2.2 ∈ xtb ∧ xMD μ n
def xMS (μ : xM) (n : Nat) : Prop := .static μ.1 ∈ xtb ∧ .initialized μ.1.cls ∈ xtb ∧ .code μ.1 μ.2.1 μ.2.2.1 μ.2.2.2 ∈ xtb ∧ xMD μ n
def xMI (μ : xM) (n : Nat) : Prop := .instanceMethod μ.1 ∈ xtb ∧ .initialized μ.1.cls ∈ xtb ∧ .code μ.1 μ.2.1 μ.2.2.1 μ.2.2.2 ∈ xtb ∧ xMD μ n ∧ μ.2.2.2 = none ∧ μ.1.name = "<init>"
theorem xgood {w : Cond} (h : w ∈ xtb) : w ∈ xtb ∧ ((w.onTables && w.keeps) = true ∨ ∃ ty, w = .arrayClass ty) := ⟨h, xtb_good w h⟩
theorem xMW_good {μ : xM} (h : Cond.code μ.1 μ.2.1 μ.2.2.1 μ.2.2.2 ∈ xtb) : GoodIn xtb (xMW μ) := fun w hw => by
  rcases List.mem_cons.mp hw with rfl | hw
  · exact xgood h
  · exact xgood hw
def xGB (γ : xC) (σf : Nat × Nat) : Prop := match γ with
  | (_, _, _, _, _, _, _, _, _, _, _, _, _, _, n1, z1) => n1 = σf.1 ∧ z1 = σf.2
theorem xRX.gb {γ : xC} {rt : Option FieldType} {σf : Nat × Nat} {P : Option Value → xD → xR → Prop} (h : xRX γ rt σf P) : xGB γ σf := by
  obtain ⟨p, l, e, R, s, m, args, below, meth, c, Q, ω, n0, z0, n1, z1⟩ := γ
  exact ⟨h.2.2.2.1, h.2.2.2.2⟩
abbrev xP (w : Value) (D : xD) (r : xR) : Option Value → xD → xR → Prop := fun v D' r' => v = some w ∧ D' = D ∧ r' = r
section XCALL
variable {p : Program} {l : Launch} {e : Env} {R : Room} {s : State} {m : MethodId} {args : Array Value} {below : List Frame} {meth : Method} {c : Code} {H : Heap} {locs : List Loc} {cells slots mc ms : Nat} {Q : State → Prop} {pc : Nat} {ls : Array Slot} {rest st0 : List Value}
theorem xblind {ω : xW} {n : Nat} {D : xD} {r : xR} {av : List Value} {X Y : Prop} : FrameBlind (va_Pc av (fun U => (xRep ω n D r U.heap ∧ X ∧ Y ∧ ω.2.2.2 ≤ U.heap.size) ∧ xKF ω U U.heap)) := fun a U g mk q => by
  obtain ⟨q0, q1, q2⟩ := q
  exact ⟨q0, q1, xKF.same (U := U.calling g mk a) rfl q2⟩
theorem xcall {ω : xW} {σ' : Nat × Nat} {P : Option Value → xD → xR → Prop} {a : Array Value} (hr : va_Run p l e R s m args below meth c H locs cells slots mc ms (F0 m pc ls st0) rest (xQ ω σ' P a) (xA ω)) (hS : va_S (xA ω) s.heap H locs)
    (kk : ∀ (v : Option Value) (D' : xD) (r' : xR) (H1 : Heap) (locs1 : List Loc), P v D' r' → xRep ω σ'.1 D' r' H1 → va_S (xA ω) s.heap H1 locs1 → W p l e R s m args below meth c H1 locs1 (cells + mc) (slots + ms) Q (F0 m (pc + 3) ls ((v.map (xtr ω)).toList ++ rest))) :
    W p l e R s m args below meth c H locs cells slots Q (F0 m pc ls st0) := by
  intro T hT X
  obtain ⟨v, st₀, t, T', L, h0, X', hL, e1, e2, ⟨⟨v', D', r', hv, hp, hR⟩, hz, hk⟩, st⟩ := hr T hT X
  cases hv
  rw [h0] at hz hk
  obtain ⟨t2, a1, b1⟩ := kk v' D' r' T'.heap (locs ++ L) hp (by rw [e1]; exact hR)
    ⟨Nat.le_trans hS.1 (by rw [e1]; exact hz), fun q h1 h2 => by rw [e1, hk q (Nat.lt_of_lt_of_le h1 hS.1) h2]; exact hS.2.1 q h1 h2, fun q hq => by
      rcases List.mem_append.mp hq with h | h
      · exact hS.2.2 q h
      · exact hL q h⟩ T' rfl X'
  exact ⟨t2, st t2 a1, b1⟩
end XCALL
theorem xtr_toList (ω : xW) (v : Option Value) (rest : List Value) : (v.map (xtr ω)).toList ++ rest.map (xtr ω) = (v.toList ++ rest).map (xtr ω) := by cases v <;> rfl
theorem xcat_sum (ω : xW) (rest : List Value) : ((rest.map (xtr ω)).map fun v => v.category).sum = (rest.map Value.category).sum := by
  rw [List.map_map]
  congr 1
  exact List.map_congr_left fun v _ => xcat ω v
section XC2
variable {γ : xC} {cc : ByteArray} {nL d : Nat} {y : MethodName} {pc q : Nat} {pl : List (Option Value)} {st rest As : List Value} {σ σ' σf : Nat × Nat} {D : xD} {r : xR} {μ : xM} {d' n a idx : Nat} {P : Option Value → xD → xR → Prop}
theorem v_callV (hX : xX γ cc nL y d) (hM : MX d' μ (.ref a :: As) σ D r σ P) (hst : st = As.reverse ++ .ref a :: rest) (hμ : xMV μ n) (hn : As.length = n) (hdd : d' + 1 ≤ d) (hlk : Cond.methodLink y.cls idx μ.1 ∈ xtb) {ci z : Nat} (hci : ci < 5) (hcn : xcn ci = μ.1.cls) (hs : xSH a = (ci, z)) (ha : 4 ≤ a) (han : a < σ.1)
    (hrest : (rest.map Value.category).sum ≤ 8) (hd : decode cc pc = .ok (.invokevirtual idx, 3)) (hq : pc + 3 = q) (k : ∀ v D' r', P v D' r' → xV γ q pl (v.toList ++ rest) σ D' r') : xV γ pc pl st σ D r := by
  subst hq; subst hst
  obtain ⟨p, l, e, R, s, m, args, below, meth, c, Q, ω, n0, z0, n1, z1⟩ := γ
  obtain ⟨hx, hb, hml, hown, hts, hKF, hA, hfr, hlo, hce, hsl, hnm⟩ := hX
  obtain ⟨m1, m2, m3, m4, m5, m6⟩ := hμ
  intro g1 g2 g3 g4 H locs ls hR hS hL
  obtain ⟨T, hcl⟩ := xcl_at ci hci
  have h0 := xws_at ω D r ha han
  rw [xent_obj ω hs hci] at h0
  have hG : GoodIn xtb (wsV y.cls idx μ.1.cls μ.1 (xMW μ)) := by
    intro w hw
    rcases List.mem_append.mp hw with hw | hw
    · simp only [List.mem_cons, List.not_mem_nil, or_false] at hw
      rcases hw with rfl | rfl | rfl | rfl
      · exact xgood hlk
      · exact xgood m1
      · exact xgood m2
      · exact xgood m3
    · exact xMW_good m4 w hw
  have cw := cwV (R := R) (s := s) (args := args) (own := y.cls) (index := idx) (C := μ.1.cls) (y := μ.1) (bytes := μ.2.1) (maxL := μ.2.2.1) (ret := μ.2.2.2) (rm := ({ frames := d', cells := σ.1 - σ.1, slots := σ.2 - σ.2, locals := 40 * d' } : Room)) (mc := σ.1 - σ.1) (ms := σ.2 - σ.2) n hts hG rfl rfl rfl ⟨rfl, m5⟩ ⟨by show d' + 1 ≤ R.frames; omega, by show 8 + (μ.2.2.1 + 11) + 40 * d' ≤ R.locals; omega⟩
  have hrun := va_runV (As := As.map (xtr ω)) (rest := rest.map (xtr ω)) (b := xad ω a) (g := F0 m pc ls ((As.reverse ++ .ref a :: rest).map (xtr ω))) (locs := locs) (cells := σ.1 - n0) (slots := σ.2 - z0) (H := H) (p := p) (e := e) (R := R) (s := s) (below := below) (meth := meth) ⟨hx, hb, hml, hown, hts⟩ (hM l ω) cw
    ⟨xblind, by have := va_recv hKF.1 hR.2.2 hcl h0; rw [show (xcn ci, T, xN ci).1 = μ.1.cls from hcn] at this; exact this, fun U hU hW => ⟨rfl, ⟨by rw [hU]; exact hR, Nat.le_refl _, Nat.le_refl _, by rw [hU]; exact Nat.le_trans (hA _ (Nat.le_refl _)) hS.1⟩, xKF.moved hW hKF (by rw [hU]; exact hS.2.1)⟩⟩
    rfl (by simpa using hn) (hL.1.trans hml) (by simp [xtr]) (lv_room (by rw [xcat_sum]; exact hrest)) hd ⟨by omega, by omega⟩
  refine xcall hrun hS fun v D' r' H1 locs1 hp hR1 hS1 => ?_
  have hk := k v D' r' hp g1 g2 g3 g4 H1 locs1 ls hR1 hS1 hL
  rw [xtr_toList]
  rw [show σ.1 - n0 + (σ.1 - σ.1) = σ.1 - n0 by omega, show σ.2 - z0 + (σ.2 - σ.2) = σ.2 - z0 by omega]
  exact hk
theorem v_callS (hX : xX γ cc nL y d) (hM : MX d' μ As σ D r σ P) (hst : st = As.reverse ++ rest) (hμ : xMS μ n) (hn : As.length = n) (hdd : d' + 1 ≤ d) (hlk : Cond.methodLink y.cls idx μ.1 ∈ xtb)
    (hrest : (rest.map Value.category).sum ≤ 8) (hd : decode cc pc = .ok (.invokestatic idx, 3)) (hq : pc + 3 = q) (k : ∀ v D' r', P v D' r' → xV γ q pl (v.toList ++ rest) σ D' r') : xV γ pc pl st σ D r := by
  subst hq; subst hst
  obtain ⟨p, l, e, R, s, m, args, below, meth, c, Q, ω, n0, z0, n1, z1⟩ := γ
  obtain ⟨hx, hb, hml, hown, hts, hKF, hA, hfr, hlo, hce, hsl, hnm⟩ := hX
  obtain ⟨m1, m3, m4, m5, m6⟩ := hμ
  intro g1 g2 g3 g4 H locs ls hR hS hL
  have hG : GoodIn xtb (va_wsS y.cls idx μ.1 (xMW μ)) := by
    intro w hw
    rcases List.mem_append.mp hw with hw | hw
    · simp only [List.mem_cons, List.not_mem_nil, or_false] at hw
      rcases hw with rfl | rfl | rfl
      · exact xgood hlk
      · exact xgood m1
      · exact xgood m3
    · exact xMW_good m4 w hw
  have cw := va_cwS (R := R) (s := s) (args := args) (own := y.cls) (index := idx) (y := μ.1) (bytes := μ.2.1) (maxL := μ.2.2.1) (ret := μ.2.2.2) (rm := ({ frames := d', cells := σ.1 - σ.1, slots := σ.2 - σ.2, locals := 40 * d' } : Room)) (mc := σ.1 - σ.1) (ms := σ.2 - σ.2) n hts hG rfl rfl rfl m5 ⟨by show d' + 1 ≤ R.frames; omega, by show 8 + (μ.2.2.1 + 11) + 40 * d' ≤ R.locals; omega⟩
  have hrun := va_runS (As := As.map (xtr ω)) (rest := rest.map (xtr ω)) (g := F0 m pc ls ((As.reverse ++ rest).map (xtr ω))) (locs := locs) (cells := σ.1 - n0) (slots := σ.2 - z0) (H := H) (p := p) (e := e) (R := R) (s := s) (below := below) (meth := meth) ⟨hx, hb, hml, hown, hts⟩ (hM l ω) cw
    ⟨xblind, fun U hU hW => ⟨rfl, ⟨by rw [hU]; exact hR, Nat.le_refl _, Nat.le_refl _, by rw [hU]; exact Nat.le_trans (hA _ (Nat.le_refl _)) hS.1⟩, xKF.moved hW hKF (by rw [hU]; exact hS.2.1)⟩⟩
    rfl (by simpa using hn) (hL.1.trans hml) (by simp) (lv_room (by rw [xcat_sum]; exact hrest)) hd ⟨by omega, by omega⟩
  refine xcall hrun hS fun v D' r' H1 locs1 hp hR1 hS1 => ?_
  have hk := k v D' r' hp g1 g2 g3 g4 H1 locs1 ls hR1 hS1 hL
  rw [xtr_toList]
  rw [show σ.1 - n0 + (σ.1 - σ.1) = σ.1 - n0 by omega, show σ.2 - z0 + (σ.2 - σ.2) = σ.2 - z0 by omega]
  exact hk
/-- a constructor; it may make cells -/
theorem v_callI (hX : xX γ cc nL y d) (hG0 : xGB γ σf) (hM : MX d' μ (.ref a :: As) σ D r σ' P) (hst : st = As.reverse ++ .ref a :: rest) (hμ : xMI μ n) (hn : As.length = n) (hdd : d' + 1 ≤ d) (hlk : Cond.methodLink y.cls idx μ.1 ∈ xtb)
    (hσ : σ.1 ≤ σ'.1 ∧ σ.2 ≤ σ'.2) (hσf : σ'.1 ≤ σf.1 ∧ σ'.2 ≤ σf.2)
    (hrest : (rest.map Value.category).sum ≤ 8) (hd : decode cc pc = .ok (.invokespecial idx, 3)) (hq : pc + 3 = q) (k : ∀ v D' r', P v D' r' → xV γ q pl (v.toList ++ rest) σ' D' r') : xV γ pc pl st σ D r := by
  subst hq; subst hst
  obtain ⟨p, l, e, R, s, m, args, below, meth, c, Q, ω, n0, z0, n1, z1⟩ := γ
  obtain ⟨hx, hb, hml, hown, hts, hKF, hA, hfr, hlo, hce, hsl, hnm⟩ := hX
  obtain ⟨rfl, rfl⟩ := hG0
  obtain ⟨m1, m3, m4, ⟨m5, m6⟩, m7, m8⟩ := hμ
  obtain ⟨y', b', nl', rt'⟩ := μ
  obtain rfl : rt' = none := m7
  intro g1 g2 g3 g4 H locs ls hR hS hL
  have cw := cwI (R := R) (s := s) (args := args) (own := y.cls) (index := idx) (y := y') (bytes := b') (maxL := nl') (ws := xMW (y', b', nl', none)) (rm := ({ frames := d', cells := σ'.1 - σ.1, slots := σ'.2 - σ.2, locals := 40 * d' } : Room)) (mc := σ'.1 - σ.1) (ms := σ'.2 - σ.2) n hts (xMW_good m4) rfl rfl rfl (hts _ m3) (hts _ hlk) (hts _ m1) m8 m5 ⟨by show d' + 1 ≤ R.frames; omega, by show 8 + (nl' + 11) + 40 * d' ≤ R.locals; have h9 : nl' ≤ 21 := m6; omega⟩
  have hrun := va_runI (As := As.map (xtr ω)) (rest := rest.map (xtr ω)) (b := xad ω a) (g := F0 m pc ls ((As.reverse ++ .ref a :: rest).map (xtr ω))) (locs := locs) (cells := σ.1 - n0) (slots := σ.2 - z0) (H := H) (p := p) (e := e) (R := R) (s := s) (below := below) (meth := meth) ⟨hx, hb, hml, hown, hts⟩ (hM l ω) cw
    ⟨xblind, fun U hU hW => ⟨rfl, ⟨by rw [hU]; exact hR, hσ.1, hσ.2, by rw [hU]; exact Nat.le_trans (hA _ (Nat.le_refl _)) hS.1⟩, xKF.moved hW hKF (by rw [hU]; exact hS.2.1)⟩⟩
    rfl (by simpa using hn) (hL.1.trans hml) (by simp [xtr]) (lv_room (by rw [xcat_sum]; exact hrest)) hd ⟨by omega, by omega⟩
  refine xcall hrun hS fun v D' r' H1 locs1 hp hR1 hS1 => ?_
  have hk := k v D' r' hp (by omega) (by omega) hσf.1 hσf.2 H1 locs1 ls hR1 hS1 hL
  rw [xtr_toList]
  rw [show σ.1 - n0 + (σ'.1 - σ.1) = σ'.1 - n0 by omega, show σ.2 - z0 + (σ'.2 - σ.2) = σ'.2 - z0 by omega]
  exact hk
/-- a private constructor of a nest mate -/
theorem v_callIN (hX : xX γ cc nL y d) (hG0 : xGB γ σf) (hM : MX d' μ (.ref a :: As) σ D r σ' P) (hst : st = As.reverse ++ .ref a :: rest) (hμ : xMI μ n) (hn : As.length = n) (hdd : d' + 1 ≤ d)
    (hlk : ∀ ω U H, xKF ω U H → va_Nw (.methodLinkNest y.cls idx μ.1 "LotFences") U) (hσ : σ.1 ≤ σ'.1 ∧ σ.2 ≤ σ'.2) (hσf : σ'.1 ≤ σf.1 ∧ σ'.2 ≤ σf.2)
    (hrest : (rest.map Value.category).sum ≤ 8) (hd : decode cc pc = .ok (.invokespecial idx, 3)) (hq : pc + 3 = q) (k : ∀ v D' r', P v D' r' → xV γ q pl (v.toList ++ rest) σ' D' r') : xV γ pc pl st σ D r := by
  subst hq; subst hst
  obtain ⟨p, l, e, R, s, m, args, below, meth, c, Q, ω, n0, z0, n1, z1⟩ := γ
  obtain ⟨hx, hb, hml, hown, hts, hKF, hA, hfr, hlo, hce, hsl, hnm⟩ := hX
  obtain ⟨rfl, rfl⟩ := hG0
  obtain ⟨m1, m3, m4, ⟨m5, m6⟩, m7, m8⟩ := hμ
  obtain ⟨y', b', nl', rt'⟩ := μ
  obtain rfl : rt' = none := m7
  intro g1 g2 g3 g4 H locs ls hR hS hL
  have cw := va_cnB (R := R) (s := s) (args := args) (own := y.cls) (host := "LotFences") (index := idx) (y := y') (bytes := b') (maxL := nl') (ret := none) (ws := xMW (y', b', nl', none)) (rm := ({ frames := d', cells := σ'.1 - σ.1, slots := σ'.2 - σ.2, locals := 40 * d' } : Room)) (mc := σ'.1 - σ.1) (ms := σ'.2 - σ.2) n hts (xMW_good m4) rfl rfl rfl (hlk ω s _ hKF) (hts _ m3) m5 ⟨by show d' + 1 ≤ R.frames; omega, by show 8 + (nl' + 11) + 40 * d' ≤ R.locals; have h9 : nl' ≤ 21 := m6; omega⟩
  have hrun := va_runIN (As := As.map (xtr ω)) (rest := rest.map (xtr ω)) (b := xad ω a) (g := F0 m pc ls ((As.reverse ++ .ref a :: rest).map (xtr ω))) (locs := locs) (cells := σ.1 - n0) (slots := σ.2 - z0) (H := H) (p := p) (e := e) (R := R) (s := s) (below := below) (meth := meth) ⟨hx, hb, hml, hown, hts⟩ (hM l ω) ⟨cw, m8, hts _ m1⟩
    ⟨xblind, fun U hU hW => ⟨rfl, ⟨by rw [hU]; exact hR, hσ.1, hσ.2, by rw [hU]; exact Nat.le_trans (hA _ (Nat.le_refl _)) hS.1⟩, xKF.moved hW hKF (by rw [hU]; exact hS.2.1)⟩⟩
    rfl (by simpa using hn) (hL.1.trans hml) (by simp [xtr]) (lv_room (by rw [xcat_sum]; exact hrest)) hd ⟨by omega, by omega⟩
  refine xcall hrun hS fun v D' r' H1 locs1 hp hR1 hS1 => ?_
  have hk := k v D' r' hp (by omega) (by omega) hσf.1 hσf.2 H1 locs1 ls hR1 hS1 hL
  rw [xtr_toList]
  rw [show σ.1 - n0 + (σ'.1 - σ.1) = σ'.1 - n0 by omega, show σ.2 - z0 + (σ'.2 - σ.2) = σ'.2 - z0 by omega]
  exact hk
/-- a private static method of a nest mate -/
theorem v_callSN (hX : xX γ cc nL y d) (hM : MX d' μ As σ D r σ P) (hst : st = As.reverse ++ rest) (hμ : xMS μ n) (hn : As.length = n) (hdd : d' + 1 ≤ d) (hlk : ∀ ω U H, xKF ω U H → va_Nw (.methodLinkNest y.cls idx μ.1 "LotFences") U)
    (hrest : (rest.map Value.category).sum ≤ 8) (hd : decode cc pc = .ok (.invokestatic idx, 3)) (hq : pc + 3 = q) (k : ∀ v D' r', P v D' r' → xV γ q pl (v.toList ++ rest) σ D' r') : xV γ pc pl st σ D r := by
  subst hq; subst hst
  obtain ⟨p, l, e, R, s, m, args, below, meth, c, Q, ω, n0, z0, n1, z1⟩ := γ
  obtain ⟨hx, hb, hml, hown, hts, hKF, hA, hfr, hlo, hce, hsl, hnm⟩ := hX
  obtain ⟨m1, m3, m4, m5, m6⟩ := hμ
  intro g1 g2 g3 g4 H locs ls hR hS hL
  have cw := va_cnB (R := R) (s := s) (args := args) (own := y.cls) (host := "LotFences") (index := idx) (y := μ.1) (bytes := μ.2.1) (maxL := μ.2.2.1) (ret := μ.2.2.2) (ws := xMW μ) (rm := ({ frames := d', cells := σ.1 - σ.1, slots := σ.2 - σ.2, locals := 40 * d' } : Room)) (mc := σ.1 - σ.1) (ms := σ.2 - σ.2) n hts (xMW_good m4) rfl rfl rfl (hlk ω s _ hKF) (hts _ m3) m5 ⟨by show d' + 1 ≤ R.frames; omega, by show 8 + (μ.2.2.1 + 11) + 40 * d' ≤ R.locals; omega⟩
  have hrun := va_runSN (As := As.map (xtr ω)) (rest := rest.map (xtr ω)) (g := F0 m pc ls ((As.reverse ++ rest).map (xtr ω))) (locs := locs) (cells := σ.1 - n0) (slots := σ.2 - z0) (H := H) (p := p) (e := e) (R := R) (s := s) (below := below) (meth := meth) ⟨hx, hb, hml, hown, hts⟩ (hM l ω) ⟨cw, hts _ m1, trivial⟩
    ⟨xblind, fun U hU hW => ⟨rfl, ⟨by rw [hU]; exact hR, Nat.le_refl _, Nat.le_refl _, by rw [hU]; exact Nat.le_trans (hA _ (Nat.le_refl _)) hS.1⟩, xKF.moved hW hKF (by rw [hU]; exact hS.2.1)⟩⟩
    rfl (by simpa using hn) (hL.1.trans hml) (by simp) (lv_room (by rw [xcat_sum]; exact hrest)) hd ⟨by omega, by omega⟩
  refine xcall hrun hS fun v D' r' H1 locs1 hp hR1 hS1 => ?_
  have hk := k v D' r' hp g1 g2 g3 g4 H1 locs1 ls hR1 hS1 hL
  rw [xtr_toList]
  rw [show σ.1 - n0 + (σ.1 - σ.1) = σ.1 - n0 by omega, show σ.2 - z0 + (σ.2 - σ.2) = σ.2 - z0 by omega]
  exact hk
end XC2

