/-! ===== rows that the law of this claim wants beside: ldc, irem, pop, the script's cell ===== -/
section R8
variable {γ : xC} {cc : ByteArray} {nL d : Nat} {y : MethodName} {pc q : Nat} {pl : List (Option Value)} {st : List Value} {σ : Nat × Nat} {D : xD} {r : xR}
theorem v_ldc (hX : xX γ cc nL y d) {i : Nat} {v : Int32} {e : Int} (hv : v = Int32.ofInt e) (hw : Cond.constant y.cls i v ∈ xtb) (hd : decode cc pc = .ok (.ldc i, 2)) (hq : pc + 2 = q) (k : xV γ q pl (vi e :: st) σ D r) : xV γ pc pl (st) σ D r := by
  subst hq
  obtain ⟨p, l, e, R, s, m, args, below, meth, c, Q, ω, n0, z0, n1, z1⟩ := γ
  obtain ⟨hx, hb, hml, hown, hts, hKF, hA, hfr, hlo, hce, hsl, hnm⟩ := hX
  intro g1 g2 g3 g4 H locs ls hR hS hL
  exact lv_ldc hx hb hown (hts _ (hv ▸ hw)) hd (k g1 g2 g3 g4 H locs ls hR hS hL)
theorem v_irem (hX : xX γ cc nL y d) {a b : Int} (ha : 0 ≤ a) (ha2 : xI a) (hb0 : 0 < b) (hb2 : xI b) (hd : decode cc pc = .ok (.irem, 1)) (hq : pc + 1 = q) (k : xV γ q pl (vi (a % b) :: st) σ D r) : xV γ pc pl (vi b :: vi a :: st) σ D r := by
  have h1 : Int32.ofInt (a / b) = Int32.ofInt a / Int32.ofInt b := by
    rw [← Int.tdiv_eq_ediv_of_nonneg ha]
    exact Int32.ofInt_tdiv (xi_min ha2).1 (xi_min ha2).2 (xi_min hb2).1 (xi_min hb2).2
  have h2 : Int32.ofInt (a % b) = Int32.ofInt a - Int32.ofInt a / Int32.ofInt b * Int32.ofInt b := by
    rw [← h1, ← Int32.ofInt_mul, ← Int32.ofInt_sub]
    congr 1
    have := Int.emod_add_mul_ediv a b
    rw [Int.mul_comm] at this
    omega
  have k : xV γ q pl ((.int (Int32.ofInt a - Int32.ofInt a / Int32.ofInt b * Int32.ofInt b) : Value) :: st) σ D r := by rw [← h2]; exact k
  have hne : ¬ Int32.ofInt b = 0 := by
    rw [show (0 : Int32) = Int32.ofInt 0 from rfl, xi_eq hb2 (by decide)]; omega
  subst hq
  obtain ⟨p, l, e, R, s, m, args, below, meth, c, Q, ω, n0, z0, n1, z1⟩ := γ
  obtain ⟨hx, hb, hml, hown, hts, hKF, hA, hfr, hlo, hce, hsl, hnm⟩ := hX
  intro g1 g2 g3 g4 H locs ls hR hS hL
  exact lv_irem hx hb hd hne (k g1 g2 g3 g4 H locs ls hR hS hL)
theorem v_pop (hX : xX γ cc nL y d) {v : Value} (hv : v.category = 1) (hd : decode cc pc = .ok (.pop, 1)) (hq : pc + 1 = q) (k : xV γ q pl st σ D r) : xV γ pc pl (v :: st) σ D r := by
  subst hq
  obtain ⟨p, l, e, R, s, m, args, below, meth, c, Q, ω, n0, z0, n1, z1⟩ := γ
  obtain ⟨hx, hb, hml, hown, hts, hKF, hA, hfr, hlo, hce, hsl, hnm⟩ := hX
  intro g1 g2 g3 g4 H locs ls hR hS hL
  exact lv_pop hx hb hd (by rw [xcat]; exact hv) (k g1 g2 g3 g4 H locs ls hR hS hL)
theorem v_pop2 (hX : xX γ cc nL y d) {v : Value} (hv : v.category = 2) (hd : decode cc pc = .ok (.pop2, 1)) (hq : pc + 1 = q) (k : xV γ q pl st σ D r) : xV γ pc pl (v :: st) σ D r := by
  subst hq
  obtain ⟨p, l, e, R, s, m, args, below, meth, c, Q, ω, n0, z0, n1, z1⟩ := γ
  obtain ⟨hx, hb, hml, hown, hts, hKF, hA, hfr, hlo, hce, hsl, hnm⟩ := hX
  intro g1 g2 g3 g4 H locs ls hR hS hL
  exact lv_pop2_2 hx hb hd (by rw [xcat]; exact hv) (k g1 g2 g3 g4 H locs ls hR hS hL)
end R8
theorem x32 (x : Int32) : xI x.toInt := by have h1 := Int32.le_toInt x; have h2 := Int32.toInt_lt x; exact ⟨by omega, by omega⟩
theorem x64 (x : Int64) : xJ x.toInt := by have h1 := Int64.le_toInt x; have h2 := Int64.toInt_lt x; exact ⟨by omega, by omega⟩
theorem vi_nm (e : Int) : vi e = vi (Int32.ofInt e).toInt := by unfold vi; rw [Int32.ofInt_toInt]
theorem vl_nm (e : Int) : vl e = vl (Int64.ofInt e).toInt := by unfold vl; rw [Int64.ofInt_toInt]
/-- the script at its place, as a state has it -/
def xSt (ω : xW) (L : Nat) (xs : Nat → Int32) (s : State) : Prop := va_X (ω.2.2.1 0) L xs s s.heap ∧ ω.2.2.1 0 < s.heap.size ∧ ¬ xA ω (ω.2.2.1 0)
def xSc (γ : xC) (L : Nat) (xs : Nat → Int32) : Prop := match γ with
  | (_, _, _, _, s, _, _, _, _, _, _, ω, _, _, _, _) => xSt ω L xs s
def xWo (γ : xC) : xW := match γ with
  | (_, _, _, _, _, _, _, _, _, _, _, ω, _, _, _, _) => ω
section RL1
variable {γ : xC} {cc : ByteArray} {nL d : Nat} {y : MethodName} {pc q : Nat} {pl : List (Option Value)} {st : List Value} {σ : Nat × Nat} {D : xD} {r : xR}
theorem v_scld (hX : xX γ cc nL y d) {L : Nat} {xs : Nat → Int32} (hsc : xSc γ L xs) {i : Int} {kk : Nat} (hi : i = (kk : Int)) (hk : kk < L) (hL : L ≤ 100000) (hd : decode cc pc = .ok (.iaload, 1)) (hq : pc + 1 = q) (k : xV γ q pl (vi (xs kk).toInt :: st) σ D r) : xV γ pc pl (vi i :: .ref 0 :: st) σ D r := by
  subst hq; subst hi
  obtain ⟨p, l, e, R, s, m, args, below, meth, c, Q, ω, n0, z0, n1, z1⟩ := γ
  obtain ⟨hx, hb, hml, hown, hts, hKF, hA, hfr, hlo, hce, hsl, hnm⟩ := hX
  obtain ⟨s1, s2, s3⟩ := hsc
  intro g1 g2 g3 g4 H locs ls hR hS hL2
  obtain ⟨hin, hto⟩ := xi_in hk hL
  have hk2 := k g1 g2 g3 g4 H locs ls hR hS hL2
  have he : xtr ω (vi (xs kk).toInt) = .int (xs kk) := by show Value.int (Int32.ofInt (xs kk).toInt) = _; rw [Int32.ofInt_toInt]
  rw [List.map_cons, he] at hk2
  refine va_sld hx hb s1 s2 s3 hS hin hd ?_
  rw [hto]
  exact hk2
theorem v_sclen (hX : xX γ cc nL y d) {L : Nat} {xs : Nat → Int32} (hsc : xSc γ L xs) (hd : decode cc pc = .ok (.arraylength, 1)) (hq : pc + 1 = q) (k : xV γ q pl (vi (L : Int) :: st) σ D r) : xV γ pc pl (.ref 0 :: st) σ D r := by
  subst hq
  obtain ⟨p, l, e, R, s, m, args, below, meth, c, Q, ω, n0, z0, n1, z1⟩ := γ
  obtain ⟨hx, hb, hml, hown, hts, hKF, hA, hfr, hlo, hce, hsl, hnm⟩ := hX
  obtain ⟨s1, s2, s3⟩ := hsc
  intro g1 g2 g3 g4 H locs ls hR hS hL2
  have hk2 := k g1 g2 g3 g4 H locs ls hR hS hL2
  have he : Int32.ofInt (L : Int) = Int32.ofNat L := rfl
  refine va_slen hx hb s1 s2 s3 hS hd ?_
  rw [← he]
  exact hk2
end RL1
/-- a contract of a method that reads the script -/
def MXs (ω : xW) (L : Nat) (xs : Nat → Int32) (d : Nat) (μ : xM) (av : List Value) (σ : Nat × Nat) (D : xD) (r : xR) (P : Option Value → xD → xR → Prop) : Prop := ∀ (l : Launch),
  Met l μ.1 (xMW μ) ({ frames := d, cells := σ.1 - σ.1, slots := σ.2 - σ.2, locals := 40 * d } : Room) (va_Pc (av.map (xtr ω)) (fun U => ((xRep ω σ.1 D r U.heap ∧ ω.2.2.2 ≤ U.heap.size) ∧ xKF ω U U.heap) ∧ xSt ω L xs U)) (xQ ω σ P) (σ.1 - σ.1) (σ.2 - σ.2) (xA ω)
theorem xblindS {ω : xW} {n L : Nat} {xs : Nat → Int32} {D : xD} {r : xR} {av : List Value} : FrameBlind (va_Pc av (fun U => ((xRep ω n D r U.heap ∧ ω.2.2.2 ≤ U.heap.size) ∧ xKF ω U U.heap) ∧ xSt ω L xs U)) := fun a U g mk q => by
  obtain ⟨q0, ⟨q1, q2⟩, q3, q4⟩ := q
  exact ⟨q0, ⟨q1, xKF.same (U := U.calling g mk a) rfl q2⟩, va_X.moved (U := U.calling g mk a) (Vm.Alike.refl _) q3, q4⟩
set_option maxHeartbeats 4000000 in
theorem MXs.of {ω : xW} {L : Nat} {xs : Nat → Int32} {d : Nat} {y : MethodName} {cc : ByteArray} {nL : Nat} {rt : Option FieldType} {av : List Value} {σ : Nat × Nat} {D : xD} {r : xR} {P : Option Value → xD → xR → Prop} (hy : plainName y.cls = true) (pl : List (Option Value)) (hpl : xen av nL = pl) (hlen : (av.map Value.category).sum ≤ nL)
    (h : ∀ γ : xC, xX γ cc nL y d → xRX γ rt σ P → xSc γ L xs → xV γ 0 pl [] σ D r) : MXs ω L xs d (y, cc, nL, rt) av σ D r P := by
  intro l
  refine Met.ofW (cc := cc) (maxL := nL) (ret := rt) hy rfl ?_
  intro p e s m args below meth c s₁ B hml hv
  obtain ⟨rfl, ⟨⟨hRep, hbase⟩, hKF⟩, hST⟩ := hv
  have hts0 := atoms_spec (ws := xMW (y, cc, nL, rt)) B.pre
  have hts : ∀ w ∈ xtb, w.before (av.map (xtr ω)).toArray s = true := fun w hw => hts0 w (List.mem_cons_of_mem _ hw)
  have hown : s.vm.findClass y.cls = some m.cls := findClass_of_methodNamed B.named
  have hin : meth.name = y.name := (name_of_methodNamed B.named B.method).1
  have hl := lv_entry (av.map (xtr ω)) (n := nL) (Nat.le_trans (xlg_len _) (by rw [List.map_map, show (Value.category ∘ xtr ω) = Value.category from funext fun v => xcat ω v]; exact hlen))
  rw [lg_entry_eq]
  generalize (lg_sl (av.map (xtr ω)) ++ List.replicate (nL - (lg_sl (av.map (xtr ω))).length) Slot.unset).toArray = ls at hl ⊢
  have hV := h (p, l, e, (headSpec (xMW (y, cc, nL, rt)) ({ frames := d, cells := σ.1 - σ.1, slots := σ.2 - σ.2, locals := 40 * d } : Room)).room, s, m, (av.map (xtr ω)).toArray, below, meth, c, _, ω, σ.1, σ.2, σ.1, σ.2)
    ⟨B.exec, B.bytes, hml, hown, hts, hKF, fun q hq => Nat.le_trans hbase hq, Nat.le_refl _, Nat.le_refl _, Nat.le_refl _, Nat.le_refl _, hin⟩
    ⟨rfl, B.returns, B.notSynchronized, rfl, rfl⟩ hST (Nat.le_refl _) (Nat.le_refl _) (Nat.le_refl _) (Nat.le_refl _) s.heap [] ls hRep va_S.rf (by rw [hml]; exact xLH.entry hl hpl)
  simp only [Nat.sub_self] at hV ⊢
  exact hV
section XC3
variable {γ : xC} {cc : ByteArray} {nL d : Nat} {y : MethodName} {pc q : Nat} {pl : List (Option Value)} {st rest As : List Value} {σ : Nat × Nat} {D : xD} {r : xR} {μ : xM} {d' n a idx : Nat} {P : Option Value → xD → xR → Prop}
set_option maxHeartbeats 4000000 in
theorem v_callSs (hX : xX γ cc nL y d) {L : Nat} {xs : Nat → Int32} (hsc : xSc γ L xs) (hM : MXs (xWo γ) L xs d' μ As σ D r P) (hst : st = As.reverse ++ rest) (hμ : xMS μ n) (hn : As.length = n) (hdd : d' + 1 ≤ d) (hlk : Cond.methodLink y.cls idx μ.1 ∈ xtb)
    (hrest : (rest.map Value.category).sum ≤ 8) (hd : decode cc pc = .ok (.invokestatic idx, 3)) (hq : pc + 3 = q) (k : ∀ v D' r', P v D' r' → xV γ q pl (v.toList ++ rest) σ D' r') : xV γ pc pl st σ D r := by
  subst hq; subst hst
  obtain ⟨p, l, e, R, s, m, args, below, meth, c, Q, ω, n0, z0, n1, z1⟩ := γ
  obtain ⟨hx, hb, hml, hown, hts, hKF, hA, hfr, hlo, hce, hsl, hnm⟩ := hX
  obtain ⟨m1, m3, m4, m5, m6⟩ := hμ
  have hM : MXs ω L xs d' μ As σ D r P := hM
  intro g1 g2 g3 g4 H locs ls hR hS hL
  have hG : GoodIn xtb (va_wsS y.cls idx μ.1 (xMW μ)) := by
    intro w hw
    rcases List.mem_append.mp hw with hw | hw
    · simp only [List.mem_cons, List.not_mem_nil, or_false] at hw
      rcases hw with rfl | rfl | rfl
      · exact xgood hlk
      · exact xgood m1
      · exact xgood m3
    · exact xMW_good m4 w hw
  have cw := va_cwS (R := R) (s := s) (args := args) (own := y.cls) (index := idx) (y := μ.1) (bytes := μ.2.1) (maxL := μ.2.2.1) (ret := μ.2.2.2) (rm := ({ frames := d', cells := σ.1 - σ.1, slots := σ.2 - σ.2, locals := 40 * d' } : Room)) (mc := σ.1 - σ.1) (ms := σ.2 - σ.2) n hts hG rfl rfl rfl m5 ⟨by show d' + 1 ≤ R.frames; omega, by show 8 + (μ.2.2.1 + 11) + 40 * d' ≤ R.locals; omega⟩
  have hsz : s.heap.size ≤ H.size := hS.1
  have hrun := va_runS (As := As.map (xtr ω)) (rest := rest.map (xtr ω)) (g := F0 m pc ls ((As.reverse ++ rest).map (xtr ω))) (locs := locs) (cells := σ.1 - n0) (slots := σ.2 - z0) (H := H) (p := p) (e := e) (R := R) (s := s) (below := below) (meth := meth) ⟨hx, hb, hml, hown, hts⟩ (hM l) cw
    ⟨xblindS, fun U hU hW => ⟨rfl, ⟨⟨by rw [hU]; exact hR, by rw [hU]; exact Nat.le_trans (hA _ (Nat.le_refl _)) hS.1⟩, xKF.moved hW hKF (by rw [hU]; exact hS.2.1)⟩,
      va_X.moved hW.alike (hsc.1.kept (by rw [hU]; exact hS.2.1 _ hsc.2.1 hsc.2.2)), by rw [hU]; exact Nat.lt_of_lt_of_le hsc.2.1 hsz, hsc.2.2⟩⟩
    rfl (by simpa using hn) (hL.1.trans hml) (by simp) (lv_room (by rw [xcat_sum]; exact hrest)) hd ⟨by omega, by omega⟩
  refine xcall hrun hS fun v D' r' H1 locs1 hp hR1 hS1 => ?_
  have hk := k v D' r' hp g1 g2 g3 g4 H1 locs1 ls hR1 hS1 hL
  rw [xtr_toList]
  rw [show σ.1 - n0 + (σ.1 - σ.1) = σ.1 - n0 by omega, show σ.2 - z0 + (σ.2 - σ.2) = σ.2 - z0 by omega]
  exact hk
end XC3
set_option maxRecDepth 100000 in
set_option maxHeartbeats 4000000 in
theorem c_L_cell {ω : xW} {L : Nat} {xs : Nat → Int32} {z : Nat} (D : xD) (r : xR) (k : Nat) (hk : k < L) (hL : L ≤ 1000) : MXs ω L xs 0 mL_cell [.ref 0, vi k] (351, z) D r (xP (vi (xs k).toInt) D r) := by
  refine MXs.of (by decide +kernel) [some (.ref 0), some (vi k)] rfl (Nat.le_of_ble_eq_true rfl) ?_
  intro γ hX hRX hsc
  refine v_iload_n (q := 1) hX dL_cell_0 rfl rfl rfl ?_
  refine v_aload_n (q := 2) hX dL_cell_1 rfl rfl rfl ?_
  refine v_sclen (q := 3) hX hsc dL_cell_2 rfl ?_
  refine v_icmp_ge (q := 6) (tgt := 12) hX ⟨by omega, by omega⟩ ⟨by omega, by omega⟩ dL_cell_3 (by decide) rfl (fun hx_3 => ?_) (fun hx_3 => ?_)
  · exact absurd hx_3 (by omega)
  refine v_aload_n (q := 7) hX dL_cell_6 rfl rfl rfl ?_
  refine v_iload_n (q := 8) hX dL_cell_7 rfl rfl rfl ?_
  refine v_scld (q := 9) (kk := k) hX hsc rfl hk (by omega) dL_cell_8 rfl ?_
  refine v_goto (tgt := 18) hX dL_cell_9 (by decide) ?_
  refine v_ireturn hX hRX rfl rfl dL_cell_18 rfl ?_
  exact ⟨rfl, rfl, rfl⟩
