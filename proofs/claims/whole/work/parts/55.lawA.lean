/-! ===== the law: the invariant between the class and the reference ===== -/
/-- nothing stands behind ten products -/
def tz (N : Nat → Int) : Prop := ∀ i, 378 ≤ i → N i = 0
theorem tz.fu {N : Nat → Int} (h : tz N) {j : Nat} {e : Int} (hj : j < 378) : tz (fu N j e) := fun i hi => by rw [fu_ne _ _ _ (by omega)]; exact h i hi
theorem tz.tl {np : Nat} {N M : Nat → Int} (h : tz N) (hnp : np ≤ 10) (ht : nTl np N M) : tz M := fun i hi => (ht i (by omega)).trans (h i hi)
theorem tz.plan {np f : Nat} {N : Nat → Int} (h : tz N) (hnp : np ≤ 10) (hf : f ≤ 8) : tz (nPlan np f N) := h.tl hnp (nTl.plan hf (fun _ _ => rfl))
theorem tz.ps {np f : Nat} {N : Nat → Int} (h : tz N) (hnp : np ≤ 10) (hf : f ≤ 8) (k : Nat) : tz (nPs np f k N) := h.tl hnp (nTl.ps hf k N (fun _ _ => rfl))
theorem tz.act {np f : Nat} {N : Nat → Int} {a : tA} (h : tz N) (hnp : np ≤ 10) (hf : f ≤ 8) (he : actE N np a = 0) : tz (actN N np f a) := by
  unfold actN
  split
  · rename_i h1
    unfold actE at he
    rw [if_pos h1] at he
    obtain ⟨a1, a2, a3⟩ := eF_0 he
    exact h.fu (by omega)
  split
  · rename_i h1 h2
    unfold actE at he
    rw [if_neg h1, if_pos h2] at he
    obtain ⟨a1, a2⟩ := eA_0 he
    exact h.fu (by omega)
  split
  · rename_i h1 h2 h3
    unfold actE at he
    rw [if_neg h1, if_neg h2, if_pos h3] at he
    obtain ⟨a1, a2, a3⟩ := eL_0 he
    exact h.fu (by omega)
  split
  · exact h.ps hnp hf _
  · exact h.plan hnp hf
theorem tz.run (T : Nat → Int) (n np f : Nat) (hnp : np ≤ 10) (hf : f ≤ 8) : ∀ m p (N : Nat → Int) d, tz N → tz (tRun T n np f m p N d).2 := by
  intro m
  induction m with
  | zero => intro p N d h; exact h
  | succ m ih =>
    intro p N d h
    unfold tRun
    split
    · rename_i hh
      split
      · exact ih _ _ _ (h.act hnp hf hh.2)
      · exact h.act hnp hf hh.2
    · exact h
/-- the reference's kept state at a place -/
def kS (D : xD) (c : Nat) : Nat → Int := kGet (D 353) c (fun _ => 0) 378
theorem kS_tz (D : xD) (c : Nat) : tz (kS D c) := fun i hi => if_neg (by omega)
theorem kG_tz {K N : Nat → Int} {c : Nat} (h : tz N) : kGet K c N 378 = kGet K c (fun _ => 0) 378 := by
  funext i
  unfold kGet
  by_cases hi : i < 378
  · rw [if_pos hi, if_pos hi]
  · rw [if_neg hi, if_neg hi]; exact h i (by omega)
theorem kS_eq {D D' : xD} (h : D' 353 = D 353) (c : Nat) : kS D' c = kS D c := by unfold kS; rw [h]
theorem rcS_n {F : Nat → Int} {s : Nat} (h : F 3 = (s : Int)) : (rcS F).toNat = hS s := by
  unfold rcS hS
  by_cases h6 : s = 6
  · subst h6; rw [if_pos (by rw [h]; rfl), if_pos rfl]; rfl
  · rw [if_neg (by omega), if_neg h6, h]; rfl
theorem kS_rc {D D' : xD} {F N : Nat → Int} {s : Nat} (hF : F 3 = (s : Int)) (hs : s ≤ 6) (h : D' 353 = rcK F (D 353) N) (ht : tz N) {c : Nat} (hc : c < hS s + 1) : kS D' c = hPu s (kS D) N c := by
  have h5 : hS s ≤ 5 := by unfold hS; split <;> omega
  funext i
  by_cases hi : i < 378
  · have e : kS D' c i = rcK F (D 353) N (c * 378 + i) := by unfold kS kGet; rw [if_pos hi, h]
    rw [e]
    unfold rcK kPut
    rw [rcS_n hF]
    unfold hPu
    by_cases hch : c = hS s
    · rw [if_pos hch, if_pos (by omega), show c * 378 + i - hS s * 378 = i by omega]
    · rw [if_neg hch, if_neg (by omega)]
      by_cases h6 : s = 6
      · rw [if_pos h6, if_pos (by rw [hF, h6]; rfl)]
        have hS6 : hS s = 5 := if_pos h6
        unfold kDown kS kGet
        rw [if_pos (by omega), if_pos hi, show c * 378 + i + 378 = (c + 1) * 378 + i by omega]
      · rw [if_neg h6, if_neg (by rw [hF]; omega)]
        unfold kS kGet
        rw [if_pos hi]
  · have e : ∀ E : xD, ∀ d, kS E d i = 0 := fun E d => if_neg hi
    rw [e]
    unfold hPu
    split
    · exact (ht i (by omega)).symm
    · split
      · exact (e _ _).symm
      · exact (e _ _).symm
theorem kS_rc6 {D D' : xD} {F N : Nat → Int} {s : Nat} (hF : F 3 = (s : Int)) (hs : s ≤ 6) (h : D' 353 = rcK F (D 353) N) {a : Nat} (ha : 6 ≤ a) : kS D' a = kS D a := by
  have h5 : hS s ≤ 5 := by unfold hS; split <;> omega
  funext i
  unfold kS kGet
  by_cases hi : i < 378
  · rw [if_pos hi, if_pos hi, h]
    unfold rcK kPut
    rw [rcS_n hF, if_neg (by omega)]
    split
    · unfold kDown; rw [if_neg (by omega)]
    · rfl
  · rw [if_neg hi, if_neg hi]
theorem kS_put {D D' : xD} {N : Nat → Int} {b : Nat} (h : D' 353 = kPut (D 353) b N 378) {c : Nat} (hc : c ≠ b) : kS D' c = kS D c := by
  funext i
  unfold kS kGet
  by_cases hi : i < 378
  · rw [if_pos hi, if_pos hi, h]
    unfold kPut
    rw [if_neg (by omega)]
  · rw [if_neg hi, if_neg hi]
theorem kS_at {D D' : xD} {N : Nat → Int} {b : Nat} (h : D' 353 = kPut (D 353) b N 378) (ht : tz N) : kS D' b = N := by
  funext i
  unfold kS kGet
  by_cases hi : i < 378
  · rw [if_pos hi, h]
    unfold kPut
    rw [if_pos (by omega), show b * 378 + i - b * 378 = i by omega]
  · rw [if_neg hi]; exact (ht i (by omega)).symm
/-- a state in its ranges -/
def OKk (B : Int) (N : Nat → Int) (np : Nat) : Prop := nV B np N ∧ 0 ≤ N 0 ∧ N 0 ≤ B
theorem OKk.mono {B B' : Int} {N : Nat → Int} {np : Nat} (h : OKk B N np) (hB : B ≤ B') (hB' : B' ≤ 2100000000) : OKk B' N np := ⟨h.1.mono hB hB', h.2.1, by have := h.2.2; omega⟩
theorem OKk.np {B : Int} {N : Nat → Int} {np : Nat} (h : OKk B N np) : np ≤ 10 := h.1.1.np.2
theorem OKk.f {B : Int} {N : Nat → Int} {np : Nat} (h : OKk B N np) : ∃ f : Nat, N 7 = (f : Int) ∧ f ≤ 8 := by
  have h7 := h.1.1.2.2.2.1.2.2.1
  obtain ⟨f, hf⟩ := Int.eq_ofNat_of_zero_le h7.1
  exact ⟨f, hf, by omega⟩
theorem HI.K {D : xD} {r : xR} {s : Nat} {π : Nat → Nat} {K K' : Nat → Nat → Int} {q : Nat → Nat} (h : HI D r s π K q) (hK : ∀ c, c < s → K' c = K c) : HI D r s π K' q := ⟨h.1, h.2.1, h.2.2.1, fun c hc => by rw [hK c hc]; exact h.2.2.2 c hc⟩
/-- what is saved, there and here -/
def JS (D : xD) (B : Int) : Prop := ∀ a, a < 2 → (D 282 a = 0 ∧ D 354 a = 0) ∨ (D 282 a = 1 ∧ D 354 a = 1 ∧ ∃ mp, OKk B (kS D (6 + a)) mp ∧ CR D (283 + 34 * a) (kS D (6 + a)) mp)
/-- the pads -/
def JP (D : xD) (n : Nat) : Prop := D 73 1 = (n : Int) ∧ D 351 5 = (n : Int) ∧ tOk (D 355) n ∧ D 74 = D 355
/-- class and reference hold the same -/
def JX (D : xD) (r : xR) (B : Int) (np n s : Nat) (π q : Nat → Nat) : Prop :=
  rF r ∧ OKk B (D 352) np ∧ tz (D 352) ∧ CR D 5 (D 352) np ∧ HI D r s π (kS D) q ∧ (∀ c, c < s → OKk B (kS D c) (q c)) ∧ D 75 2 = 0 ∧ D 351 3 = (s : Int) ∧ JP D n ∧ JS D B
def JI (D : xD) (r : xR) (B : Int) : Prop := ∃ np n s π q, JX D r B np n s π q
theorem JX.hF {D : xD} {r : xR} {B : Int} {np n s : Nat} {π q : Nat → Nat} (h : JX D r B np n s π q) : rF r := h.1
theorem JX.ok {D : xD} {r : xR} {B : Int} {np n s : Nat} {π q : Nat → Nat} (h : JX D r B np n s π q) : OKk B (D 352) np := h.2.1
theorem JX.ht {D : xD} {r : xR} {B : Int} {np n s : Nat} {π q : Nat → Nat} (h : JX D r B np n s π q) : tz (D 352) := h.2.2.1
theorem JX.hC {D : xD} {r : xR} {B : Int} {np n s : Nat} {π q : Nat → Nat} (h : JX D r B np n s π q) : CR D 5 (D 352) np := h.2.2.2.1
theorem JX.hI {D : xD} {r : xR} {B : Int} {np n s : Nat} {π q : Nat → Nat} (h : JX D r B np n s π q) : HI D r s π (kS D) q := h.2.2.2.2.1
theorem JX.hK {D : xD} {r : xR} {B : Int} {np n s : Nat} {π q : Nat → Nat} (h : JX D r B np n s π q) : ∀ c, c < s → OKk B (kS D c) (q c) := h.2.2.2.2.2.1
theorem JX.hz {D : xD} {r : xR} {B : Int} {np n s : Nat} {π q : Nat → Nat} (h : JX D r B np n s π q) : D 75 2 = 0 := h.2.2.2.2.2.2.1
theorem JX.h3 {D : xD} {r : xR} {B : Int} {np n s : Nat} {π q : Nat → Nat} (h : JX D r B np n s π q) : D 351 3 = (s : Int) := h.2.2.2.2.2.2.2.1
theorem JX.hP {D : xD} {r : xR} {B : Int} {np n s : Nat} {π q : Nat → Nat} (h : JX D r B np n s π q) : JP D n := h.2.2.2.2.2.2.2.2.1
theorem JX.hV {D : xD} {r : xR} {B : Int} {np n s : Nat} {π q : Nat → Nat} (h : JX D r B np n s π q) : JS D B := h.2.2.2.2.2.2.2.2.2
theorem JX.s6 {D : xD} {r : xR} {B : Int} {np n s : Nat} {π q : Nat → Nat} (h : JX D r B np n s π q) : s ≤ 6 := h.hI.2.2.1
theorem JX.s0 {D : xD} {r : xR} {B : Int} {np n s : Nat} {π q : Nat → Nat} (h : JX D r B np n s π q) : 0 ≤ D 351 3 ∧ D 351 3 ≤ 6 := by have := h.s6; rw [h.h3]; omega
theorem JS.mono {D : xD} {B B' : Int} (h : JS D B) (hB : B ≤ B') (hB' : B' ≤ 2100000000) : JS D B' := fun a ha => by
  rcases h a ha with h1 | ⟨h1, h2, mp, h3, h4⟩
  · exact Or.inl h1
  · exact Or.inr ⟨h1, h2, mp, h3.mono hB hB', h4⟩
theorem JS.mv {D D' : xD} {B : Int} (h : JS D B) (h1 : D' 282 = D 282) (h2 : D' 354 = D 354) (hk : ∀ a, 6 ≤ a → a < 8 → kS D' a = kS D a) (hf : ∀ a, 283 ≤ a → a < 351 → D' a = D a) : JS D' B := fun a ha => by
  rw [h1, h2, hk (6 + a) (by omega) (by omega)]
  rcases h a ha with g | ⟨g1, g2, mp, g3, g4⟩
  · exact Or.inl g
  · exact Or.inr ⟨g1, g2, mp, g3, g4.eq g3.np (fun b hb1 hb2 => hf b (by omega) (by omega))⟩
theorem JX.mono {D : xD} {r : xR} {B B' : Int} {np n s : Nat} {π q : Nat → Nat} (h : JX D r B np n s π q) (hB : B ≤ B') (hB' : B' ≤ 2100000000) : JX D r B' np n s π q :=
  ⟨h.hF, h.ok.mono hB hB', h.ht, h.hC, h.hI, fun c hc => (h.hK c hc).mono hB hB', h.hz, h.h3, h.hP, h.hV.mono hB hB'⟩
/-- a change of the state, there and here -/
theorem JX.chg {D D1 : xD} {r r1 : xR} {B B' : Int} {np n s np' : Nat} {π q : Nat → Nat} {N' : Nat → Int} (h : JX D r B np n s π q) (hx : CX D r s (kS D) q (D 352) np N' np' D1 r1) (hO : OKk B' N' np') (ht : tz N') (hB : B ≤ B') (hB' : B' ≤ 2100000000) : JI (xw (rcD D1) 352 N') r1 B' := by
  obtain ⟨x1, x2, x3, x4, π', x5⟩ := hx
  have e351 : D1 351 = D 351 := x1 351 (by decide) (by omega) (by omega)
  have e352 : D1 352 = D 352 := x1 352 (by decide) (by omega) (by omega)
  have e353 : D1 353 = D 353 := x1 353 (by decide) (by omega) (by omega)
  have w352 : xw (rcD D1) 352 N' 352 = N' := xw_at _ _ _
  have w351 : xw (rcD D1) 352 N' 351 = fu (D 351) 3 (rcS (D 351) + 1) := by rw [xw_ne _ _ _ (by decide)]; unfold rcD; rw [xw_at, e351]
  have w353 : xw (rcD D1) 352 N' 353 = rcK (D 351) (D 353) (D 352) := by rw [xw_ne _ _ _ (by decide)]; unfold rcD; rw [xw_ne _ _ _ (by decide), xw_at, e351, e352, e353]
  have wo : ∀ a, a ≠ 351 → a ≠ 352 → a ≠ 353 → xw (rcD D1) 352 N' a = D1 a := fun a h1 h2 h3 => by rw [xw_ne _ _ _ h2]; unfold rcD; rw [xw_ne _ _ _ h1, xw_ne _ _ _ h3]
  have hs := h.s6
  have hk : ∀ c, c < hS s + 1 → kS (xw (rcD D1) 352 N') c = hPu s (kS D) (D 352) c := fun c hc => kS_rc h.h3 hs w353 h.ht hc
  have h5 : hS s ≤ 5 := by unfold hS; split <;> omega
  refine ⟨np', n, hS s + 1, π', hPu s q np, h.hF.mv x2, by rw [w352]; exact hO, by rw [w352]; exact ht, ?_, ?_, fun c hc => ?_, ?_, ?_, ?_, ?_⟩
  · rw [w352]; exact x4.eq hO.np (fun a h1 h2 => wo a (by omega) (by omega) (by omega))
  · exact (x5.cong (by rw [wo 75 (by decide) (by decide) (by decide)]) (fun a h1 h2 => wo a (by omega) (by omega) (by omega))).K hk
  · rw [hk c hc]
    unfold hPu
    by_cases hc1 : c = hS s
    · rw [if_pos hc1, if_pos hc1]; exact h.ok.mono hB hB'
    · rw [if_neg hc1, if_neg hc1]
      by_cases h6 : s = 6
      · have : hS s = 5 := if_pos h6
        rw [if_pos h6, if_pos h6]; exact (h.hK (c + 1) (by omega)).mono hB hB'
      · have : hS s = s := if_neg h6
        rw [if_neg h6, if_neg h6]; exact (h.hK c (by omega)).mono hB hB'
  · rw [wo 75 (by decide) (by decide) (by decide), x3]; exact h.hz
  · rw [w351, fu_at]
    have := rcS_n h.h3
    have h0 : 0 ≤ rcS (D 351) := by unfold rcS; have := h.s0; split <;> omega
    omega
  · obtain ⟨p1, p2, p3, p4⟩ := h.hP
    refine ⟨by rw [wo 73 (by decide) (by decide) (by decide), x1 73 (by decide) (by omega) (by omega)]; exact p1, by rw [w351, fu_ne _ _ _ (by decide)]; exact p2, ?_, ?_⟩
    · rw [wo 355 (by decide) (by decide) (by decide), x1 355 (by decide) (by omega) (by omega)]; exact p3
    · rw [wo 355 (by decide) (by decide) (by decide), wo 74 (by decide) (by decide) (by decide), x1 355 (by decide) (by omega) (by omega), x1 74 (by decide) (by omega) (by omega)]; exact p4
  · refine (h.hV.mono hB hB').mv ?_ ?_ (fun a h1 _ => kS_rc6 h.h3 hs w353 h1) (fun a h1 h2 => ?_)
    · rw [wo 282 (by decide) (by decide) (by decide), x1 282 (by decide) (by omega) (by omega)]
    · rw [wo 354 (by decide) (by decide) (by decide), x1 354 (by decide) (by omega) (by omega)]
    · rw [wo a (by omega) (by omega) (by omega), x1 a (by omega) (by omega) (by omega)]
