/-! ===== each call of the class, right or wrong, in one contract ===== -/
theorem MX.imp {d : Nat} {μ : xM} {av : List Value} {σ σ' : Nat × Nat} {D : xD} {r : xR} {P P' : Option Value → xD → xR → Prop} (h : MX d μ av σ D r σ' P) (hP : ∀ v D' r', P v D' r' → P' v D' r') : MX d μ av σ D r σ' P' := by
  intro l ω p e ha hc hk s m args below hf happ hp hk'
  obtain ⟨n, o, h1, h2, h3, ⟨⟨v, D', r', q1, q2, q3⟩, q4⟩, h5⟩ := h l ω p e ha hc hk s m args below hf happ hp hk'
  exact ⟨n, o, h1, h2, h3, ⟨⟨v, D', r', q1, hP _ _ _ q2, q3⟩, q4⟩, h5⟩
abbrev isE (v : Int) : Prop := v < 0 ∧ v ≠ -6
/-- what a call answers, the state behind it, its products -/
abbrev xT : Type := Int × (Nat → Int) × Nat
/-- the class holds the state N, the history K of s states -/
def Jc (D : xD) (r : xR) (N : Nat → Int) (np s : Nat) (K : Nat → Nat → Int) (q : Nat → Nat) : Prop := rF r ∧ CR D 5 N np ∧ (∃ π, HI D r s π K q) ∧ D 75 2 = 0 ∧ D 73 1 = 0
def TX (D : xD) (r : xR) (s : Nat) (K : Nat → Nat → Int) (q : Nat → Nat) (N : Nat → Int) (np : Nat) (t : xT) (D' : xD) (r' : xR) : Prop :=
  (isE t.1 ∧ t.2.1 = N ∧ t.2.2 = np ∧ D' = D ∧ r' = r) ∨ (¬ isE t.1 ∧ CX D r s K q N np t.2.1 t.2.2 D' r')
abbrev TP (d : Nat) (μ : xM) (av : List Value) (z : Nat) (D : xD) (r : xR) (s : Nat) (K : Nat → Nat → Int) (q : Nat → Nat) (N : Nat → Int) (np : Nat) (t : xT) : Prop := MX d μ av (351, z) D r (351, z) (xRs (vi t.1) (TX D r s K q N np t))
theorem TP.no {d : Nat} {μ : xM} {av : List Value} {z : Nat} {D : xD} {r : xR} {s : Nat} {K : Nat → Nat → Int} {q : Nat → Nat} {N : Nat → Int} {np : Nat} {e : Int} {t : xT} (h : MX d μ av (351, z) D r (351, z) (xP (vi e) D r)) (ht : t = (e, N, np)) (he : isE e) : TP d μ av z D r s K q N np t := by
  subst ht
  exact h.imp (fun v D' r' hv => ⟨hv.1, Or.inl ⟨he, rfl, rfl, hv.2.1, hv.2.2⟩⟩)
theorem TP.yes {d : Nat} {μ : xM} {av : List Value} {z : Nat} {D : xD} {r : xR} {s : Nat} {K : Nat → Nat → Int} {q : Nat → Nat} {N N' : Nat → Int} {np np' : Nat} {e : Int} {t : xT} (h : MX d μ av (351, z) D r (351, z) (xRs (vi e) (CX D r s K q N np N' np'))) (ht : t = (e, N', np')) (he : ¬ isE e) : TP d μ av z D r s K q N np t := by
  subst ht
  exact h.imp (fun v D' r' hv => ⟨hv.1, Or.inr ⟨he, hv.2⟩⟩)
def tSet (N : Nat → Int) (np : Nat) (a b : Int) : xT := if (0 ≤ a ∧ a < 9) ∧ leastOf a.toNat ≤ b ∧ b ≤ mostOf a.toNat then (N (5 + a.toNat), fu N (5 + a.toNat) b, np) else (-2, N, np)
def tPro (N : Nat → Int) (np : Nat) (fa sz lh sh st : Int) : xT := if (0 ≤ fa ∧ fa ≤ 3) ∧ (1 ≤ sz ∧ sz ≤ 100) ∧ (1 ≤ lh ∧ lh ≤ 50) ∧ (0 ≤ sh ∧ sh ≤ 20) ∧ 0 ≤ st ∧ st ≤ 10000 then (if np < 10 then ((np : Int), nNew N np fa sz lh sh st, np + 1) else (-4, N, np)) else (-2, N, np)
def tFam (N : Nat → Int) (np : Nat) (f b : Int) : xT := if 0 ≤ f ∧ f ≤ 3 then (if 0 ≤ b ∧ b ≤ 50 then (N (14 + f.toNat), fu N (14 + f.toNat) b, np) else (-2, N, np)) else (-1, N, np)
def tFor (N : Nat → Int) (np : Nat) (p w u : Int) : xT := if eF np p w u = 0 then (pF N p.toNat (12 + w.toNat), fu N (18 + 36 * p.toNat + (12 + w.toNat)) u, np) else (eF np p w u, N, np)
def tAct (N : Nat → Int) (np : Nat) (p u : Int) : xT := if eA np p u = 0 then (pF N p.toNat 7, fu N (18 + 36 * p.toNat + 7) u, np) else (eA np p u, N, np)
def tLot (N : Nat → Int) (np : Nat) (p w u : Int) : xT := if eL N np p w u = 0 then (pF N p.toNat (24 + w.toNat), fu N (18 + 36 * p.toNat + (24 + w.toNat)) u, np) else (eL N np p w u, N, np)
def tPla (N : Nat → Int) (np : Nat) : xT := (nLots (nPlan np (N 7).toNat N) np, nPlan np (N 7).toNat N, np)
def tWee (N : Nat → Int) (np : Nat) (m : Int) : xT := if 1 ≤ m ∧ m ≤ 30 then (nPs np (N 7).toNat m.toNat N 0, nPs np (N 7).toNat m.toNat N, np) else (-2, N, np)
def tRes (N : Nat → Int) (np : Nat) (sv : Nat → Int) (M : Nat → Nat → Int) (mp : Nat → Nat) (a : Int) : xT := if 0 ≤ a ∧ a ≤ 1 then (if sv a.toNat = 1 then (M a.toNat 0, M a.toNat, mp a.toNat) else (-5, N, np)) else (-2, N, np)
/-- stock, backlog and the sums of a product agree -/
def RT (N : Nat → Int) (np : Nat) : Prop := ∀ p, p < np → pF N p 4 = pF N p 11 + pF N p 8 - pF N p 9 ∧ pF N p 5 = pF N p 10 - pF N p 9 ∧ (pF N p 4 = 0 ∨ pF N p 5 = 0)
/-- a state in its ranges, whose sums agree -/
def GS (B : Int) (N : Nat → Int) (np : Nat) : Prop := OKk B N np ∧ RT N np ∧ 50000 ≤ B
theorem GS.ok {B : Int} {N : Nat → Int} {np : Nat} (h : GS B N np) : OKk B N np := h.1
theorem GS.mono {B B' : Int} {N : Nat → Int} {np : Nat} (h : GS B N np) (hB : B ≤ B') (hB' : B' ≤ 2100000000) : GS B' N np := ⟨h.1.mono hB hB', h.2.1, by have := h.2.2; omega⟩
theorem GS.np {B : Int} {N : Nat → Int} {np : Nat} (h : GS B N np) : np ≤ 10 := h.1.np
/-- what is saved: nothing, or a state -/
def SL (D : xD) (B : Int) (sv : Nat → Int) (M : Nat → Nat → Int) (mp : Nat → Nat) : Prop := ∀ a, a < 2 → D 282 a = sv a ∧ (sv a = 0 ∨ sv a = 1 ∧ GS B (M a) (mp a) ∧ CR D (283 + 34 * a) (M a) (mp a))
section CALLS
variable {z : Nat} {D : xD} {r : xR} {N : Nat → Int} {np s : Nat} {K : Nat → Nat → Int} {q : Nat → Nat} {B : Int}
theorem tt_set (h : Jc D r N np s K q) (hG : GS B N np) (a b : Int) (ia : xI a) (ib : xI b) : TP 4 mX4_set [.ref 4, vi a, vi b] z D r s K q N np (tSet N np a b) := by
  obtain ⟨hF, hC, ⟨π, hI⟩, hz, -⟩ := h
  by_cases hk : (0 ≤ a ∧ a < 9) ∧ leastOf a.toNat ≤ b ∧ b ≤ mostOf a.toNat
  · obtain ⟨w, rfl⟩ := Int.eq_ofNat_of_zero_le hk.1.1
    have hw : w < 9 := by omega
    have hb : leastOf w ≤ b ∧ b ≤ mostOf w := hk.2
    refine TP.yes (c_X4_set D r hF hC hG.np w b hw ib hb hI hz) (if_pos hk) ?_
    have h5 := hG.1.1.1.2.2.2.1
    have h9 : w = 0 ∨ w = 1 ∨ w = 2 ∨ w = 3 ∨ w = 4 ∨ w = 5 ∨ w = 6 ∨ w = 7 ∨ w = 8 := by omega
    rcases h9 with rfl | rfl | rfl | rfl | rfl | rfl | rfl | rfl | rfl <;> simp only [Nat.reduceAdd] <;> omega
  · refine TP.no (c_X4_set_err D r a b ia ib (fun w hw h9 => ?_)) (if_neg hk) (by decide)
    subst hw
    have : ¬ (leastOf w ≤ b ∧ b ≤ mostOf w) := fun hh => hk ⟨⟨by omega, by omega⟩, hh⟩
    omega
theorem tt_pro (h : Jc D r N np s K q) (hG : GS B N np) (fa sz lh sh st : Int) (i1 : xI fa) (i2 : xI sz) (i3 : xI lh) (i4 : xI sh) (i5 : xI st) : TP 4 mX4_product [.ref 4, vi fa, vi sz, vi lh, vi sh, vi st] z D r s K q N np (tPro N np fa sz lh sh st) := by
  obtain ⟨hF, hC, ⟨π, hI⟩, hz, -⟩ := h
  by_cases hP : (0 ≤ fa ∧ fa ≤ 3) ∧ (1 ≤ sz ∧ sz ≤ 100) ∧ (1 ≤ lh ∧ lh ≤ 50) ∧ (0 ≤ sh ∧ sh ≤ 20) ∧ 0 ≤ st ∧ st ≤ 10000
  · have hnp := hG.np
    by_cases h10 : np < 10
    · exact TP.yes (c_X4_product D r hF hC hnp fa sz lh sh st i1 i2 i3 i4 i5 hP h10 hI hz) ((if_pos hP).trans (if_pos h10)) (by omega)
    · exact TP.no (c_X4_product_many D r hF fa sz lh sh st i1 i2 i3 i4 i5 hP (by rw [hC.1]; omega)) ((if_pos hP).trans (if_neg h10)) (by decide)
  · exact TP.no (c_X4_product_bad D r fa sz lh sh st i1 i2 i3 i4 i5 hP) (if_neg hP) (by decide)
theorem tt_fam (h : Jc D r N np s K q) (hG : GS B N np) (f b : Int) (i1 : xI f) (i2 : xI b) : TP 4 mX4_family [.ref 4, vi f, vi b] z D r s K q N np (tFam N np f b) := by
  obtain ⟨hF, hC, ⟨π, hI⟩, hz, -⟩ := h
  by_cases hf : 0 ≤ f ∧ f ≤ 3
  · by_cases hb : 0 ≤ b ∧ b ≤ 50
    · obtain ⟨w, rfl⟩ := Int.eq_ofNat_of_zero_le hf.1
      refine TP.yes (c_X4_family D r hF hC hG.np w b (by omega) hb hI hz) ((if_pos hf).trans (if_pos hb)) ?_
      have := hG.1.1.1.2.2.2.2.1 w (by omega)
      have e : ((w : Nat) : Int).toNat = w := rfl
      omega
    · exact TP.no (c_X4_family_bad D r f b i1 i2 hf (by omega)) ((if_pos hf).trans (if_neg hb)) (by decide)
  · exact TP.no (c_X4_family_no D r f b i1 (by omega)) (if_neg hf) (by decide)
theorem tt_for (h : Jc D r N np s K q) (hG : GS B N np) (p w u : Int) (i1 : xI p) (i2 : xI w) (i3 : xI u) : TP 4 mX4_forecast [.ref 4, vi p, vi w, vi u] z D r s K q N np (tFor N np p w u) := by
  obtain ⟨hF, hC, ⟨π, hI⟩, hz, -⟩ := h
  by_cases he : eF np p w u = 0
  · obtain ⟨h1, h2, h3⟩ := eF_0 he
    have ht : tFor N np p w u = _ := if_pos he
    obtain ⟨p, rfl⟩ := Int.eq_ofNat_of_zero_le h1.1
    obtain ⟨w, rfl⟩ := Int.eq_ofNat_of_zero_le h2.1
    refine TP.yes (c_X4_forecast D r hF hC hG.np p w u (by omega) (by omega) h3 hI hz) ht ?_
    have := hG.1.1.1.fc (p := p) (k := w) (by omega) (by omega)
    omega
  · have := eF_le np p w u
    exact TP.no (c_X4_forecast_err D r hF hC hG.np p w u i1 i2 i3 he) (if_neg he) (by omega)
theorem tt_act (h : Jc D r N np s K q) (hG : GS B N np) (p u : Int) (i1 : xI p) (i3 : xI u) : TP 4 mX4_actual [.ref 4, vi p, vi u] z D r s K q N np (tAct N np p u) := by
  obtain ⟨hF, hC, ⟨π, hI⟩, hz, -⟩ := h
  by_cases he : eA np p u = 0
  · obtain ⟨h1, h3⟩ := eA_0 he
    have ht : tAct N np p u = _ := if_pos he
    obtain ⟨p, rfl⟩ := Int.eq_ofNat_of_zero_le h1.1
    refine TP.yes (c_X4_actual D r hF hC hG.np p u (by omega) i3 h3 hI hz) ht ?_
    have := (hG.1.1.1.2.2.2.2.2 p (by omega)).2.2.2.2.2.2.2.1
    omega
  · have := eA_le np p u
    exact TP.no (c_X4_actual_err D r hF hC hG.np p u i1 i3 he) (if_neg he) (by omega)
theorem tt_lot (h : Jc D r N np s K q) (hG : GS B N np) (p w u : Int) (i1 : xI p) (i2 : xI w) (i3 : xI u) : TP 4 mX4_lots [.ref 4, vi p, vi w, vi u] z D r s K q N np (tLot N np p w u) := by
  obtain ⟨hF, hC, ⟨π, hI⟩, hz, -⟩ := h
  by_cases he : eL N np p w u = 0
  · obtain ⟨h1, h2, h3⟩ := eL_0 he
    have ht : tLot N np p w u = _ := if_pos he
    obtain ⟨p, rfl⟩ := Int.eq_ofNat_of_zero_le h1.1
    obtain ⟨w, rfl⟩ := Int.eq_ofNat_of_zero_le h2.1
    have hE : ¬ ((w : Int) < N 7 ∨ (N 5 + N 6 < nHours (fu N (18 + 36 * p + (24 + w)) u) np w ∧ nHours N np w < nHours (fu N (18 + 36 * p + (24 + w)) u) np w)) := by
      intro hh
      unfold eL at he
      rw [if_pos ⟨h1, h2⟩, if_pos h3] at he
      split at he
      · exact absurd he (by decide)
      · rename_i hn
        exact hn hh
    refine TP.yes (c_X4_lots D r hF hC hG.1.1 p w u (by omega) (by omega) h3 hE hI hz) ht ?_
    have := hG.1.1.1.lots (p := p) (k := w) (by omega) (by omega)
    omega
  · have := eL_le N np p w u
    have h6 : eL N np p w u ≠ -6 := by omega
    exact TP.no (c_X4_lots_err D r hF hC hG.1.1 p w u i1 i2 i3 he) (if_neg he) (by omega)
theorem tt_pla (h : Jc D r N np s K q) (hG : GS B N np) : TP 4 mX4_plan [.ref 4] z D r s K q N np (tPla N np) := by
  obtain ⟨hF, hC, ⟨π, hI⟩, hz, -⟩ := h
  obtain ⟨f, h7, hf⟩ := hG.1.f
  refine TP.yes (c_X4_plan D r hF hC hG.1.1 f h7 hf hI hz) (by unfold tPla; rw [h7]; rfl) ?_
  have := nLots_le (nPlan_I hG.1.1 hf).1 np (Nat.le_refl _)
  omega
theorem tt_wee (h : Jc D r N np s K q) (hG : GS B N np) (hB : B + 60000 ≤ 2100000000) (m : Int) (i1 : xI m) : TP 4 mX4_weeks [.ref 4, vi m] z D r s K q N np (tWee N np m) := by
  obtain ⟨hF, hC, ⟨π, hI⟩, hz, -⟩ := h
  obtain ⟨f, h7, hf⟩ := hG.1.f
  by_cases hm : 1 ≤ m ∧ m ≤ 30
  · obtain ⟨m, rfl⟩ := Int.eq_ofNat_of_zero_le (show 0 ≤ m by omega)
    refine TP.yes (c_X4_weeks D r hF hC hG.1.1 f h7 hf m (by omega) (by omega) hI hz) (by unfold tWee; rw [if_pos hm, h7]; rfl) ?_
    rw [nPs_0]
    have := hG.1.2.1
    omega
  · exact TP.no (c_X4_weeks_bad D r m i1 hm) (if_neg hm) (by decide)
theorem tt_res {sv : Nat → Int} {M : Nat → Nat → Int} {mp : Nat → Nat} (h : Jc D r N np s K q) (hG : GS B N np) (hS : SL D B sv M mp) (a : Int) (i1 : xI a) : TP 4 mX4_restore [.ref 4, vi a] z D r s K q N np (tRes N np sv M mp a) := by
  obtain ⟨hF, hC, ⟨π, hI⟩, hz, -⟩ := h
  by_cases ha : 0 ≤ a ∧ a ≤ 1
  · have ht : tRes N np sv M mp a = _ := if_pos ha
    obtain ⟨a, rfl⟩ := Int.eq_ofNat_of_zero_le ha.1
    have ha2 : a < 2 := by omega
    obtain ⟨g0, g⟩ := hS a ha2
    rcases g with g | ⟨g1, g2, g3⟩
    · exact TP.no (c_X4_restore0 D r hF a ha2 (by rw [g0]; exact g)) (ht.trans (if_neg (by show ¬ sv a = 1; omega))) (by decide)
    · refine TP.yes (c_X4_restore D r hF hC hG.np a ha2 (by rw [g0]; exact g1) g3 g2.np hI hz) (ht.trans (if_pos g1)) ?_
      have := g2.1.2.1
      omega
  · exact TP.no (c_X4_restore_err D r a i1 (by omega)) (if_neg ha) (by decide)
end CALLS
