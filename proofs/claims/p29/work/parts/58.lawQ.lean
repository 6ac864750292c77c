/-! ===== what each call keeps ===== -/
theorem RT.fux {N : Nat → Int} {np j : Nat} {e : Int} (h : RT N np) (hj : ∀ p i, p < np → (i = 4 ∨ i = 5 ∨ i = 8 ∨ i = 9 ∨ i = 10 ∨ i = 11) → 18 + 36 * p + i ≠ j) : RT (fu N j e) np := fun p hp => by
  have g : ∀ i, (i = 4 ∨ i = 5 ∨ i = 8 ∨ i = 9 ∨ i = 10 ∨ i = 11) → pF (fu N j e) p i = pF N p i := fun i hi => fu_ne _ _ _ (hj p i hp hi)
  rw [g 4 (by omega), g 5 (by omega), g 8 (by omega), g 9 (by omega), g 10 (by omega), g 11 (by omega)]
  exact h p hp
theorem nPlan_keep (np f : Nat) (N : Nat → Int) {p i : Nat} (hi : i < 24 + f) (hf : f ≤ 8) : pF (nPlan np f N) p i = pF N p i := by
  unfold nPlan
  rw [nPlW_keep np f (by omega) _ _ (by omega) (Or.inl hi)]
  by_cases hp : p < np
  · rw [nMap_at N _ hp (by omega)]
    unfold rZ
    rw [if_neg (by omega)]
    rfl
  · exact nMap_ge N _ (by omega)
theorem RT.plan {N : Nat → Int} {np f : Nat} (h : RT N np) (hf : f ≤ 8) : RT (nPlan np f N) np := fun p hp => by
  rw [nPlan_keep np f N (by omega) hf, nPlan_keep np f N (by omega) hf, nPlan_keep np f N (by omega) hf, nPlan_keep np f N (by omega) hf, nPlan_keep np f N (by omega) hf, nPlan_keep np f N (by omega) hf]
  exact h p hp
theorem RT.step {N : Nat → Int} {np : Nat} (h : RT N np) : RT (nStep N np) np := fun p hp => by
  obtain ⟨h1, h2, h3⟩ := h p hp
  have g : ∀ i, i < 12 → i ≠ 7 → pF (nStep N np) p i = rShip (nRec N p) i := fun i hi h7 => by
    rw [nStep_p N hp (by omega), nMap_at N _ hp (by omega), rRoll_ne _ hi h7]
  have e : ∀ j, nRec N p j = pF N p j := fun j => rfl
  rw [g 4 (by decide) (by decide), g 5 (by decide) (by decide), g 8 (by decide) (by decide), g 9 (by decide) (by decide), g 10 (by decide) (by decide), g 11 (by decide) (by decide)]
  have s11 : rShip (nRec N p) 11 = pF N p 11 := rShip_ne _ (by decide) (by decide) (by decide) (by decide) (by decide) (by decide)
  have s10 : rShip (nRec N p) 10 = nRec N p 10 + rCame (nRec N p) := fu_at _ _ _
  have s9 : rShip (nRec N p) 9 = nRec N p 9 + rSent (nRec N p) := (fu_ne _ _ _ (by decide)).trans (fu_at _ _ _)
  have s8 : rShip (nRec N p) 8 = nRec N p 8 + nRec N p 24 * nRec N p 1 := (fu_ne _ _ _ (by decide)).trans ((fu_ne _ _ _ (by decide)).trans (fu_at _ _ _))
  have s5 : rShip (nRec N p) 5 = rWant (nRec N p) - rSent (nRec N p) := (fu_ne _ _ _ (by decide)).trans ((fu_ne _ _ _ (by decide)).trans ((fu_ne _ _ _ (by decide)).trans ((fu_ne _ _ _ (by decide)).trans (fu_at _ _ _))))
  have s4 : rShip (nRec N p) 4 = rHave (nRec N p) - rSent (nRec N p) := (fu_ne _ _ _ (by decide)).trans ((fu_ne _ _ _ (by decide)).trans ((fu_ne _ _ _ (by decide)).trans ((fu_ne _ _ _ (by decide)).trans ((fu_ne _ _ _ (by decide)).trans (fu_at _ _ _)))))
  have w : rWant (nRec N p) = rCame (nRec N p) + nRec N p 5 := rfl
  have v : rHave (nRec N p) = nRec N p 4 + nRec N p 24 * nRec N p 1 := rfl
  have S : rSent (nRec N p) = rWant (nRec N p) ∨ rSent (nRec N p) = rHave (nRec N p) := by
    unfold rSent
    split
    · exact Or.inl rfl
    · exact Or.inr rfl
  rw [w, v] at S
  rw [s11, s10, s9, s8, s5, s4, w, v]
  simp only [e] at S ⊢
  generalize pF N p 24 * pF N p 1 = m at S ⊢
  omega
theorem RT.pass {N : Nat → Int} {np f : Nat} (h : RT N np) (hf : f ≤ 8) : RT (nPass np f N) np := by
  unfold nPass
  exact (h.step.fux (fun p i _ _ => by omega)).plan hf
theorem RT.ps {np f : Nat} (hf : f ≤ 8) : ∀ k (N : Nat → Int), RT N np → RT (nPs np f k N) np := by
  intro k
  induction k with
  | zero => intro N h; exact h
  | succ k ih => intro N h; unfold nPs; exact (ih N h).pass hf
theorem RT.new {N : Nat → Int} {np : Nat} {fa sz lh sh st : Int} (h : RT N np) : RT (nNew N np fa sz lh sh st) (np + 1) := fun p hp => by
  by_cases hpn : p < np
  · have g : ∀ i, i < 36 → pF (nNew N np fa sz lh sh st) p i = pF N p i := fun i hi => nNew_old N np fa sz lh sh st (Or.inl (by omega)) (by omega)
    rw [g 4 (by decide), g 5 (by decide), g 8 (by decide), g 9 (by decide), g 10 (by decide), g 11 (by decide)]
    exact h p hpn
  · obtain rfl : p = np := by omega
    have z : ∀ i, i < 36 → i ≠ 0 → i ≠ 1 → i ≠ 2 → i ≠ 3 → i ≠ 4 → i ≠ 11 → i ≠ 7 → pF (nNew N p fa sz lh sh st) p i = 0 := fun i hi a0 a1 a2 a3 a4 a11 a7 => by
      unfold nNew
      simp only [pF]
      rw [fu_ne _ _ _ (by omega), fu_ne _ _ _ (by omega), fu_ne _ _ _ (by omega), fu_ne _ _ _ (by omega), fu_ne _ _ _ (by omega), fu_ne _ _ _ (by omega), fu_ne _ _ _ (by omega)]
      unfold nWp
      rw [if_pos (by omega)]
    have g11 : pF (nNew N p fa sz lh sh st) p 11 = st := (fu_ne _ _ _ (by omega)).trans (fu_at _ _ _)
    have g4 : pF (nNew N p fa sz lh sh st) p 4 = st := (fu_ne _ _ _ (by omega)).trans ((fu_ne _ _ _ (by omega)).trans (fu_at _ _ _))
    rw [z 5 (by decide) (by decide) (by decide) (by decide) (by decide) (by decide) (by decide) (by decide), z 8 (by decide) (by decide) (by decide) (by decide) (by decide) (by decide) (by decide) (by decide), z 9 (by decide) (by decide) (by decide) (by decide) (by decide) (by decide) (by decide) (by decide), z 10 (by decide) (by decide) (by decide) (by decide) (by decide) (by decide) (by decide) (by decide), g11, g4]
    omega
/-- what a change leaves is in its ranges again -/
def TG (B : Int) (t : xT) : Prop := GS (B + 200000) t.2.1 t.2.2
section KEEPS
variable {N : Nat → Int} {np : Nat} {B : Int}
theorem TG.id (hG : GS B N np) (hB : B + 200000 ≤ 2100000000) (e : Int) : TG B (e, N, np) := hG.mono (by omega) hB
theorem TG.of {N' : Nat → Int} {np' : Nat} {e : Int} (hG : GS B N np) (hB : B + 200000 ≤ 2100000000) {B1 : Int} (hV : nV B1 np' N') (h1 : B1 ≤ B + 200000) (h0 : 0 ≤ N' 0 ∧ N' 0 ≤ B + 200000) (hR : RT N' np') : TG B (e, N', np') := ⟨⟨hV.mono h1 hB, h0.1, h0.2⟩, hR, by show 50000 ≤ B + 200000; have := hG.2.2; omega⟩
theorem g_set (hG : GS B N np) (hB : B + 200000 ≤ 2100000000) (a b : Int) : TG B (tSet N np a b) := by
  unfold tSet
  split
  · rename_i hk
    obtain ⟨w, rfl⟩ := Int.eq_ofNat_of_zero_le hk.1.1
    have hw : w < 9 := by omega
    have h0 := hG.1.2
    refine TG.of hG hB (hG.1.1.set hw hk.2) (by omega) ?_ (hG.2.1.fux (fun p i hp hi => ?_))
    · rw [fu_ne _ _ _ (by omega)]; omega
    · have e : ((w : Nat) : Int).toNat = w := rfl
      omega
  · exact TG.id hG hB _
theorem g_pro (hG : GS B N np) (hB : B + 200000 ≤ 2100000000) (fa sz lh sh st : Int) : TG B (tPro N np fa sz lh sh st) := by
  unfold tPro
  split
  · rename_i hk
    split
    · rename_i h10
      have h0 := hG.1.2
      refine TG.of hG hB (hG.1.1.new hG.2.2 h10 hk) (by omega) ?_ hG.2.1.new
      rw [nNew_old N np fa sz lh sh st (Or.inl (by omega)) (by omega)]; omega
    · exact TG.id hG hB _
  · exact TG.id hG hB _
theorem g_fam (hG : GS B N np) (hB : B + 200000 ≤ 2100000000) (f b : Int) : TG B (tFam N np f b) := by
  unfold tFam
  split
  · rename_i hk
    split
    · rename_i hb
      obtain ⟨w, rfl⟩ := Int.eq_ofNat_of_zero_le hk.1
      have e : ((w : Nat) : Int).toNat = w := rfl
      have h0 := hG.1.2
      refine TG.of hG hB (hG.1.1.fam (f := w) (by omega) hb) (by omega) ?_ (hG.2.1.fux (fun p i hp hi => ?_))
      · rw [fu_ne _ _ _ (by omega)]; omega
      · omega
    · exact TG.id hG hB _
  · exact TG.id hG hB _
theorem g_for (hG : GS B N np) (hB : B + 200000 ≤ 2100000000) (p w u : Int) : TG B (tFor N np p w u) := by
  unfold tFor
  split
  · rename_i he
    obtain ⟨h1, h2, h3⟩ := eF_0 he
    obtain ⟨p, rfl⟩ := Int.eq_ofNat_of_zero_le h1.1
    obtain ⟨w, rfl⟩ := Int.eq_ofNat_of_zero_le h2.1
    have e : ((w : Nat) : Int).toNat = w := rfl
    have e2 : ((p : Nat) : Int).toNat = p := rfl
    have h0 := hG.1.2
    refine TG.of hG hB (hG.1.1.fcs (p := p) (k := w) (by omega) (by omega) h3) (by omega) ?_ (hG.2.1.fux (fun p' i hp hi => ?_))
    · rw [fu_ne _ _ _ (by omega)]; omega
    · omega
  · exact TG.id hG hB _
theorem g_act (hG : GS B N np) (hB : B + 200000 ≤ 2100000000) (p u : Int) : TG B (tAct N np p u) := by
  unfold tAct
  split
  · rename_i he
    obtain ⟨h1, h3⟩ := eA_0 he
    obtain ⟨p, rfl⟩ := Int.eq_ofNat_of_zero_le h1.1
    have e2 : ((p : Nat) : Int).toNat = p := rfl
    have h0 := hG.1.2
    refine TG.of hG hB (hG.1.1.told (p := p) (by omega) h3) (by omega) ?_ (hG.2.1.fux (fun p' i hp hi => ?_))
    · rw [fu_ne _ _ _ (by omega)]; omega
    · omega
  · exact TG.id hG hB _
theorem g_lot (hG : GS B N np) (hB : B + 200000 ≤ 2100000000) (p w u : Int) : TG B (tLot N np p w u) := by
  unfold tLot
  split
  · rename_i he
    obtain ⟨h1, h2, h3⟩ := eL_0 he
    obtain ⟨p, rfl⟩ := Int.eq_ofNat_of_zero_le h1.1
    obtain ⟨w, rfl⟩ := Int.eq_ofNat_of_zero_le h2.1
    have e : ((w : Nat) : Int).toNat = w := rfl
    have e2 : ((p : Nat) : Int).toNat = p := rfl
    have h0 := hG.1.2
    refine TG.of hG hB (hG.1.1.lots (by omega) (p := p) (w := w) (by omega) (by omega) h3) (by omega) ?_ (hG.2.1.fux (fun p' i hp hi => ?_))
    · rw [fu_ne _ _ _ (by omega)]; omega
    · omega
  · exact TG.id hG hB _
theorem g_pla (hG : GS B N np) (hB : B + 200000 ≤ 2100000000) : TG B (tPla N np) := by
  obtain ⟨f, h7, hf⟩ := hG.1.f
  have e : (N 7).toNat = f := by rw [h7]; rfl
  have h0 := hG.1.2
  unfold tPla
  rw [e]
  refine TG.of hG hB (nPlan_I hG.1.1 hf) (by omega) ?_ (hG.2.1.plan hf)
  rw [nPlan_hd np f N (by decide)]; omega
theorem g_wee (hG : GS B N np) (hB : B + 200000 ≤ 2100000000) (m : Int) : TG B (tWee N np m) := by
  obtain ⟨f, h7, hf⟩ := hG.1.f
  have e : (N 7).toNat = f := by rw [h7]; rfl
  have h0 := hG.1.2
  unfold tWee
  rw [e]
  split
  · rename_i hm
    obtain ⟨m, rfl⟩ := Int.eq_ofNat_of_zero_le (show 0 ≤ m by omega)
    have e2 : ((m : Nat) : Int).toNat = m := rfl
    rw [e2]
    refine TG.of hG hB (nPs_I hf m N hG.1.1 (by omega)) (by omega) ?_ (RT.ps hf m N hG.2.1)
    rw [nPs_0]; omega
  · exact TG.id hG hB _
theorem g_res {sv : Nat → Int} {M : Nat → Nat → Int} {mp : Nat → Nat} {D : xD} (hG : GS B N np) (hB : B + 200000 ≤ 2100000000) (hS : SL D B sv M mp) (a : Int) : TG B (tRes N np sv M mp a) := by
  unfold tRes
  split
  · rename_i ha
    split
    · rename_i h1
      obtain ⟨a, rfl⟩ := Int.eq_ofNat_of_zero_le ha.1
      have e : ((a : Nat) : Int).toNat = a := rfl
      rw [e] at h1 ⊢
      rcases (hS a (by omega)).2 with g | ⟨-, g, -⟩
      · omega
      · exact g.mono (by omega) hB
    · exact TG.id hG hB _
  · exact TG.id hG hB _
end KEEPS
/-! ===== the whole: class, history, slots ===== -/
def Js (D : xD) (r : xR) (B : Int) (N : Nat → Int) (np s : Nat) (K : Nat → Nat → Int) (q : Nat → Nat) (sv : Nat → Int) (M : Nat → Nat → Int) (mp : Nat → Nat) : Prop :=
  Jc D r N np s K q ∧ GS B N np ∧ (∀ c, c < s → GS B (K c) (q c)) ∧ SL D B sv M mp
section JS
variable {D D' : xD} {r r' : xR} {N : Nat → Int} {np s : Nat} {K : Nat → Nat → Int} {q : Nat → Nat} {B B' : Int} {sv : Nat → Int} {M : Nat → Nat → Int} {mp : Nat → Nat}
theorem SL.mono (h : SL D B sv M mp) (hB : B ≤ B') (hB' : B' ≤ 2100000000) : SL D B' sv M mp := fun a ha => by
  obtain ⟨g0, g⟩ := h a ha
  refine ⟨g0, ?_⟩
  rcases g with g | ⟨g1, g2, g3⟩
  · exact Or.inl g
  · exact Or.inr ⟨g1, g2.mono hB hB', g3⟩
theorem SL.mv (h : SL D B sv M mp) (h1 : D' 282 = D 282) (hf : ∀ a, 283 ≤ a → a < 351 → D' a = D a) : SL D' B sv M mp := fun a ha => by
  obtain ⟨g0, g⟩ := h a ha
  refine ⟨by rw [h1]; exact g0, ?_⟩
  rcases g with g | ⟨g1, g2, g3⟩
  · exact Or.inl g
  · exact Or.inr ⟨g1, g2, g3.eq g2.np (fun b hb1 hb2 => hf b (by omega) (by omega))⟩
theorem Js.mono (h : Js D r B N np s K q sv M mp) (hB : B ≤ B') (hB' : B' ≤ 2100000000) : Js D r B' N np s K q sv M mp := ⟨h.1, h.2.1.mono hB hB', fun c hc => (h.2.2.1 c hc).mono hB hB', h.2.2.2.mono hB hB'⟩
theorem Js.s6 (h : Js D r B N np s K q sv M mp) : s ≤ 6 := by
  obtain ⟨⟨-, -, ⟨π, hI⟩, -⟩, -⟩ := h
  exact hI.2.2.1
theorem hS5 (s : Nat) (hs : s ≤ 6) : hS s ≤ 5 := by unfold hS; split <;> omega
theorem Js.chg {N' : Nat → Int} {np' : Nat} (h : Js D r B N np s K q sv M mp) (hx : CX D r s K q N np N' np' D' r') (hO : GS B' N' np') (hB : B ≤ B') (hB' : B' ≤ 2100000000) : Js D' r' B' N' np' (hS s + 1) (hPu s K N) (hPu s q np) sv M mp := by
  have hs := h.s6
  obtain ⟨⟨hF, hC, ⟨π, hI⟩, hz, hp⟩, hG, hK, hV⟩ := h
  obtain ⟨x1, x2, x3, x4, π', x5⟩ := hx
  refine ⟨⟨hF.mv x2, x4, ⟨π', x5⟩, by rw [x3]; exact hz, by rw [x1 73 (by decide) (by omega) (by omega)]; exact hp⟩, hO, fun c hc => ?_, (hV.mono hB hB').mv (x1 282 (by decide) (by omega) (by omega)) (fun a h1 h2 => x1 a (by omega) (by omega) (by omega))⟩
  unfold hPu
  by_cases hc1 : c = hS s
  · rw [if_pos hc1, if_pos hc1]; exact hG.mono hB hB'
  · rw [if_neg hc1, if_neg hc1]
    by_cases h6 : s = 6
    · have : hS s = 5 := if_pos h6
      rw [if_pos h6, if_pos h6]; exact (hK (c + 1) (by omega)).mono hB hB'
    · have : hS s = s := if_neg h6
      rw [if_neg h6, if_neg h6]; exact (hK c (by omega)).mono hB hB'
theorem Js.back (h : Js D r B N np (s + 1) K q sv M mp) {π : Nat → Nat} (hc : CR D' 5 (K s) (q s)) (hi : HI D' r s π K q) (h2 : D' 75 2 = D 75 2) (hf : ∀ a, a ≠ 75 → (a < 5 ∨ 39 ≤ a) → D' a = D a) : Js D' r B (K s) (q s) s K q sv M mp := by
  obtain ⟨⟨hF, hC, hI, hz, hp⟩, hG, hK, hV⟩ := h
  exact ⟨⟨hF, hc, ⟨π, hi⟩, by rw [h2]; exact hz, by rw [hf 73 (by decide) (by omega)]; exact hp⟩, hK s (by omega), fun c hc => hK c (by omega), hV.mv (hf 282 (by decide) (by omega)) (fun a h1 h2 => hf a (by omega) (by omega))⟩
theorem Js.sav (h : Js D r B N np s K q sv M mp) {a : Nat} (ha : a < 2) (hc : CR D' (283 + 34 * a) N np) (h1 : D' 282 = fu (D 282) a 1) (hf : ∀ b, b ≠ 282 → (b < 283 + 34 * a ∨ 283 + 34 * a + 34 ≤ b) → D' b = D b) : Js D' r B N np s K q (fu sv a 1) (fun b => if b = a then N else M b) (fun b => if b = a then np else mp b) := by
  obtain ⟨⟨hF, hC, ⟨π, hI⟩, hz, hp⟩, hG, hK, hV⟩ := h
  refine ⟨⟨hF, hC.eq hG.np (fun b b1 b2 => hf b (by omega) (by omega)), ⟨π, hI.cong (by rw [hf 75 (by decide) (by omega)]) (fun b b1 b2 => hf b (by omega) (by omega))⟩, by rw [hf 75 (by decide) (by omega)]; exact hz, by rw [hf 73 (by decide) (by omega)]; exact hp⟩, hG, hK, fun b hb => ?_⟩
  rw [h1]
  by_cases e : b = a
  · subst e
    refine ⟨by rw [fu_at, fu_at], Or.inr ⟨fu_at _ _ _, ?_, ?_⟩⟩
    · dsimp only; rw [if_pos rfl, if_pos rfl]; exact hG
    · dsimp only; rw [if_pos rfl, if_pos rfl]; exact hc
  · obtain ⟨g0, g⟩ := hV b hb
    dsimp only
    rw [fu_ne _ _ _ e, fu_ne _ _ _ e, if_neg e, if_neg e]
    refine ⟨g0, ?_⟩
    rcases g with g | ⟨g1, g2, g3⟩
    · exact Or.inl g
    · exact Or.inr ⟨g1, g2, g3.eq g2.np (fun c c1 c2 => hf c (by omega) (by omega))⟩
theorem Js.try39 (h : Js D r B N np s K q sv M mp) (hf : frW 39 D D') : Js D' r B N np s K q sv M mp := by
  obtain ⟨⟨hF, hC, ⟨π, hI⟩, hz, hp⟩, hG, hK, hV⟩ := h
  exact ⟨⟨hF, hC.eq hG.np (fun b b1 b2 => hf b (by omega)), ⟨π, hI.cong (by rw [hf 75 (by omega)]) (fun b b1 b2 => hf b (by omega))⟩, by rw [hf 75 (by omega)]; exact hz, by rw [hf 73 (by omega)]; exact hp⟩, hG, hK, hV.mv (hf 282 (by omega)) (fun a h1 h2 => hf a (by omega))⟩
end JS
