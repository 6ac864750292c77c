theorem CR.own {D : xD} {o np : Nat} {N : Nat → Int} (h : CR D o N np) (j : Nat) (e : Int) (hj : 8 ≤ j) : CR (xu D o j e) o N np := by
  have hr : ∀ a, a ≠ o → xu D o j e a = D a := fun a ha => by unfold xu; rw [if_neg ha]
  refine h.keep (fun i _ hi => xu_ne _ _ _ _ (Or.inr (by omega))) (fun i hi => by rw [hr _ (by omega)]; exact h.se hi) (fun i hi => by rw [hr _ (by omega)]; exact h.fh hi) ⟨rfl, rfl, rfl, rfl⟩ (fun p hp => (h.pc hp).keep (fun i _ => by rw [hr _ (by omega)]) (fun i _ => by rw [hr _ (by omega)]) (fun i _ => by rw [hr _ (by omega)]) (fun _ _ => rfl))
theorem pl_PC {D : xD} {b p w : Nat} {N : Nat → Int} (h : PC D b N p) (g x : Int) (hw : w < 12) : PC (xu (xu D (b + 2) w g) b 14 x) b (fu N (18 + 36 * p + (24 + w)) g) p := by
  have e : ∀ i, i < 24 → pF (fu N (18 + 36 * p + (24 + w)) g) p i = pF N p i := fun i hi => by unfold pF; exact fu_ne _ _ _ (by omega)
  have d : ∀ i, i < 12 → xu (xu D (b + 2) w g) b 14 x b i = D b i := fun i hi => by rw [xu_ne _ _ _ _ (Or.inr (by omega)), xu_ne _ _ _ _ (Or.inl (by omega))]
  refine ⟨?_, ?_, ?_, ?_, ?_, ?_, ?_, ?_, ?_, ?_, ?_, ?_, fun k hk => ?_, fun k hk => ?_⟩
  · rw [d _ (by decide), e _ (by decide)]; exact h.fa
  · rw [d _ (by decide), e _ (by decide)]; exact h.sz
  · rw [d _ (by decide), e _ (by decide)]; exact h.lh
  · rw [d _ (by decide), e _ (by decide)]; exact h.sh
  · rw [d _ (by decide), e _ (by decide)]; exact h.bg
  · rw [d _ (by decide), e _ (by decide)]; exact h.st
  · rw [d _ (by decide), e _ (by decide)]; exact h.bl
  · rw [d _ (by decide), e _ (by decide)]; exact h.er
  · rw [d _ (by decide), e _ (by decide)]; exact h.to
  · rw [d _ (by decide), e _ (by decide)]; exact h.ma
  · rw [d _ (by decide), e _ (by decide)]; exact h.si
  · rw [d _ (by decide), e _ (by decide)]; exact h.ca
  · rw [xu_r1, xu_ne _ _ _ _ (Or.inl (by omega)), e _ (by omega)]; exact h.fc k hk
  · rw [xu_r2]
    by_cases hkw : k = w
    · subst hkw; rw [xu_at, pF_fu_at]
    · rw [xu_ne _ _ _ _ (Or.inr hkw), show pF (fu N (18 + 36 * p + (24 + w)) g) p (24 + k) = pF N p (24 + k) from fu_ne _ _ _ (by omega)]; exact h.lt k hk
theorem pl_fr {D : xD} {b w : Nat} (g x : Int) : fr3 b D (xu (xu D (b + 2) w g) b 14 x) := fun a h1 _ h3 => by unfold xu; simp only [h1, h3, if_false, reduceIte]
/-- what the giving of lots to the p-th product leaves -/
def GL (D D' : xD) (o np : Nat) (N : Nat → Int) (p w : Nat) (g : Int) : Prop :=
  CR D' o (fu N (18 + 36 * p + (24 + w)) g) np ∧ D' o 8 = N 5 + N 6 - nHours (fu N (18 + 36 * p + (24 + w)) g) np w ∧ D' o 9 = ((nMask (fu N (18 + 36 * p + (24 + w)) g) w np : Nat) : Int) ∧ D' (o + 4 + 3 * p) 14 = nPj (fu N (18 + 36 * p + (24 + w)) g) p (w + 1)
  ∧ D' (o + 4 + 3 * p) 15 = D (o + 4 + 3 * p) 15 ∧ D' (o + 4 + 3 * p) 16 = D (o + 4 + 3 * p) 16 ∧ ∀ a, a ≠ o → a ≠ o + 4 + 3 * p → a ≠ o + 4 + 3 * p + 2 → D' a = D a
theorem GL.none {D : xD} {o np : Nat} {N : Nat → Int} {p w : Nat} {g : Int} (hC : CR D o N np) (h0 : pF N p (24 + w) = 0) (hg : g = 0) (h8 : D o 8 = N 5 + N 6 - nHours N np w) (h9 : D o 9 = ((nMask N w np : Nat) : Int)) (hq : D (o + 4 + 3 * p) 14 = nPj N p (w + 1)) : GL D D o np N p w g := by
  subst hg
  unfold GL
  rw [fu_self N (show N (18 + 36 * p + (24 + w)) = 0 from h0)]
  exact ⟨hC, h8, h9, hq, rfl, rfl, fun _ _ _ _ => rfl⟩
theorem GL.some {D : xD} {o np : Nat} {N : Nat → Int} {p w : Nat} {g R : Int} (hC : CR D o N np) (hp : p < np) (hw : w < 12) (h0 : pF N p (24 + w) = 0) (hg : 0 < g) (hf : (pF N p 0).toNat < 4) (hR : R = nLeft N np p w) (hq : D (o + 4 + 3 * p) 14 = nPj N p (w + 1)) :
    GL D (xu (xu (xu (xu D (o + 4 + 3 * p + 2) w g) (o + 4 + 3 * p) 14 (nPj N p (w + 1) + g * pF N p 1)) o 8 (R - g * pF N p 2)) o 9 ((nMask N w np ||| 2 ^ (pF N p 0).toNat : Nat) : Int)) o np N p w g := by
  have rO : ∀ (E : xD) j e a, a ≠ o → xu E o j e a = E a := fun E j e a ha => by unfold xu; rw [if_neg ha]
  refine ⟨?_, ?_, ?_, ?_, ?_, ?_, fun a h1 h2 h3 => ?_⟩
  · exact ((hC.upd (pl_fr g _) (pl_PC (hC.pc hp) g _ hw) (fun i hi _ => fu_ne _ _ _ (by omega)) (fun q hq hqp i hi => pF_fu_ne N g hqp hi (by omega))).own 8 _ (by decide)).own 9 _ (by decide)
  · rw [xu_ne _ _ _ _ (Or.inr (by decide)), xu_at, nHours_add hp h0 hw hg hf, hR]
    unfold nLeft
    rw [if_neg (by omega)]
    omega
  · rw [xu_at, (nMask_add h0 hw hg np).2 hp]
  · rw [rO _ _ _ _ (by omega), rO _ _ _ _ (by omega), xu_at, nPj_fu h0 hw]
  · rw [rO _ _ _ _ (by omega), rO _ _ _ _ (by omega), xu_ne _ _ _ _ (Or.inr (by decide)), xu_ne _ _ _ _ (Or.inl (by omega))]
  · rw [rO _ _ _ _ (by omega), rO _ _ _ _ (by omega), xu_ne _ _ _ _ (Or.inr (by decide)), xu_ne _ _ _ _ (Or.inl (by omega))]
  · rw [rO _ _ _ _ h1, rO _ _ _ _ h1]; unfold xu; simp only [h2, h3, if_false, reduceIte]
set_option maxRecDepth 100000 in
set_option maxHeartbeats 4000000 in
theorem c_X3_giveLots {z : Nat} (D : xD) (r : xR) {o : Nat} (hK : WK o) (hR : WR o r) {np : Nat} {N : Nat → Int} (hC : CR D o N np) {B : Int} (hO : nOk B np N) (p w : Nat) (hp : p < np) (hw : w < 12) (h0 : pF N p (24 + w) = 0) (hlt : nPj N p (w + 1) < nCov N p) (h8 : D o 8 = N 5 + N 6 - nHours N np w) (h9 : D o 9 = ((nMask N w np : Nat) : Int)) (hq : D (o + 4 + 3 * p) 14 = nPj N p (w + 1)) (ha : D (o + 4 + 3 * p) 15 = nCov N p) : MX 1 mX3_giveLots [.ref o, .ref (o + 4 + 3 * p), vi w] (351, z) D r (351, z) (xEn (fun D' => GL D D' o np N p w (nGive N np p w)) r) := by
  refine MX.of (by decide +kernel) [some (.ref o), some (.ref (o + 4 + 3 * p)), some (vi w), none, none, none, none, none] rfl (Nat.le_of_ble_eq_true rfl) ?_
  intro γ hX hRX
  have hnp := hO.np.2
  have hm := nMask_lt hO w np (Nat.le_refl _)
  have hP := hC.pc hp
  obtain ⟨f, hf1, hf2, hf3⟩ := hO.fam hp
  obtain ⟨p0, p1, p2, p3, p4, p5, p6, -⟩ := hO.2.2.2.2.2 p hp
  have hs := hO.2.2.2.1
  have hfh := hO.2.2.2.2.1 f hf2
  have hh := nHours_le hO hw
  have hl := nLeft_le hO hp hw
  have hwl := nWant_le hO hp hw hlt
  have hgl := nGive_le hO hp hw hlt
  have hB := hO.1
  have hge := hK.ge
  have hab := and_bit _ hm _ hf2
  have hwp : 1 ≤ nWant N p w := by
    have h1 := (nUnits_le hO hp hw hlt).1
    unfold nWant
    exact (Int.le_ediv_iff_mul_le (by omega)).2 (by omega)
  have hwant : (nCov N p - nPj N p (w + 1) + nFcs N p (w + 1) ((N 8).toNat - 1) + pF N p 1 - 1) / pF N p 1 = nWant N p w := by
    unfold nWant nUnits; rw [show (N 8 - 1).toNat = (N 8).toNat - 1 by omega]
  have hleft : nLeft N np p w = N 5 + N 6 - nHours N np w - (pF N p 3 + (if nMask N w np >>> f % 2 = 1 then 0 else N (14 + f))) := by
    unfold nLeft; rw [if_neg (by omega), hf3]
  have hrm : nRoom N np p w = if (if 0 < nLeft N np p w then nLeft N np p w / pF N p 2 else 0) < 1000 then (if 0 < nLeft N np p w then nLeft N np p w / pF N p 2 else 0) else 1000 := by
    unfold nRoom; rw [h0, Int.sub_zero]
  have hnone : nLeft N np p w < pF N p 2 → nGive N np p w = 0 := fun h => by
    have e1 : (if 0 < nLeft N np p w then nLeft N np p w / pF N p 2 else 0) = 0 := by
      by_cases h1 : 0 < nLeft N np p w
      · rw [if_pos h1]; exact Int.ediv_eq_zero_of_lt (by omega) h
      · rw [if_neg h1]
    have e2 : nRoom N np p w = 0 := by rw [hrm, e1, if_pos (show (0 : Int) < 1000 by decide)]
    unfold nGive; rw [e2, if_neg (by omega)]
  have hroom : pF N p 2 ≤ nLeft N np p w → nRoom N np p w = if 1000 < nLeft N np p w / pF N p 2 then 1000 else nLeft N np p w / pF N p 2 := fun h => by
    have e1 : (if 0 < nLeft N np p w then nLeft N np p w / pF N p 2 else 0) = nLeft N np p w / pF N p 2 := if_pos (by omega)
    rw [hrm, e1]
    by_cases h1 : nLeft N np p w / pF N p 2 < 1000
    · rw [if_pos h1, if_neg (by omega)]
    · rw [if_neg h1]
      by_cases h2 : 1000 < nLeft N np p w / pF N p 2
      · rw [if_pos h2]
      · rw [if_neg h2]; omega
  have hgive : pF N p 2 ≤ nLeft N np p w → (if (if 1000 < nLeft N np p w / pF N p 2 then 1000 else nLeft N np p w / pF N p 2) < nWant N p w then (if 1000 < nLeft N np p w / pF N p 2 then 1000 else nLeft N np p w / pF N p 2) else nWant N p w) = nGive N np p w := fun h => by
    unfold nGive; rw [← hroom h]
    by_cases h1 : nRoom N np p w < nWant N p w
    · rw [if_pos h1, if_neg (by omega)]
    · rw [if_neg h1]
      by_cases h2 : nWant N p w < nRoom N np p w
      · rw [if_pos h2]
      · rw [if_neg h2]; omega
  have hpos : pF N p 2 ≤ nLeft N np p w → 0 < nGive N np p w := fun h => by
    have e1 : 1 ≤ nLeft N np p w / pF N p 2 := (Int.le_ediv_iff_mul_le (by omega)).2 (by omega)
    have e2 : 1 ≤ nRoom N np p w := by rw [hroom h]; split <;> omega
    unfold nGive; split <;> omega
  have K51 : ∀ R, R = nLeft N np p w → xV γ 51 [some (.ref o), some (.ref (o + 4 + 3 * p)), some (vi w), some (vi ((2 ^ f : Nat) : Int)), some (vi R), none, none, none] [] (351, z) D r := by
    intro R hR
    subst hR
    refine v_aload_n (q := 52) hX dX3_giveLots_51 rfl rfl rfl ?_
    refine w_getI (q := 55) hX fl_X3_84 rfl (hK.pk (p := p) (by omega)).1 dX3_giveLots_52 rfl ?_
    rw [hP.lh]
    refine v_iconst (q := 56) hX dX3_giveLots_55 rfl ?_
    refine v_icmp_lt (q := 59) (tgt := 68) hX ⟨by omega, by omega⟩ (by decide) dX3_giveLots_56 (by decide) rfl (fun h56 => ?_) (fun h56 => ?_)
    · exact absurd h56 (by omega)
    · refine v_iload (q := 61) hX dX3_giveLots_59 rfl rfl ?_
      refine v_aload_n (q := 62) hX dX3_giveLots_61 rfl rfl rfl ?_
      refine w_getI (q := 65) hX fl_X3_84 rfl (hK.pk (p := p) (by omega)).1 dX3_giveLots_62 rfl ?_
      rw [hP.lh]
      refine v_icmp_ge (q := 68) (tgt := 69) hX ⟨by omega, by omega⟩ ⟨by omega, by omega⟩ dX3_giveLots_65 (by decide) rfl (fun h65 => ?_) (fun h65 => ?_)
      · refine v_aload_n (q := 70) hX dX3_giveLots_69 rfl rfl rfl ?_
        refine v_iload_n (q := 71) hX dX3_giveLots_70 rfl rfl rfl ?_
        refine v_aload_n (q := 72) hX dX3_giveLots_71 rfl rfl rfl ?_
        refine v_iconst (q := 73) hX dX3_giveLots_72 rfl ?_
        refine w_callV (q := 76) hX (c_X3_setting _ _ hK hR hC 3 (by decide) (j := 8) rfl) rfl kV_X3_setting rfl (by decide) lk_X3_70 (by decide) rfl hK.1 (Nat.le_of_ble_eq_true rfl) dX3_giveLots_73 rfl ?_
        rw [show vi (N 8) = vi (((N 8).toNat : Nat) : Int) by rw [Int.toNat_of_nonneg (by omega)]]
        refine w_callV (q := 79) hX (c_X2_lotsWanted _ _ (hK.pk (p := p) (by omega)) (hR.pr (p := p) (by omega)) hO hp hP w hw _ (Int.toNat_of_nonneg (by omega)).symm ha hq hlt) rfl kV_X2_lotsWanted rfl (by decide) lk_X3_163 (by decide) rfl (hK.pk (p := p) (by omega)).1 (Nat.le_of_ble_eq_true rfl) dX3_giveLots_76 rfl ?_
        rw [hwant]
        refine v_lstore (q := 81) hX dX3_giveLots_79 (Nat.le_of_ble_eq_true rfl) (Nat.le_of_ble_eq_true rfl) rfl ?_
        dsimp only [xs1, xs2, xclr]
        refine v_lload (q := 83) hX dX3_giveLots_81 rfl rfl ?_
        refine v_iload (q := 85) hX dX3_giveLots_83 rfl rfl ?_
        refine v_aload_n (q := 86) hX dX3_giveLots_85 rfl rfl rfl ?_
        refine w_getI (q := 89) hX fl_X3_84 rfl (hK.pk (p := p) (by omega)).1 dX3_giveLots_86 rfl ?_
        rw [hP.lh]
        refine v_idiv (q := 90) hX (by omega) ⟨by omega, by omega⟩ (by omega) ⟨by omega, by omega⟩ dX3_giveLots_89 rfl ?_
        refine v_sipush (q := 93) hX (by decide) dX3_giveLots_90 rfl ?_
        have hdv : xI (nLeft N np p w / pF N p 2) := ⟨by have := Int.ediv_nonneg (show 0 ≤ nLeft N np p w by omega) (show 0 ≤ pF N p 2 by omega); omega, by have := Int.ediv_le_self (pF N p 2) (show 0 ≤ nLeft N np p w by omega); omega⟩
        refine v_mmin (q := 96) hX hdv (by decide) lk_X3_167 st_min (show Cond.initialized "java/lang/Math" ∈ xtb from ii_J9) cd_min (by decide) (Nat.le_of_ble_eq_true rfl) dX3_giveLots_93 rfl ?_
        refine v_i2l (q := 97) hX ⟨by split <;> omega, by split <;> omega⟩ dX3_giveLots_96 rfl ?_
        refine v_mminL (q := 100) hX ⟨by omega, by omega⟩ ⟨by split <;> omega, by split <;> omega⟩ lk_X3_170 st_minL (show Cond.initialized "java/lang/Math" ∈ xtb from ii_J9) cd_minL (by decide) (Nat.le_of_ble_eq_true rfl) dX3_giveLots_97 rfl ?_
        refine v_l2i (q := 101) hX dX3_giveLots_100 rfl ?_
        rw [hgive (by omega)]
        refine v_istore (q := 103) hX dX3_giveLots_101 (Nat.le_of_ble_eq_true rfl) (Nat.le_of_ble_eq_true rfl) rfl ?_
        dsimp only [xs1, xs2, xclr]
        refine v_aload_n (q := 104) hX dX3_giveLots_103 rfl rfl rfl ?_
        refine v_iload_n (q := 105) hX dX3_giveLots_104 rfl rfl rfl ?_
        refine v_iload (q := 107) hX dX3_giveLots_105 rfl rfl ?_
        refine w_callVn (q := 110) hX (c_X2_planLots _ _ (hK.pk (p := p) (by omega)) (hR.pr (p := p) (by omega)) hO hp hP w hw _ ⟨by omega, by omega⟩) rfl kV_X2_planLots rfl (by decide) lk_X3_173 (by decide) rfl (hK.pk (p := p) (by omega)).1 (Nat.le_of_ble_eq_true rfl) dX3_giveLots_107 rfl (fun D1 hD1 => ?_)
        subst hD1
        rw [hq]
        refine v_aload_n (q := 111) hX dX3_giveLots_110 rfl rfl rfl ?_
        refine v_iload (q := 113) hX dX3_giveLots_111 rfl rfl ?_
        refine v_iload (q := 115) hX dX3_giveLots_113 rfl rfl ?_
        refine v_aload_n (q := 116) hX dX3_giveLots_115 rfl rfl rfl ?_
        refine w_getI (q := 119) hX fl_X3_84 rfl (hK.pk (p := p) (by omega)).1 dX3_giveLots_116 rfl ?_
        rw [show ∀ x, xu (xu D (o + 4 + 3 * p + 2) w (nGive N np p w)) (o + 4 + 3 * p) 14 x (o + 4 + 3 * p) 2 = D (o + 4 + 3 * p) 2 from fun x => by rw [xu_ne _ _ _ _ (Or.inr (by decide)), xu_ne _ _ _ _ (Or.inl (by omega))], hP.lh]
        refine v_imul (q := 120) hX dX3_giveLots_119 rfl ?_
        refine v_isub (q := 121) hX dX3_giveLots_120 rfl ?_
        refine w_putI (q := 124) hX fl_X3_138 rfl hK.1 dX3_giveLots_121 rfl ?_
        refine v_aload_n (q := 125) hX dX3_giveLots_124 rfl rfl rfl ?_
        refine v_dup (q := 126) hX rfl dX3_giveLots_125 rfl ?_
        refine w_getI (q := 129) hX fl_X3_141 rfl hK.1 dX3_giveLots_126 rfl ?_
        rw [show ∀ x y, xu (xu (xu D (o + 4 + 3 * p + 2) w (nGive N np p w)) (o + 4 + 3 * p) 14 x) o 8 y o 9 = D o 9 from fun x y => by rw [xu_ne _ _ _ _ (Or.inr (by decide)), xu_ne _ _ _ _ (Or.inl (by omega)), xu_ne _ _ _ _ (Or.inl (by omega))], h9]
        refine v_iload_n (q := 130) hX dX3_giveLots_129 rfl rfl rfl ?_
        refine v_ior (q := 131) hX (((nMask N w np ||| 2 ^ (pF N p 0).toNat : Nat) : Int)) (by rw [hf3]; exact bor16 _ hm _ (p2_lt16 f hf2)) dX3_giveLots_130 rfl ?_
        refine w_putI (q := 134) hX fl_X3_141 rfl hK.1 dX3_giveLots_131 rfl ?_
        refine v_vreturn hX hRX rfl dX3_giveLots_134 rfl ?_
        exact ⟨rfl, rfl, GL.some hC hp hw h0 (hpos (by omega)) (by omega) rfl hq⟩
      · refine v_vreturn hX hRX rfl dX3_giveLots_68 rfl ?_
        exact ⟨rfl, rfl, GL.none hC h0 (hnone (by omega)) h8 h9 hq⟩
  refine v_iconst (q := 1) hX dX3_giveLots_0 rfl ?_
  refine v_aload_n (q := 2) hX dX3_giveLots_1 rfl rfl rfl ?_
  refine w_getI (q := 5) hX fl_X3_87 rfl (hK.pk (p := p) (by omega)).1 dX3_giveLots_2 rfl ?_
  rw [hP.fa, hf1]
  refine v_ishl (q := 6) hX (((2 ^ f : Nat) : Int)) (bshl4 f hf2) dX3_giveLots_5 rfl ?_
  refine v_istore_n (q := 7) hX dX3_giveLots_6 rfl (Nat.le_of_ble_eq_true rfl) (Nat.le_of_ble_eq_true rfl) rfl ?_
  dsimp only [xs1, xs2, xclr]
  refine v_aload_n (q := 8) hX dX3_giveLots_7 rfl rfl rfl ?_
  refine w_getI (q := 11) hX fl_X3_138 rfl hK.1 dX3_giveLots_8 rfl ?_
  rw [h8]
  refine v_aload_n (q := 12) hX dX3_giveLots_11 rfl rfl rfl ?_
  refine w_getI (q := 15) hX fl_X3_81 rfl (hK.pk (p := p) (by omega)).1 dX3_giveLots_12 rfl ?_
  rw [hP.sh]
  refine v_isub (q := 16) hX dX3_giveLots_15 rfl ?_
  refine v_istore (q := 18) hX dX3_giveLots_16 (Nat.le_of_ble_eq_true rfl) (Nat.le_of_ble_eq_true rfl) rfl ?_
  dsimp only [xs1, xs2, xclr]
  refine v_aload_n (q := 19) hX dX3_giveLots_18 rfl rfl rfl ?_
  refine w_getI (q := 22) hX fl_X3_141 rfl hK.1 dX3_giveLots_19 rfl ?_
  rw [h9]
  refine v_iload_n (q := 23) hX dX3_giveLots_22 rfl rfl rfl ?_
  refine v_iand (q := 24) hX (((nMask N w np &&& 2 ^ f : Nat) : Int)) (band16 _ hm _ hf2) dX3_giveLots_23 rfl ?_
  refine v_if_ne (q := 27) (tgt := 51) hX ⟨by omega, by omega⟩ dX3_giveLots_24 (by decide) rfl (fun h24 => ?_) (fun h24 => ?_)
  · refine K51 _ (by rw [hleft]; first | (rw [if_pos (by omega)]; omega) | (rw [if_neg (by omega)]; omega))
  · refine v_aload_n (q := 28) hX dX3_giveLots_27 rfl rfl rfl ?_
    refine w_getI (q := 31) hX fl_X3_87 rfl (hK.pk (p := p) (by omega)).1 dX3_giveLots_28 rfl ?_
    rw [hP.fa, hf1]
    refine w_callSN (q := 34) hX (c_X4_isFamily _ _ (f : Int) ⟨by omega, by omega⟩) rfl kS_X4_isFamily rfl (by decide) (fun _ _ _ h => h.2.2.2.2.2.1) (Nat.le_of_ble_eq_true rfl) dX3_giveLots_31 rfl ?_
    refine w_ifeq (q := 37) (tgt := 51) hX dX3_giveLots_34 (by decide) rfl (fun h34 => ?_) (fun h34 => ?_)
    · exact absurd (And.intro (Int.natCast_nonneg f) (by omega)) h34
    · refine v_iload (q := 39) hX dX3_giveLots_37 rfl rfl ?_
      refine v_aload_n (q := 40) hX dX3_giveLots_39 rfl rfl rfl ?_
      refine w_getR (q := 43) hX fl_X3_23 rfl hK.1 hR.2.1 dX3_giveLots_40 rfl ?_
      refine v_aload_n (q := 44) hX dX3_giveLots_43 rfl rfl rfl ?_
      refine w_getI (q := 47) hX fl_X3_87 rfl (hK.pk (p := p) (by omega)).1 dX3_giveLots_44 rfl ?_
      rw [hP.fa, hf1]
      refine w_ild (q := 48) (kk := f) hX (rfl) (hf2) hK.2.2.1 dX3_giveLots_47 rfl ?_
      rw [hC.fh hf2]
      refine v_isub (q := 49) hX dX3_giveLots_48 rfl ?_
      refine v_istore (q := 51) hX dX3_giveLots_49 (Nat.le_of_ble_eq_true rfl) (Nat.le_of_ble_eq_true rfl) rfl ?_
      dsimp only [xs1, xs2, xclr]
      refine K51 _ (by rw [hleft]; first | (rw [if_pos (by omega)]; omega) | (rw [if_neg (by omega)]; omega))


