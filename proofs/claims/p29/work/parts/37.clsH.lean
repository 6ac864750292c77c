theorem CR.wkp {D : xD} {o np p : Nat} {N : Nat → Int} (h : CR D o N np) (hp : p < np) (j : Nat) (e : Int) (hj : 12 ≤ j) : CR (xu D (o + 4 + 3 * p) j e) o N np :=
  h.upd (xu_fr3 _ _ _ _) ((h.pc hp).wk j e hj) (fun _ _ _ => rfl) (fun _ _ _ _ _ => rfl)
/-- where the giving of a week's lots stands after t turns -/
def PT (D E : xD) (o np w : Nat) (B : Int) (T M : Nat → Int) (asked t : Nat) : Prop :=
  CR E o M np ∧ nOk B np M ∧ frW o D E ∧ WQ E o M w asked np ∧ E o 8 = M 5 + M 6 - nHours M np w ∧ E o 9 = ((nMask M w np : Nat) : Int) ∧ nFree asked np ≤ np - t ∧ (∀ p, p < np → asked >>> p % 2 = 0 → pF M p (24 + w) = 0) ∧ nPW np w (np - t) asked M = T
theorem PT.done {D E : xD} {o np w : Nat} {B : Int} {T M : Nat → Int} {asked t : Nat} (h : PT D E o np w B T M asked t) (hN : nNext M w asked np = -6) : CR E o T np ∧ frW o D E ∧ WB E o np (fun p => nPj T p (w + 1)) := by
  obtain ⟨h1, h2, h3, h4, h5, h6, h7, h8, h9⟩ := h
  have e : M = T := by
    rw [← h9]
    cases np - t with
    | zero => rfl
    | succ m => show M = if nNext M w asked np = -6 then M else _; rw [if_pos hN]
  subst e
  exact ⟨h1, h3, fun p hp => (h4 p hp).1⟩
theorem PT.full {D E : xD} {o np w : Nat} {B : Int} {T M : Nat → Int} {asked t : Nat} (h : PT D E o np w B T M asked t) (ht : np ≤ t) : CR E o T np ∧ frW o D E ∧ WB E o np (fun p => nPj T p (w + 1)) := by
  obtain ⟨h1, h2, h3, h4, h5, h6, h7, h8, h9⟩ := h
  have e : M = T := by
    rw [← h9, show np - t = 0 by omega]; rfl
  subst e
  exact ⟨h1, h3, fun p hp => (h4 p hp).1⟩
theorem PT.next {D E D2 : xD} {o np w : Nat} {B : Int} {T M : Nat → Int} {asked t b : Nat} (h : PT D E o np w B T M asked t) (hw : w < 12) (hnp : np ≤ 10) (hb : nNext M w asked np = (b : Int)) (hbn : b < np) (hbit : asked >>> b % 2 = 0) (hlt : nPj M b (w + 1) < nCov M b)
    (hG : GL (xu E (o + 4 + 3 * b) 16 0) D2 o np M b w (nGive M np b w)) : PT D D2 o np w B T (fu M (18 + 36 * b + (24 + w)) (nGive M np b w)) (asked ||| 2 ^ b) (t + 1) := by
  obtain ⟨h1, h2, h3, h4, h5, h6, h7, h8, h9⟩ := h
  obtain ⟨g1, g2, g3, g4, g5, g6, g7⟩ := hG
  have hgl := nGive_le h2 hbn hw hlt
  have hfr := nFree_or asked b hbit np hbn
  refine ⟨g1, h2.put hbn hw hgl, ?_, ?_, ?_, g3, by omega, ?_, ?_⟩
  · intro a ha
    rw [g7 a (by omega) (by omega) (by omega)]
    unfold xu; rw [if_neg (by omega)]; exact h3 a ha
  · intro q hq
    by_cases hqb : q = b
    · subst hqb
      refine ⟨g4, ?_, ?_⟩
      · rw [g5, xu_ne _ _ _ _ (Or.inr (by decide)), nCov_fu hw]; exact (h4 q hq).2.1
      · rw [g6, xu_at]; exact bi0 (fun h => by rw [bit_or, if_pos rfl] at h; omega)
    · have e : D2 (o + 4 + 3 * q) = E (o + 4 + 3 * q) := by
        rw [g7 _ (by omega) (by omega) (by omega)]; unfold xu; rw [if_neg (by omega)]
      obtain ⟨a1, a2, a3⟩ := h4 q hq
      rw [e, nPj_fu_ne hqb (by omega) (by omega), nCov_fu hw]
      refine ⟨a1, a2, ?_⟩
      rw [a3]; exact bi_eq (by rw [bit_or, if_neg hqb])
  · rw [g2, fu_ne _ _ _ (by omega), fu_ne _ _ _ (by omega)]
  · intro p hp hbp
    rw [bit_or] at hbp
    by_cases hpb : p = b
    · rw [if_pos hpb] at hbp; omega
    · rw [if_neg hpb] at hbp; rw [pF_fu_ne M _ hpb (by omega) (by omega)]; exact h8 p hp hbp
  · rw [← h9, show np - t = (np - (t + 1)) + 1 by omega]
    show _ = if nNext M w asked np = -6 then M else _
    rw [if_neg (by rw [hb]; omega), hb]
    rfl
theorem PT.first {D E : xD} {o np w : Nat} {B : Int} {N : Nat → Int} (hC : CR E o N np) (hO : nOk B np N) (hf : frW o D E) (hQ : WQ E o N w 0 np) (hZ : ∀ p, p < np → pF N p (24 + w) = 0) : PT D (xu (xu E o 8 (N 5 + N 6)) o 9 0) o np w B (nPW np w np 0 N) N 0 0 := by
  have z1 : ∀ k, k ≤ np → nMask N w k = 0 := by
    intro k
    induction k with
    | zero => intro _; rfl
    | succ k ih => intro h; unfold nMask; rw [hZ k (by omega), if_neg (by omega)]; exact ih (by omega)
  have z2 : ∀ k, k ≤ np → nHrs N w k = 0 := by
    intro k
    induction k with
    | zero => intro _; rfl
    | succ k ih => intro h; unfold nHrs; rw [hZ k (by omega), if_neg (by omega), ih (by omega)]; rfl
  have z3 : nHours N np w = 0 := by unfold nHours; rw [z1 np (Nat.le_refl _), z2 np (Nat.le_refl _)]; rfl
  refine ⟨(hC.own 8 _ (by decide)).own 9 _ (by decide), hO, (hf.put 8 _).put 9 _, fun p hp => ?_, ?_, ?_, ?_, fun p hp _ => hZ p hp, rfl⟩
  · have e : xu (xu E o 8 (N 5 + N 6)) o 9 0 (o + 4 + 3 * p) = E (o + 4 + 3 * p) := by unfold xu; rw [if_neg (by omega), if_neg (by omega)]
    rw [e]; exact hQ p hp
  · rw [xu_ne _ _ _ _ (Or.inr (by decide)), xu_at, z3, Int.sub_zero]
  · rw [xu_at, z1 np (Nat.le_refl _)]; rfl
  · rw [nFree_0]; exact Nat.le_refl _
set_option maxRecDepth 100000 in
set_option maxHeartbeats 4000000 in
theorem c_X3_planWeek {z : Nat} (D : xD) (r : xR) {o : Nat} (hK : WK o) (hR : WR o r) {np : Nat} {N : Nat → Int} (hC : CR D o N np) {B : Int} (hO : nOk B np N) (w : Nat) (hw : w < 12) (hZ : ∀ p, p < np → pF N p (24 + w) = 0) (hB : WB D o np (fun p => nPj N p w)) : MX 2 mX3_planWeek [.ref o, vi w] (351, z) D r (351, z) (xEn (fun D' => CR D' o (nPW np w np 0 N) np ∧ frW o D D' ∧ WB D' o np (fun p => nPj (nPW np w np 0 N) p (w + 1))) r) := by
  refine MX.of (by decide +kernel) [some (.ref o), some (vi w), none, none, none] rfl (Nat.le_of_ble_eq_true rfl) ?_
  intro γ hX hRX
  have hnp := hO.np.2
  have hge := hK.ge
  have L2 : ∀ t, t ≤ 10 → ∀ (E : xD) (M : Nat → Int) (asked : Nat), PT D E o np w B (nPW np w np 0 N) M asked t → xV γ 56 [some (.ref o), some (vi w), none, some (vi (t : Nat)), none] [] (351, z) E r := by
    refine xup 10 (fun t ht ih E M asked hT => ?_)
    by_cases ht9 : np ≤ 10 ∧ t ≤ 10 ∧ 10 ≤ t
    · have ht10 : t = 10 := by omega
      subst ht10
      refine v_iload_n (q := 57) hX dX3_planWeek_56 rfl rfl rfl ?_
      refine v_bipush (q := 59) hX (by decide) dX3_planWeek_57 rfl ?_
      refine v_icmp_ge (q := 62) (tgt := 93) hX (by decide) (by decide) dX3_planWeek_59 (by decide) rfl (fun h59 => ?_) (fun h59 => ?_)
      · refine v_vreturn hX hRX rfl dX3_planWeek_93 rfl ?_
        exact ⟨rfl, rfl, hT.full (by omega)⟩
      · exact absurd h59 (by decide)
    by_cases hN : nNext M w asked np = -6
    · refine v_iload_n (q := 57) hX dX3_planWeek_56 rfl rfl rfl ?_
      refine v_bipush (q := 59) hX (by decide) dX3_planWeek_57 rfl ?_
      refine v_icmp_ge (q := 62) (tgt := 93) hX ⟨by omega, by omega⟩ (by decide) dX3_planWeek_59 (by decide) rfl (fun h59 => ?_) (fun h59 => ?_)
      · refine v_vreturn hX hRX rfl dX3_planWeek_93 rfl ?_
        exact ⟨rfl, rfl, hT.done hN⟩
      · refine v_aload_n (q := 63) hX dX3_planWeek_62 rfl rfl rfl ?_
        refine w_callV (q := 66) hX (c_X3_nextWaiting _ _ hK hR hT.1 hT.2.1 w asked hw hT.2.2.2.1) rfl kV_X3_nextWaiting rfl (by decide) lk_X3_144 (by decide) rfl hK.1 (Nat.le_of_ble_eq_true rfl) dX3_planWeek_63 rfl ?_
        rw [show nxV o (nNext M w asked np) = .null from if_pos hN]
        refine v_astoreN (q := 68) hX dX3_planWeek_66 (Nat.le_of_ble_eq_true rfl) (Nat.le_of_ble_eq_true rfl) rfl ?_
        dsimp only [xs1, xs2, xclr]
        refine v_aloadN (q := 70) hX dX3_planWeek_68 rfl rfl ?_
        refine v_ifnonnullN (q := 73) hX dX3_planWeek_70 rfl ?_
        refine v_vreturn hX hRX rfl dX3_planWeek_73 rfl ?_
        exact ⟨rfl, rfl, hT.done hN⟩
    · obtain ⟨b, hb, hbn, hbit, hlt⟩ : ∃ b : Nat, nNext M w asked np = (b : Int) ∧ b < np ∧ asked >>> b % 2 = 0 ∧ nPj M b (w + 1) < nCov M b := (nNext_in M w asked np).resolve_left hN
      refine v_iload_n (q := 57) hX dX3_planWeek_56 rfl rfl rfl ?_
      refine v_bipush (q := 59) hX (by decide) dX3_planWeek_57 rfl ?_
      refine v_icmp_ge (q := 62) (tgt := 93) hX ⟨by omega, by omega⟩ (by decide) dX3_planWeek_59 (by decide) rfl (fun h59 => ?_) (fun h59 => ?_)
      · refine v_vreturn hX hRX rfl dX3_planWeek_93 rfl ?_
        exact ⟨rfl, rfl, hT.full (by omega)⟩
      · refine v_aload_n (q := 63) hX dX3_planWeek_62 rfl rfl rfl ?_
        refine w_callV (q := 66) hX (c_X3_nextWaiting _ _ hK hR hT.1 hT.2.1 w asked hw hT.2.2.2.1) rfl kV_X3_nextWaiting rfl (by decide) lk_X3_144 (by decide) rfl hK.1 (Nat.le_of_ble_eq_true rfl) dX3_planWeek_63 rfl ?_
        rw [hb, nxV_k]
        refine v_astore (q := 68) hX dX3_planWeek_66 (Nat.le_of_ble_eq_true rfl) (Nat.le_of_ble_eq_true rfl) rfl ?_
        dsimp only [xs1, xs2, xclr]
        refine v_aload (q := 70) hX dX3_planWeek_68 rfl rfl ?_
        refine v_ifnonnull (tgt := 74) hX dX3_planWeek_70 (by decide) ?_
        refine v_aload (q := 76) hX dX3_planWeek_74 rfl rfl ?_
        refine v_iconst (q := 77) hX dX3_planWeek_76 rfl ?_
        refine w_putZ (q := 80) hX fl_X3_148 rfl (by decide) (hK.pk (p := b) (by omega)).1 dX3_planWeek_77 rfl ?_
        refine v_aload_n (q := 81) hX dX3_planWeek_80 rfl rfl rfl ?_
        refine v_aload (q := 83) hX dX3_planWeek_81 rfl rfl ?_
        refine v_iload_n (q := 84) hX dX3_planWeek_83 rfl rfl rfl ?_
        refine w_callVn (q := 87) hX (c_X3_giveLots (xu E (o + 4 + 3 * b) 16 0) _ hK hR (hT.1.wkp hbn 16 0 (by decide)) hT.2.1 b w hbn hw (hT.2.2.2.2.2.2.2.1 b hbn hbit) hlt (by rw [xu_ne _ _ _ _ (Or.inl (by omega))]; exact hT.2.2.2.2.1) (by rw [xu_ne _ _ _ _ (Or.inl (by omega))]; exact hT.2.2.2.2.2.1) (by rw [xu_ne _ _ _ _ (Or.inr (by decide))]; exact (hT.2.2.2.1 b hbn).1) (by rw [xu_ne _ _ _ _ (Or.inr (by decide))]; exact (hT.2.2.2.1 b hbn).2.1)) rfl kV_X3_giveLots rfl (by decide) lk_X3_152 (by decide) rfl hK.1 (Nat.le_of_ble_eq_true rfl) dX3_planWeek_84 rfl (fun D2 hD2 => ?_)
        have hT2 := hT.next hw hnp hb hbn hbit hlt hD2
        refine v_iinc (q := 90) hX dX3_planWeek_87 rfl (Nat.le_of_ble_eq_true rfl) (Nat.le_of_ble_eq_true rfl) rfl ?_
        dsimp only [xs1, xs2, xclr]
        refine v_goto (tgt := 56) hX dX3_planWeek_90 (by decide) ?_
        exact xVw (by repeat' first | exact trivial | refine And.intro rfl ?_) (ih (by omega) _ _ _ hT2)
  have L : ∀ k, k ≤ np → ∀ E : xD, CR E o N np → frW o D E → WQ E o N w 0 k → (∀ p, k ≤ p → p < np → E (o + 4 + 3 * p) 14 = nPj N p w) → xV γ 8 [some (.ref o), some (vi w), some (vi (N 9)), some (vi (k : Nat)), none] [] (351, z) E r := by
    refine xup np (fun k hk ih E hE hf hQ hR2 => ?_)
    refine v_iload_n (q := 9) hX dX3_planWeek_8 rfl rfl rfl ?_
    refine v_aload_n (q := 10) hX dX3_planWeek_9 rfl rfl rfl ?_
    refine w_getI (q := 13) hX fl_X3_45 rfl hK.1 dX3_planWeek_10 rfl ?_
    rw [hE.np]
    refine v_icmp_ge (q := 16) (tgt := 41) hX ⟨by omega, by omega⟩ ⟨by omega, by omega⟩ dX3_planWeek_13 (by decide) rfl (fun h13 => ?_) (fun h13 => ?_)
    · refine v_aload_n (q := 42) hX dX3_planWeek_41 rfl rfl rfl ?_
      refine v_aload_n (q := 43) hX dX3_planWeek_42 rfl rfl rfl ?_
      refine w_callV (q := 46) hX (c_X3_capacity _ _ hK hR hE) rfl kV_X3_capacity rfl (by decide) lk_X3_135 (by decide) rfl hK.1 (Nat.le_of_ble_eq_true rfl) dX3_planWeek_43 rfl ?_
      refine w_putI (q := 49) hX fl_X3_138 rfl hK.1 dX3_planWeek_46 rfl ?_
      refine v_aload_n (q := 50) hX dX3_planWeek_49 rfl rfl rfl ?_
      refine v_iconst (q := 51) hX dX3_planWeek_50 rfl ?_
      refine w_putI (q := 54) hX fl_X3_141 rfl hK.1 dX3_planWeek_51 rfl ?_
      refine v_iconst (q := 55) hX dX3_planWeek_54 rfl ?_
      refine v_istore_n (q := 56) hX dX3_planWeek_55 rfl (Nat.le_of_ble_eq_true rfl) (Nat.le_of_ble_eq_true rfl) rfl ?_
      dsimp only [xs1, xs2, xclr]
      have hk2 : k = np := by omega
      subst hk2
      exact xVw (by repeat' first | exact trivial | refine And.intro rfl ?_) (L2 0 (Nat.zero_le _) _ _ _ (PT.first hE hO hf hQ hZ))
    · refine v_aload_n (q := 17) hX dX3_planWeek_16 rfl rfl rfl ?_
      refine v_iload_n (q := 18) hX dX3_planWeek_17 rfl rfl rfl ?_
      refine w_callV (q := 21) hX (c_X3_productAt _ _ hK hR hE.np hnp (k) (by omega)) rfl kV_X3_productAt rfl (by decide) lk_X3_49 (by decide) rfl hK.1 (Nat.le_of_ble_eq_true rfl) dX3_planWeek_18 rfl ?_
      refine v_astore (q := 23) hX dX3_planWeek_21 (Nat.le_of_ble_eq_true rfl) (Nat.le_of_ble_eq_true rfl) rfl ?_
      dsimp only [xs1, xs2, xclr]
      refine v_aload (q := 25) hX dX3_planWeek_23 rfl rfl ?_
      refine v_ifnull (q := 28) hX dX3_planWeek_25 rfl ?_
      refine v_aload (q := 30) hX dX3_planWeek_28 rfl rfl ?_
      refine v_iload_n (q := 31) hX dX3_planWeek_30 rfl rfl rfl ?_
      refine v_iload_n (q := 32) hX dX3_planWeek_31 rfl rfl rfl ?_
      refine w_callVn (q := 35) hX (c_X2_enterWeek E _ (hK.pk (p := k) (by omega)) (hR.pr (p := k) (by omega)) hO (p := k) (by omega) (hE.pc (p := k) (by omega)) w hw (by rw [hR2 k (Nat.le_refl _) (by omega)]; have y := nPj_le hO (p := k) (by omega) w (by omega); have hB := hO.1; omega)) rfl kV_X2_enterWeek rfl (by decide) lk_X3_131 (by decide) rfl (hK.pk (p := k) (by omega)).1 (Nat.le_of_ble_eq_true rfl) dX3_planWeek_32 rfl (fun D1 hD1 => ?_)
      rw [hR2 k (Nat.le_refl _) (by omega)] at hD1
      subst hD1
      refine v_iinc (q := 38) hX dX3_planWeek_35 rfl (Nat.le_of_ble_eq_true rfl) (Nat.le_of_ble_eq_true rfl) rfl ?_
      dsimp only [xs1, xs2, xclr]
      refine v_goto (tgt := 8) hX dX3_planWeek_38 (by decide) ?_
      exact xVw (by repeat' first | exact trivial | refine And.intro rfl ?_) (ih (by omega) _ (hE.upd (eWk_fr _ _ _ _) (eWk_PC (hE.pc (p := k) (by omega)) _ _) (fun _ _ _ => rfl) (fun _ _ _ _ _ => rfl)) (hf.trans ((eWk_fr _ _ _ _).frW (by omega))) (hQ.next (eWk_fr _ _ _ _) (by unfold eWk; rw [xu_ne _ _ _ _ (Or.inr (by decide)), xu_ne _ _ _ _ (Or.inr (by decide)), xu_at, nPj_1 (hZ k (by omega))]) (by unfold eWk; rw [xu_ne _ _ _ _ (Or.inr (by decide)), xu_at]) (by unfold eWk; rw [xu_at, ← nPj_1 (hZ k (by omega))]; exact bi_eq (by rw [Nat.zero_shiftRight]; simp))) (fun p hp hpn => by rw [eWk_fr E _ _ _ _ (by omega) (by omega) (by omega)]; exact hR2 p (by omega) hpn))
  refine v_aload_n (q := 1) hX dX3_planWeek_0 rfl rfl rfl ?_
  refine v_iconst (q := 2) hX dX3_planWeek_1 rfl ?_
  refine w_callV (q := 5) hX (c_X3_setting _ _ hK hR hC 4 (by omega) (j := 9) rfl) rfl kV_X3_setting rfl (by decide) lk_X3_70 (by decide) rfl hK.1 (Nat.le_of_ble_eq_true rfl) dX3_planWeek_2 rfl ?_
  refine v_istore_n (q := 6) hX dX3_planWeek_5 rfl (Nat.le_of_ble_eq_true rfl) (Nat.le_of_ble_eq_true rfl) rfl ?_
  dsimp only [xs1, xs2, xclr]
  refine v_iconst (q := 7) hX dX3_planWeek_6 rfl ?_
  refine v_istore_n (q := 8) hX dX3_planWeek_7 rfl (Nat.le_of_ble_eq_true rfl) (Nat.le_of_ble_eq_true rfl) rfl ?_
  dsimp only [xs1, xs2, xclr]
  exact L 0 (Nat.zero_le _) D hC (frW.refl o D) (fun p hp => absurd hp (by omega)) (fun p _ hp => hB p hp)


