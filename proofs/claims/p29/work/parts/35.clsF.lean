set_option maxRecDepth 100000 in
set_option maxHeartbeats 4000000 in
theorem c_X4_isFamily {z : Nat} (D : xD) (r : xR) (f : Int) (hf : xI f) : MX 0 mX4_isFamily [vi f] (351, z) D r (351, z) (xP (vi (bi (0 ≤ f ∧ f < 4))) D r) := by
  refine MX.of (by decide +kernel) [some (vi f)] rfl (Nat.le_of_ble_eq_true rfl) ?_
  intro γ hX hRX
  refine v_iload_n (q := 1) hX dX4_isFamily_0 rfl rfl rfl ?_
  refine v_if_lt (q := 4) (tgt := 13) hX hf dX4_isFamily_1 (by decide) rfl (fun h1 => ?_) (fun h1 => ?_)
  · refine v_iconst (q := 14) hX dX4_isFamily_13 rfl ?_
    refine v_ireturn hX hRX rfl (by first | rfl | exact bi_nar _) dX4_isFamily_14 rfl ?_
    exact ⟨by first | rw [bi, if_pos (by omega)] | rw [bi, if_neg (by omega)], rfl, rfl⟩
  · refine v_iload_n (q := 5) hX dX4_isFamily_4 rfl rfl rfl ?_
    refine v_iconst (q := 6) hX dX4_isFamily_5 rfl ?_
    refine v_icmp_ge (q := 9) (tgt := 13) hX hf (by decide) dX4_isFamily_6 (by decide) rfl (fun h6 => ?_) (fun h6 => ?_)
    · refine v_iconst (q := 14) hX dX4_isFamily_13 rfl ?_
      refine v_ireturn hX hRX rfl (by first | rfl | exact bi_nar _) dX4_isFamily_14 rfl ?_
      exact ⟨by first | rw [bi, if_pos (by omega)] | rw [bi, if_neg (by omega)], rfl, rfl⟩
    · refine v_iconst (q := 10) hX dX4_isFamily_9 rfl ?_
      refine v_goto (tgt := 14) hX dX4_isFamily_10 (by decide) ?_
      refine v_ireturn hX hRX rfl (by first | rfl | exact bi_nar _) dX4_isFamily_14 rfl ?_
      exact ⟨by first | rw [bi, if_pos (by omega)] | rw [bi, if_neg (by omega)], rfl, rfl⟩

/-- the class's working numbers of the products: how far each stands -/
def WB (E : xD) (o np : Nat) (x : Nat → Int) : Prop := ∀ p, p < np → E (o + 4 + 3 * p) 14 = x p
theorem op_PC {E : xD} {b p f : Nat} {N N' : Nat → Int} (h : PC E b N p) (x : Int) (hN : ∀ i, i < 36 → pF N' p i = rZ f 12 (nRec N p) i) : PC (xw (xu E b 14 x) (b + 2) (zr (E (b + 2)) f 12)) b N' p := by
  have e : ∀ i, i < 24 → pF N' p i = pF N p i := fun i hi => by rw [hN i (by omega)]; unfold rZ; rw [if_neg (by omega)]; rfl
  have d : ∀ i, i < 12 → xw (xu E b 14 x) (b + 2) (zr (E (b + 2)) f 12) b i = E b i := fun i h8 => by rw [xw_ne _ _ _ (show b ≠ b + 2 by omega), xu_ne _ _ _ _ (Or.inr (by omega))]
  refine ⟨?_, ?_, ?_, ?_, ?_, ?_, ?_, ?_, ?_, ?_, ?_, ?_, fun k hk => ?_, fun k hk => ?_⟩
  · rw [d _ (by decide), e _ (by decide)]; exact h.fa
  · rw [d _ (by decide), e _ (by decide)]; exact h.sz
  · rw [d _ (by decide), e _ (by decide)]; exact h.lh
  · rw [d _ (by decide), e _ (by decide)]; exact h.sh
  · rw [d _ (by decide), e _ (by decide)]; exact h.bg
  · rw [d _ (by decide), e _ (by decide)]; exact h.st
  · rw [d _ (by decide), e _ (by decide)]; exact h.bl
  · rw [d _ (by decide), e _ (by decide)]; exact h.er
  · rw [d _ (by decide), e _ (by decide)]; exact h.to
  · rw [d _ (by decide), e _ (by decide)]; exact h.ma
  · rw [d _ (by decide), e _ (by decide)]; exact h.si
  · rw [d _ (by decide), e _ (by decide)]; exact h.ca
  · rw [xw_ne _ _ _ (show b + 1 ≠ b + 2 by omega), xu_r1, e _ (by omega)]; exact h.fc k hk
  · rw [xw_at, hN _ (by omega)]; unfold zr rZ
    by_cases hk2 : f ≤ k
    · rw [if_pos (by omega), if_pos (by omega)]
    · rw [if_neg (by omega), if_neg (by omega)]; exact h.lt k hk
theorem op_fr {E : xD} {b : Nat} (x : Int) (F : Nat → Int) : fr3 b E (xw (xu E b 14 x) (b + 2) F) := fun a h1 h2 h3 => by rw [xw_ne _ _ _ h3]; unfold xu; rw [if_neg h1]
theorem WB.next {E E' : xD} {o k : Nat} {x : Nat → Int} (h : WB E o k x) (hf : fr3 (o + 4 + 3 * k) E E') (hk : E' (o + 4 + 3 * k) 14 = x k) : WB E' o (k + 1) x := fun p hp => by
  by_cases hpk : p = k
  · subst hpk; exact hk
  · rw [hf _ (by omega) (by omega) (by omega)]; exact h p (by omega)
set_option maxRecDepth 100000 in
set_option maxHeartbeats 4000000 in
theorem c_X3_openPlans {z : Nat} (D : xD) (r : xR) {o : Nat} (hK : WK o) (hR : WR o r) {np : Nat} {N : Nat → Int} (hC : CR D o N np) {B : Int} (hO : nOk B np N) (f : Nat) (h7 : N 7 = (f : Int)) : MX 2 mX3_openPlans [.ref o] (351, z) D r (351, z) (xEn (fun D' => CR D' o (nMap N np (rZ f 12)) np ∧ frW o D D' ∧ WB D' o np (fun p => nPj N p f)) r) := by
  refine MX.of (by decide +kernel) [some (.ref o), none, none, none] rfl (Nat.le_of_ble_eq_true rfl) ?_
  intro γ hX hRX
  have hf8 := hO.2.2.2.1.2.2.1
  have hnp := hO.np.2
  have L : ∀ k, k ≤ np → ∀ E : xD, CR E o (nMap N k (rZ f 12)) np → frW o D E → WB E o k (fun p => nPj N p f) → xV γ 8 [some (.ref o), some (vi f), some (vi (k : Nat)), none] [] (351, z) E r := by
    refine xup np (fun k hk ih E hE hf hB => ?_)
    refine v_iload_n (q := 9) hX dX3_openPlans_8 rfl rfl rfl ?_
    refine v_aload_n (q := 10) hX dX3_openPlans_9 rfl rfl rfl ?_
    refine w_getI (q := 13) hX fl_X3_45 rfl hK.1 dX3_openPlans_10 rfl ?_
    rw [hE.np]
    refine v_icmp_ge (q := 16) (tgt := 37) hX ⟨by omega, by omega⟩ ⟨by omega, by omega⟩ dX3_openPlans_13 (by decide) rfl (fun h13 => ?_) (fun h13 => ?_)
    · refine v_vreturn hX hRX rfl dX3_openPlans_37 rfl ?_
      have hk2 : k = np := by omega
      subst hk2
      exact ⟨rfl, rfl, hE, hf, hB⟩
    · refine v_aload_n (q := 17) hX dX3_openPlans_16 rfl rfl rfl ?_
      refine v_iload_n (q := 18) hX dX3_openPlans_17 rfl rfl rfl ?_
      refine w_callV (q := 21) hX (c_X3_productAt _ _ hK hR hE.np hO.np.2 (k) (by omega)) rfl kV_X3_productAt rfl (by decide) lk_X3_49 (by decide) rfl hK.1 (Nat.le_of_ble_eq_true rfl) dX3_openPlans_18 rfl ?_
      refine v_astore_n (q := 22) hX dX3_openPlans_21 rfl (Nat.le_of_ble_eq_true rfl) (Nat.le_of_ble_eq_true rfl) rfl ?_
      dsimp only [xs1, xs2, xclr]
      refine v_aload_n (q := 23) hX dX3_openPlans_22 rfl rfl rfl ?_
      refine v_ifnull (q := 26) hX dX3_openPlans_23 rfl ?_
      refine v_aload_n (q := 27) hX dX3_openPlans_26 rfl rfl rfl ?_
      refine v_iload_n (q := 28) hX dX3_openPlans_27 rfl rfl rfl ?_
      refine w_callVn (q := 31) hX (c_X2_openPlan E _ (hK.pk (p := k) (by omega)) (hR.pr (p := k) (by omega)) hO (p := k) (by omega) ((hE.pc (p := k) (by omega)).cg (fun i hi => (nMap_ge N (k := k) (rZ f 12) (Nat.le_refl _)).symm)) f (by omega)) rfl kV_X2_openPlan rfl (by decide) lk_X3_128 (by decide) rfl (hK.pk (p := k) (by omega)).1 (Nat.le_of_ble_eq_true rfl) dX3_openPlans_28 rfl (fun D1 hD1 => ?_)
      subst hD1
      refine v_iinc (q := 34) hX dX3_openPlans_31 rfl (Nat.le_of_ble_eq_true rfl) (Nat.le_of_ble_eq_true rfl) rfl ?_
      dsimp only [xs1, xs2, xclr]
      refine v_goto (tgt := 8) hX dX3_openPlans_34 (by decide) ?_
      exact xVw (by repeat' first | exact trivial | refine And.intro rfl ?_) (ih (by omega) _ (hE.upd (op_fr _ _) (op_PC ((hE.pc (p := k) (by omega)).cg (fun i hi => (nMap_ge N (k := k) (rZ f 12) (Nat.le_refl _)).symm)) _ (fun i hi => by rw [nMap_at _ _ (Nat.lt_succ_self k) hi])) (fun i hi _ => by rw [nMap_hd _ _ _ hi, nMap_hd _ _ _ hi]) (fun p hp hpk i hi => by rw [← nMap_succ, nUpd_ne _ _ hpk hi])) (hf.trans ((op_fr _ _).frW (by omega))) (hB.next (op_fr _ _) (by rw [xw_ne _ _ _ (by omega), xu_at])))
  refine v_aload_n (q := 1) hX dX3_openPlans_0 rfl rfl rfl ?_
  refine v_iconst (q := 2) hX dX3_openPlans_1 rfl ?_
  refine w_callV (q := 5) hX (c_X3_setting _ _ hK hR hC 2 (by omega) (j := 7) rfl) rfl kV_X3_setting rfl (by decide) lk_X3_70 (by decide) rfl hK.1 (Nat.le_of_ble_eq_true rfl) dX3_openPlans_2 rfl ?_
  rw [h7]
  refine v_istore_n (q := 6) hX dX3_openPlans_5 rfl (Nat.le_of_ble_eq_true rfl) (Nat.le_of_ble_eq_true rfl) rfl ?_
  dsimp only [xs1, xs2, xclr]
  refine v_iconst (q := 7) hX dX3_openPlans_6 rfl ?_
  refine v_istore_n (q := 8) hX dX3_openPlans_7 rfl (Nat.le_of_ble_eq_true rfl) (Nat.le_of_ble_eq_true rfl) rfl ?_
  dsimp only [xs1, xs2, xclr]
  exact L 0 (Nat.zero_le _) D (by rw [nMap_0]; exact hC) (frW.refl o D) (fun p hp => absurd hp (by omega))

/-- how the products stand in week w, and which of them wait -/
def WQ (E : xD) (o : Nat) (N : Nat → Int) (w asked k : Nat) : Prop := ∀ p, p < k → E (o + 4 + 3 * p) 14 = nPj N p (w + 1) ∧ E (o + 4 + 3 * p) 15 = nCov N p ∧ E (o + 4 + 3 * p) 16 = bi (asked >>> p % 2 = 0 ∧ nPj N p (w + 1) < nCov N p)
theorem eWk_fr (E : xD) (b : Nat) (x c : Int) : fr3 b E (eWk E b x c) := fun a h1 _ _ => by unfold eWk xu; simp only [h1, if_false, reduceIte]
theorem eWk_PC {E : xD} {b p : Nat} {N : Nat → Int} (h : PC E b N p) (x c : Int) : PC (eWk E b x c) b N p := ((h.wk 14 _ (by decide)).wk 15 _ (by decide)).wk 16 _ (by decide)
theorem WQ.next {E E' : xD} {o k w asked : Nat} {N : Nat → Int} (h : WQ E o N w asked k) (hf : fr3 (o + 4 + 3 * k) E E') (h1 : E' (o + 4 + 3 * k) 14 = nPj N k (w + 1)) (h2 : E' (o + 4 + 3 * k) 15 = nCov N k) (h3 : E' (o + 4 + 3 * k) 16 = bi (asked >>> k % 2 = 0 ∧ nPj N k (w + 1) < nCov N k)) : WQ E' o N w asked (k + 1) := fun p hp => by
  by_cases hpk : p = k
  · subst hpk; exact ⟨h1, h2, h3⟩
  · rw [hf _ (by omega) (by omega) (by omega)]; exact h p (by omega)
theorem nPj_1 {N : Nat → Int} {p w : Nat} (h : pF N p (24 + w) = 0) : nPj N p (w + 1) = nPj N p w - pF N p (12 + w) := by
  show nPj N p w + (pF N p (24 + w) * pF N p 1 - pF N p (12 + w)) = _
  rw [h]; omega
def nxV (o : Nat) (x : Int) : Value := if x = -6 then .null else .ref (o + 4 + 3 * x.toNat)
theorem nNext_0 {N : Nat → Int} {w asked k : Nat} (h : ¬ (asked >>> k % 2 = 0 ∧ nPj N k (w + 1) < nCov N k)) : nNext N w asked (k + 1) = nNext N w asked k := by
  show (if _ then _ else _) = _
  rw [if_neg (fun h2 => h h2.1)]
theorem nNext_1 {N : Nat → Int} {w asked k : Nat} (h : asked >>> k % 2 = 0 ∧ nPj N k (w + 1) < nCov N k) (h2 : nNext N w asked k = -6 ∨ nPj N k (w + 1) < nPj N (nNext N w asked k).toNat (w + 1)) : nNext N w asked (k + 1) = (k : Int) := by
  show (if _ then _ else _) = _
  rw [if_pos ⟨h, h2⟩]
theorem nNext_2 {N : Nat → Int} {w asked k : Nat} (h2 : ¬ (nNext N w asked k = -6 ∨ nPj N k (w + 1) < nPj N (nNext N w asked k).toNat (w + 1))) : nNext N w asked (k + 1) = nNext N w asked k := by
  show (if _ then _ else _) = _
  rw [if_neg (fun h => h2 h.2)]
theorem nxV_k (o k : Nat) : nxV o (k : Int) = .ref (o + 4 + 3 * k) := by unfold nxV; rw [if_neg (by omega)]; rfl
set_option maxRecDepth 100000 in
set_option maxHeartbeats 4000000 in
theorem c_X3_nextWaiting {z : Nat} (D : xD) (r : xR) {o : Nat} (hK : WK o) (hR : WR o r) {np : Nat} {N : Nat → Int} (hC : CR D o N np) {B : Int} (hO : nOk B np N) (w asked : Nat) (hw : w < 12) (hQ : WQ D o N w asked np) : MX 1 mX3_nextWaiting [.ref o] (351, z) D r (351, z) (xP (nxV o (nNext N w asked np)) D r) := by
  refine MX.of (by decide +kernel) [some (.ref o), none, none, none] rfl (Nat.le_of_ble_eq_true rfl) ?_
  intro γ hX hRX
  have hnp := hO.np.2
  have L : ∀ k, k ≤ np → xV γ 4 [some (.ref o), some (nxV o (nNext N w asked k)), some (vi (k : Nat)), none] [] (351, z) D r := by
    refine xup np (fun k hk ih => ?_)
    by_cases hN : nNext N w asked k = -6
    · have hx : nxV o (nNext N w asked k) = .null := if_pos hN
      rw [hx]
      refine v_iload_n (q := 5) hX dX3_nextWaiting_4 rfl rfl rfl ?_
      refine v_aload_n (q := 6) hX dX3_nextWaiting_5 rfl rfl rfl ?_
      refine w_getI (q := 9) hX fl_X3_45 rfl hK.1 dX3_nextWaiting_6 rfl ?_
      rw [hC.np]
      refine v_icmp_ge (q := 12) (tgt := 53) hX ⟨by omega, by omega⟩ ⟨by omega, by omega⟩ dX3_nextWaiting_9 (by decide) rfl (fun h9 => ?_) (fun h9 => ?_)
      · refine v_aloadN_n (q := 54) hX dX3_nextWaiting_53 rfl rfl rfl ?_
        refine v_areturnN hX hRX rfl dX3_nextWaiting_54 rfl ?_
        exact ⟨by rw [← hx, show k = np by omega], rfl, rfl⟩
      · refine v_aload_n (q := 13) hX dX3_nextWaiting_12 rfl rfl rfl ?_
        refine v_iload_n (q := 14) hX dX3_nextWaiting_13 rfl rfl rfl ?_
        refine w_callV (q := 17) hX (c_X3_productAt _ _ hK hR hC.np hO.np.2 (k) (by omega)) rfl kV_X3_productAt rfl (by decide) lk_X3_49 (by decide) rfl hK.1 (Nat.le_of_ble_eq_true rfl) dX3_nextWaiting_14 rfl ?_
        refine v_astore_n (q := 18) hX dX3_nextWaiting_17 rfl (Nat.le_of_ble_eq_true rfl) (Nat.le_of_ble_eq_true rfl) rfl ?_
        dsimp only [xs1, xs2, xclr]
        refine v_aload_n (q := 19) hX dX3_nextWaiting_18 rfl rfl rfl ?_
        refine v_ifnull (q := 22) hX dX3_nextWaiting_19 rfl ?_
        refine v_aload_n (q := 23) hX dX3_nextWaiting_22 rfl rfl rfl ?_
        refine w_getI (q := 26) hX fl_X3_148 rfl (hK.pk (p := k) (by omega)).1 dX3_nextWaiting_23 rfl ?_
        obtain ⟨q1, q2, q3⟩ := hQ k (by omega)
        rw [q3]
        refine v_if_eq (q := 29) (tgt := 47) hX (bi_I _) dX3_nextWaiting_26 (by decide) rfl (fun h26 => ?_) (fun h26 => ?_)
        · refine v_iinc (q := 50) hX dX3_nextWaiting_47 rfl (Nat.le_of_ble_eq_true rfl) (Nat.le_of_ble_eq_true rfl) rfl ?_
          dsimp only [xs1, xs2, xclr]
          refine v_goto (tgt := 4) hX dX3_nextWaiting_50 (by decide) ?_
          first
          | (rw [show nxV o (nNext N w asked (k + 1)) = nxV o (nNext N w asked k) from congrArg (nxV o) (nNext_0 (bi_e0 h26)), hx] at ih; exact xVw (by repeat' first | exact trivial | refine And.intro rfl ?_) (ih (by omega)))
          | (rw [nNext_1 (bi_n0 h26) (Or.inl hN), nxV_k] at ih; exact xVw (by repeat' first | exact trivial | refine And.intro rfl ?_) (ih (by omega)))
        · refine v_aloadN_n (q := 30) hX dX3_nextWaiting_29 rfl rfl rfl ?_
          refine v_ifnullN (tgt := 45) hX dX3_nextWaiting_30 (by decide) ?_
          refine v_aload_n (q := 46) hX dX3_nextWaiting_45 rfl rfl rfl ?_
          refine v_astore_n (q := 47) hX dX3_nextWaiting_46 rfl (Nat.le_of_ble_eq_true rfl) (Nat.le_of_ble_eq_true rfl) rfl ?_
          dsimp only [xs1, xs2, xclr]
          refine v_iinc (q := 50) hX dX3_nextWaiting_47 rfl (Nat.le_of_ble_eq_true rfl) (Nat.le_of_ble_eq_true rfl) rfl ?_
          dsimp only [xs1, xs2, xclr]
          refine v_goto (tgt := 4) hX dX3_nextWaiting_50 (by decide) ?_
          first
          | (rw [show nxV o (nNext N w asked (k + 1)) = nxV o (nNext N w asked k) from congrArg (nxV o) (nNext_0 (bi_e0 h26)), hx] at ih; exact xVw (by repeat' first | exact trivial | refine And.intro rfl ?_) (ih (by omega)))
          | (rw [nNext_1 (bi_n0 h26) (Or.inl hN), nxV_k] at ih; exact xVw (by repeat' first | exact trivial | refine And.intro rfl ?_) (ih (by omega)))
    · obtain ⟨b, hb, hb2, -, -⟩ : ∃ b : Nat, nNext N w asked k = (b : Int) ∧ b < k ∧ asked >>> b % 2 = 0 ∧ nPj N b (w + 1) < nCov N b := (nNext_in N w asked k).resolve_left hN
      have hb1 : (nNext N w asked k).toNat = b := by rw [hb]; rfl
      have hx : nxV o (nNext N w asked k) = .ref (o + 4 + 3 * b) := by rw [hb, nxV_k]
      rw [hx]
      refine v_iload_n (q := 5) hX dX3_nextWaiting_4 rfl rfl rfl ?_
      refine v_aload_n (q := 6) hX dX3_nextWaiting_5 rfl rfl rfl ?_
      refine w_getI (q := 9) hX fl_X3_45 rfl hK.1 dX3_nextWaiting_6 rfl ?_
      rw [hC.np]
      refine v_icmp_ge (q := 12) (tgt := 53) hX ⟨by omega, by omega⟩ ⟨by omega, by omega⟩ dX3_nextWaiting_9 (by decide) rfl (fun h9 => ?_) (fun h9 => ?_)
      · refine v_aload_n (q := 54) hX dX3_nextWaiting_53 rfl rfl rfl ?_
        refine v_areturn hX hRX rfl dX3_nextWaiting_54 rfl ?_
        exact ⟨by rw [← hx, show k = np by omega], rfl, rfl⟩
      · refine v_aload_n (q := 13) hX dX3_nextWaiting_12 rfl rfl rfl ?_
        refine v_iload_n (q := 14) hX dX3_nextWaiting_13 rfl rfl rfl ?_
        refine w_callV (q := 17) hX (c_X3_productAt _ _ hK hR hC.np hO.np.2 (k) (by omega)) rfl kV_X3_productAt rfl (by decide) lk_X3_49 (by decide) rfl hK.1 (Nat.le_of_ble_eq_true rfl) dX3_nextWaiting_14 rfl ?_
        refine v_astore_n (q := 18) hX dX3_nextWaiting_17 rfl (Nat.le_of_ble_eq_true rfl) (Nat.le_of_ble_eq_true rfl) rfl ?_
        dsimp only [xs1, xs2, xclr]
        refine v_aload_n (q := 19) hX dX3_nextWaiting_18 rfl rfl rfl ?_
        refine v_ifnull (q := 22) hX dX3_nextWaiting_19 rfl ?_
        refine v_aload_n (q := 23) hX dX3_nextWaiting_22 rfl rfl rfl ?_
        refine w_getI (q := 26) hX fl_X3_148 rfl (hK.pk (p := k) (by omega)).1 dX3_nextWaiting_23 rfl ?_
        obtain ⟨q1, q2, q3⟩ := hQ k (by omega)
        rw [q3]
        refine v_if_eq (q := 29) (tgt := 47) hX (bi_I _) dX3_nextWaiting_26 (by decide) rfl (fun h26 => ?_) (fun h26 => ?_)
        · refine v_iinc (q := 50) hX dX3_nextWaiting_47 rfl (Nat.le_of_ble_eq_true rfl) (Nat.le_of_ble_eq_true rfl) rfl ?_
          dsimp only [xs1, xs2, xclr]
          refine v_goto (tgt := 4) hX dX3_nextWaiting_50 (by decide) ?_
          first
          | (rw [show nxV o (nNext N w asked (k + 1)) = nxV o (nNext N w asked k) from congrArg (nxV o) (nNext_0 (bi_e0 h26)), hx] at ih; exact xVw (by repeat' first | exact trivial | refine And.intro rfl ?_) (ih (by omega)))
          | (rw [nNext_1 (bi_n0 h26) (Or.inr (by rw [hb1]; exact h41)), nxV_k] at ih; exact xVw (by repeat' first | exact trivial | refine And.intro rfl ?_) (ih (by omega)))
          | (rw [show nxV o (nNext N w asked (k + 1)) = nxV o (nNext N w asked k) from congrArg (nxV o) (nNext_2 (fun h => h.elim hN (fun h9 => by rw [hb1] at h9; exact absurd h9 (by first | exact h41 | (intro h8; omega))))), hx] at ih; exact xVw (by repeat' first | exact trivial | refine And.intro rfl ?_) (ih (by omega)))
        · refine v_aload_n (q := 30) hX dX3_nextWaiting_29 rfl rfl rfl ?_
          refine v_ifnull (q := 33) hX dX3_nextWaiting_30 rfl ?_
          refine v_aload_n (q := 34) hX dX3_nextWaiting_33 rfl rfl rfl ?_
          refine w_getL (q := 37) hX fl_X3_156 rfl (hK.pk (p := k) (by omega)).1 dX3_nextWaiting_34 rfl ?_
          refine v_aload_n (q := 38) hX dX3_nextWaiting_37 rfl rfl rfl ?_
          rw [q1]
          refine w_getL (q := 41) hX fl_X3_156 rfl (hK.pk (p := b) (by omega)).1 dX3_nextWaiting_38 rfl ?_
          rw [(hQ b (by omega)).1]
          have y1 := nPj_le hO (p := k) (by omega) (w + 1) (by omega)
          have y2 := nPj_le hO (p := b) (by omega) (w + 1) (by omega)
          have hB := hO.1
          refine v_lcmp_ge (q := 45) (tgt := 47) hX ⟨by omega, by omega⟩ ⟨by omega, by omega⟩ dX3_nextWaiting_41 dX3_nextWaiting_42 (by decide) rfl (fun h41 => ?_) (fun h41 => ?_)
          · refine v_iinc (q := 50) hX dX3_nextWaiting_47 rfl (Nat.le_of_ble_eq_true rfl) (Nat.le_of_ble_eq_true rfl) rfl ?_
            dsimp only [xs1, xs2, xclr]
            refine v_goto (tgt := 4) hX dX3_nextWaiting_50 (by decide) ?_
            first
          | (rw [show nxV o (nNext N w asked (k + 1)) = nxV o (nNext N w asked k) from congrArg (nxV o) (nNext_0 (bi_e0 h26)), hx] at ih; exact xVw (by repeat' first | exact trivial | refine And.intro rfl ?_) (ih (by omega)))
          | (rw [nNext_1 (bi_n0 h26) (Or.inr (by rw [hb1]; exact h41)), nxV_k] at ih; exact xVw (by repeat' first | exact trivial | refine And.intro rfl ?_) (ih (by omega)))
          | (rw [show nxV o (nNext N w asked (k + 1)) = nxV o (nNext N w asked k) from congrArg (nxV o) (nNext_2 (fun h => h.elim hN (fun h9 => by rw [hb1] at h9; exact absurd h9 (by first | exact h41 | (intro h8; omega))))), hx] at ih; exact xVw (by repeat' first | exact trivial | refine And.intro rfl ?_) (ih (by omega)))
          · refine v_aload_n (q := 46) hX dX3_nextWaiting_45 rfl rfl rfl ?_
            refine v_astore_n (q := 47) hX dX3_nextWaiting_46 rfl (Nat.le_of_ble_eq_true rfl) (Nat.le_of_ble_eq_true rfl) rfl ?_
            dsimp only [xs1, xs2, xclr]
            refine v_iinc (q := 50) hX dX3_nextWaiting_47 rfl (Nat.le_of_ble_eq_true rfl) (Nat.le_of_ble_eq_true rfl) rfl ?_
            dsimp only [xs1, xs2, xclr]
            refine v_goto (tgt := 4) hX dX3_nextWaiting_50 (by decide) ?_
            first
          | (rw [show nxV o (nNext N w asked (k + 1)) = nxV o (nNext N w asked k) from congrArg (nxV o) (nNext_0 (bi_e0 h26)), hx] at ih; exact xVw (by repeat' first | exact trivial | refine And.intro rfl ?_) (ih (by omega)))
          | (rw [nNext_1 (bi_n0 h26) (Or.inr (by rw [hb1]; exact h41)), nxV_k] at ih; exact xVw (by repeat' first | exact trivial | refine And.intro rfl ?_) (ih (by omega)))
          | (rw [show nxV o (nNext N w asked (k + 1)) = nxV o (nNext N w asked k) from congrArg (nxV o) (nNext_2 (fun h => h.elim hN (fun h9 => by rw [hb1] at h9; exact absurd h9 (by first | exact h41 | (intro h8; omega))))), hx] at ih; exact xVw (by repeat' first | exact trivial | refine And.intro rfl ?_) (ih (by omega)))
  refine v_null (q := 1) hX dX3_nextWaiting_0 rfl ?_
  refine v_astoreN_n (q := 2) hX dX3_nextWaiting_1 rfl (Nat.le_of_ble_eq_true rfl) (Nat.le_of_ble_eq_true rfl) rfl ?_
  dsimp only [xs1, xs2, xclr]
  refine v_iconst (q := 3) hX dX3_nextWaiting_2 rfl ?_
  refine v_istore_n (q := 4) hX dX3_nextWaiting_3 rfl (Nat.le_of_ble_eq_true rfl) (Nat.le_of_ble_eq_true rfl) rfl ?_
  dsimp only [xs1, xs2, xclr]
  exact L 0 (Nat.zero_le _)


