/-- planning a week changes that week's lots only -/
theorem nPW_keep (np w : Nat) (hw : w < 12) {q i : Nat} (hi : i < 36) (hiw : i ≠ 24 + w) : ∀ m asked N, pF (nPW np w m asked N) q i = pF N q i := by
  intro m
  induction m with
  | zero => intro asked N; rfl
  | succ m ih =>
    intro asked N
    show pF (if nNext N w asked np = -6 then N else _) q i = _
    split
    · rfl
    · rw [ih]; unfold pF; exact fu_ne _ _ _ (by omega)
theorem nPlW_keep (np f : Nat) {q i : Nat} (hi : i < 36) : ∀ j N, f + j ≤ 12 → (i < 24 + f ∨ 24 + f + j ≤ i) → pF (nPlW np f j N) q i = pF N q i := by
  intro j
  induction j with
  | zero => intro N _ _; rfl
  | succ j ih =>
    intro N h hij
    show pF (nPW np (f + j) np 0 (nPlW np f j N)) q i = _
    rw [nPW_keep np (f + j) (by omega) hi (by omega), ih N (by omega) (by omega)]
theorem nPlW_later (np f : Nat) {q i : Nat} (hi : i < 36) (N : Nat → Int) (j : Nat) : ∀ m, f + (j + m) ≤ 12 → i < 24 + f + j → pF (nPlW np f (j + m) N) q i = pF (nPlW np f j N) q i := by
  intro m
  induction m with
  | zero => intro _ _; rfl
  | succ m ih =>
    intro h hij
    show pF (nPW np (f + (j + m)) np 0 (nPlW np f (j + m) N)) q i = _
    rw [nPW_keep np (f + (j + m)) (by omega) hi (by omega), ih (by omega) hij]
theorem rZ_no (N : Nat → Int) {np f p k : Nat} (hp : p < np) (h1 : f ≤ k) (h2 : k < 12) : pF (nMap N np (rZ f 12)) p (24 + k) = 0 := by
  rw [nMap_at _ _ hp (by omega)]; unfold rZ; exact if_pos (by omega)
theorem nPj_rZ (N : Nat → Int) {np f p : Nat} (hp : p < np) (hf : f ≤ 12) : nPj (nMap N np (rZ f 12)) p f = nPj N p f := by
  have e : ∀ i, i < 24 + f → i < 36 → pF (nMap N np (rZ f 12)) p i = pF N p i := fun i hi h6 => by rw [nMap_at _ _ hp h6]; unfold rZ; exact if_neg (by omega)
  exact nPj_cg f ⟨e _ (by omega) (by omega), e _ (by omega) (by omega), e _ (by omega) (by omega)⟩ (fun j hj => ⟨e _ (by omega) (by omega), e _ (by omega) (by omega)⟩)
/-- where the planning stands after j weeks behind the fence -/
def PS (D E : xD) (o np f : Nat) (B : Int) (M : Nat → Int) (j : Nat) : Prop := CR E o (nPlW np f j M) np ∧ nOk B np (nPlW np f j M) ∧ frW o D E ∧ WB E o np (fun p => nPj (nPlW np f j M) p (f + j))
theorem PS.first {D E : xD} {o np f : Nat} {B : Int} {N : Nat → Int} (hO : nOk B np N) (hf : f ≤ 8) (h1 : CR E o (nMap N np (rZ f 12)) np) (h2 : frW o D E) (h3 : WB E o np (fun p => nPj N p f)) : PS D E o np f B (nMap N np (rZ f 12)) 0 :=
  ⟨h1, hO.zero f (Nat.le_refl _), h2, fun p hp => by rw [h3 p hp]; exact (nPj_rZ N hp (by omega)).symm⟩
theorem PS.zero {D E : xD} {o np f : Nat} {B : Int} {N : Nat → Int} {j : Nat} (_h : PS D E o np f B (nMap N np (rZ f 12)) j) (hj : f + j < 12) : ∀ p, p < np → pF (nPlW np f j (nMap N np (rZ f 12))) p (24 + (f + j)) = 0 := fun p hp => by
  rw [nPlW_keep np f (by omega) j _ (by omega) (Or.inr (by omega))]; exact rZ_no N hp (by omega) (by omega)
theorem PS.next {D E D1 : xD} {o np f : Nat} {B : Int} {M : Nat → Int} {j : Nat} (h : PS D E o np f B M j) (hj : f + j < 12) (h1 : CR D1 o (nPW np (f + j) np 0 (nPlW np f j M)) np) (h2 : frW o E D1) (h3 : WB D1 o np (fun p => nPj (nPW np (f + j) np 0 (nPlW np f j M)) p (f + j + 1))) : PS D D1 o np f B M (j + 1) :=
  ⟨h1, nPW_ok hj _ _ _ h.2.1, h.2.2.1.trans h2, h3⟩
set_option maxRecDepth 100000 in
set_option maxHeartbeats 4000000 in
theorem c_X3_planAnew {z : Nat} (D : xD) (r : xR) {o : Nat} (hK : WK o) (hR : WR o r) {np : Nat} {N : Nat → Int} (hC : CR D o N np) {B : Int} (hO : nOk B np N) (f : Nat) (h7 : N 7 = (f : Int)) : MX 3 mX3_planAnew [.ref o] (351, z) D r (351, z) (xEn (fun D' => CR D' o (nPlan np f N) np ∧ frW o D D') r) := by
  refine MX.of (by decide +kernel) [some (.ref o), none] rfl (Nat.le_of_ble_eq_true rfl) ?_
  intro γ hX hRX
  have hf8 := hO.2.2.2.1.2.2.1
  have L : ∀ j, j ≤ 12 - f → ∀ E : xD, PS D E o np f B (nMap N np (rZ f 12)) j → xV γ 10 [some (.ref o), some (vi ((f + j : Nat) : Int))] [] (351, z) E r := by
    refine xup (12 - f) (fun j hj ih E hS => ?_)
    refine v_iload_n (q := 11) hX dX3_planAnew_10 rfl rfl rfl ?_
    refine v_bipush (q := 13) hX (by decide) dX3_planAnew_11 rfl ?_
    refine v_icmp_ge (q := 16) (tgt := 27) hX ⟨by omega, by omega⟩ (by decide) dX3_planAnew_13 (by decide) rfl (fun h13 => ?_) (fun h13 => ?_)
    · refine v_vreturn hX hRX rfl dX3_planAnew_27 rfl ?_
      have hj2 : j = 12 - f := by omega
      subst hj2
      exact ⟨rfl, rfl, hS.1, hS.2.2.1⟩
    · refine v_aload_n (q := 17) hX dX3_planAnew_16 rfl rfl rfl ?_
      refine v_iload_n (q := 18) hX dX3_planAnew_17 rfl rfl rfl ?_
      refine w_callVn (q := 21) hX (c_X3_planWeek E _ hK hR hS.1 hS.2.1 (f + j) (by omega) (hS.zero (by omega)) hS.2.2.2) rfl kV_X3_planWeek rfl (by decide) lk_X3_120 (by decide) rfl hK.1 (Nat.le_of_ble_eq_true rfl) dX3_planAnew_18 rfl (fun D1 hD1 => ?_)
      obtain ⟨d1, d2, d3⟩ := hD1
      have hS2 := hS.next (by omega) d1 d2 d3
      refine v_iinc (q := 24) hX dX3_planAnew_21 rfl (Nat.le_of_ble_eq_true rfl) (Nat.le_of_ble_eq_true rfl) rfl ?_
      dsimp only [xs1, xs2, xclr]
      refine v_goto (tgt := 10) hX dX3_planAnew_24 (by decide) ?_
      exact xVw (by repeat' first | exact trivial | refine And.intro rfl ?_) (ih (by omega) _ hS2)
  refine v_aload_n (q := 1) hX dX3_planAnew_0 rfl rfl rfl ?_
  refine w_callVn (q := 4) hX (c_X3_openPlans _ _ hK hR hC hO f h7) rfl kV_X3_openPlans rfl (by decide) lk_X3_117 (by decide) rfl hK.1 (Nat.le_of_ble_eq_true rfl) dX3_planAnew_1 rfl (fun E hE => ?_)
  obtain ⟨e1, e2, e3⟩ := hE
  have hS := PS.first hO (by omega) e1 e2 e3
  refine v_aload_n (q := 5) hX dX3_planAnew_4 rfl rfl rfl ?_
  refine v_iconst (q := 6) hX dX3_planAnew_5 rfl ?_
  refine w_callV (q := 9) hX (c_X3_setting _ _ hK hR hS.1 2 (by decide) (j := 7) rfl) rfl kV_X3_setting rfl (by decide) lk_X3_70 (by decide) rfl hK.1 (Nat.le_of_ble_eq_true rfl) dX3_planAnew_6 rfl ?_
  rw [show nPlW np f 0 (nMap N np (rZ f 12)) 7 = (f : Int) from (nMap_hd _ _ _ (by decide)).trans h7]
  refine v_istore_n (q := 10) hX dX3_planAnew_9 rfl (Nat.le_of_ble_eq_true rfl) (Nat.le_of_ble_eq_true rfl) rfl ?_
  dsimp only [xs1, xs2, xclr]
  exact L 0 (Nat.zero_le _) E hS

def shP (x : Nat → Int) : Nat → Bool
  | 0 => false
  | k + 1 => shP x k || decide (x k < 0)
theorem shP_of {x : Nat → Int} {k np : Nat} (hk : k < np) (h : x k < 0) : shP x np = true := by
  induction np with
  | zero => omega
  | succ n ih =>
    unfold shP
    by_cases hkn : k = n
    · subst hkn; simp [h]
    · rw [ih (by omega)]; rfl
theorem shP_no {x : Nat → Int} : ∀ k, shP x k = false ↔ ∀ p, p < k → 0 ≤ x p := by
  intro k
  induction k with
  | zero => exact ⟨fun _ p hp => absurd hp (by omega), fun _ => rfl⟩
  | succ k ih =>
    unfold shP
    rw [Bool.or_eq_false_iff, ih, decide_eq_false_iff_not]
    refine ⟨fun h p hp => ?_, fun h => ⟨fun p hp => h p (by omega), by have := h k (by omega); omega⟩⟩
    by_cases hpk : p = k
    · subst hpk; omega
    · exact h.1 p (by omega)
set_option maxRecDepth 100000 in
set_option maxHeartbeats 4000000 in
theorem c_X3_isShort {z : Nat} (D : xD) (r : xR) {o : Nat} (hK : WK o) (hR : WR o r) {np : Nat} {N : Nat → Int} (hC : CR D o N np) (hnp : np ≤ 10) (x : Nat → Int) (hB : WB D o np x) (hx : ∀ p, p < np → xJ (x p)) : MX 1 mX3_isShort [.ref o] (351, z) D r (351, z) (xP (vi (bi (shP x np = true))) D r) := by
  refine MX.of (by decide +kernel) [some (.ref o), none, none] rfl (Nat.le_of_ble_eq_true rfl) ?_
  intro γ hX hRX
  have L : ∀ k, k ≤ np → shP x k = false → xV γ 2 [some (.ref o), some (vi (k : Nat)), none] [] (351, z) D r := by
    refine xup np (fun k hk ih hs => ?_)
    refine v_iload_n (q := 3) hX dX3_isShort_2 rfl rfl rfl ?_
    refine v_aload_n (q := 4) hX dX3_isShort_3 rfl rfl rfl ?_
    refine w_getI (q := 7) hX fl_X3_45 rfl hK.1 dX3_isShort_4 rfl ?_
    rw [hC.np]
    refine v_icmp_ge (q := 10) (tgt := 37) hX ⟨by omega, by omega⟩ ⟨by omega, by omega⟩ dX3_isShort_7 (by decide) rfl (fun h7 => ?_) (fun h7 => ?_)
    · refine v_iconst (q := 38) hX dX3_isShort_37 rfl ?_
      refine v_ireturn hX hRX rfl (rfl) dX3_isShort_38 rfl ?_
      exact ⟨by rw [show k = np by omega] at hs; rw [bi, hs]; rfl, rfl, rfl⟩
    · refine v_aload_n (q := 11) hX dX3_isShort_10 rfl rfl rfl ?_
      refine v_iload_n (q := 12) hX dX3_isShort_11 rfl rfl rfl ?_
      refine w_callV (q := 15) hX (c_X3_productAt _ _ hK hR hC.np hnp (k) (by omega)) rfl kV_X3_productAt rfl (by decide) lk_X3_49 (by decide) rfl hK.1 (Nat.le_of_ble_eq_true rfl) dX3_isShort_12 rfl ?_
      refine v_astore_n (q := 16) hX dX3_isShort_15 rfl (Nat.le_of_ble_eq_true rfl) (Nat.le_of_ble_eq_true rfl) rfl ?_
      dsimp only [xs1, xs2, xclr]
      refine v_aload_n (q := 17) hX dX3_isShort_16 rfl rfl rfl ?_
      refine v_ifnull (q := 20) hX dX3_isShort_17 rfl ?_
      refine v_aload_n (q := 21) hX dX3_isShort_20 rfl rfl rfl ?_
      refine w_getL (q := 24) hX fl_X3_156 rfl (hK.pk (p := k) (by omega)).1 dX3_isShort_21 rfl ?_
      rw [hB k (by omega)]
      refine v_lconst (q := 25) (e := 0) hX (by decide) dX3_isShort_24 rfl ?_
      refine v_lcmp_ge (q := 29) (tgt := 31) hX (hx k (by omega)) (by decide) dX3_isShort_25 dX3_isShort_26 (by decide) rfl (fun h25 => ?_) (fun h25 => ?_)
      · refine v_iinc (q := 34) hX dX3_isShort_31 rfl (Nat.le_of_ble_eq_true rfl) (Nat.le_of_ble_eq_true rfl) rfl ?_
        dsimp only [xs1, xs2, xclr]
        refine v_goto (tgt := 2) hX dX3_isShort_34 (by decide) ?_
        exact xVw (by repeat' first | exact trivial | refine And.intro rfl ?_) (ih (by omega) (by unfold shP; rw [hs]; simp; omega))
      · refine v_iconst (q := 30) hX dX3_isShort_29 rfl ?_
        refine v_ireturn hX hRX rfl (rfl) dX3_isShort_30 rfl ?_
        exact ⟨by rw [bi, if_pos (shP_of (k := k) (by omega) h25)], rfl, rfl⟩
  refine v_iconst (q := 1) hX dX3_isShort_0 rfl ?_
  refine v_istore_n (q := 2) hX dX3_isShort_1 rfl (Nat.le_of_ble_eq_true rfl) (Nat.le_of_ble_eq_true rfl) rfl ?_
  dsimp only [xs1, xs2, xclr]
  exact L 0 (Nat.zero_le _) rfl

theorem nDoW_iff (N : Nat → Int) (p f : Nat) : ∀ n, nDoW N p f n = true ↔ ∀ i, i < n → 0 ≤ nPj N p (f + i + 1) := by
  intro n
  induction n with
  | zero => exact ⟨fun _ i hi => absurd hi (by omega), fun _ => rfl⟩
  | succ n ih =>
    show (nDoW N p f n && decide (0 ≤ nPj N p (f + n + 1))) = true ↔ _
    rw [Bool.and_eq_true, ih, decide_eq_true_eq]
    refine ⟨fun h i hi => ?_, fun h => ⟨fun i hi => h i (by omega), h n (by omega)⟩⟩
    by_cases hin : i = n
    · subst hin; exact h.2
    · exact h.1 i (by omega)
theorem nDo_iff (N : Nat → Int) (f : Nat) : ∀ k, nDo N f k = true ↔ ∀ p, p < k → nDoW N p f (12 - f) = true := by
  intro k
  induction k with
  | zero => exact ⟨fun _ p hp => absurd hp (by omega), fun _ => rfl⟩
  | succ k ih =>
    show (nDo N f k && nDoW N k f (12 - f)) = true ↔ _
    rw [Bool.and_eq_true, ih]
    refine ⟨fun h p hp => ?_, fun h => ⟨fun p hp => h p (by omega), h k (by omega)⟩⟩
    by_cases hpk : p = k
    · subst hpk; exact h.2
    · exact h.1 p (by omega)
theorem nPj_later (np f : Nat) (M : Nat → Int) {p j i : Nat} (hi : i ≤ j) (hj : f + j ≤ 12) : nPj (nPlW np f (12 - f) M) p (f + i) = nPj (nPlW np f j M) p (f + i) := by
  obtain ⟨m, hm⟩ : ∃ m, 12 - f = j + m := ⟨12 - f - j, by omega⟩
  rw [hm]
  have e : ∀ k, k < 24 + f + j → k < 36 → pF (nPlW np f (j + m) M) p k = pF (nPlW np f j M) p k := fun k h1 h2 => nPlW_later np f h2 M j m (by omega) h1
  exact nPj_cg _ ⟨e _ (by omega) (by omega), e _ (by omega) (by omega), e _ (by omega) (by omega)⟩ (fun k hk => ⟨e _ (by omega) (by omega), e _ (by omega) (by omega)⟩)
/-- no projection was below 0 in the first j weeks behind the fence -/
def okJ (np f : Nat) (M : Nat → Int) (j : Nat) : Prop := ∀ p, p < np → ∀ i, i < j → 0 ≤ nPj (nPlW np f (12 - f) M) p (f + i + 1)
set_option maxRecDepth 100000 in
set_option maxHeartbeats 4000000 in
theorem c_X3_plansWithoutShortage {z : Nat} (D : xD) (r : xR) {o : Nat} (hK : WK o) (hR : WR o r) {np : Nat} {N : Nat → Int} (hC : CR D o N np) {B : Int} (hO : nOk B np N) (f : Nat) (h7 : N 7 = (f : Int)) : MX 3 mX3_plansWithoutShortage [.ref o] (351, z) D r (351, z) (xEs (vi (bi (nDo (nPlan np f N) f np = true))) (fun D' => frW o D D' ∧ ∃ j, j ≤ 12 - f ∧ CR D' o (nPlW np f j (nMap N np (rZ f 12))) np) r) := by
  refine MX.of (by decide +kernel) [some (.ref o), none] rfl (Nat.le_of_ble_eq_true rfl) ?_
  intro γ hX hRX
  have hf8 := hO.2.2.2.1.2.2.1
  have hnp := hO.np.2
  have L : ∀ j, j ≤ 12 - f → ∀ E : xD, PS D E o np f B (nMap N np (rZ f 12)) j → okJ np f (nMap N np (rZ f 12)) j → xV γ 10 [some (.ref o), some (vi ((f + j : Nat) : Int))] [] (351, z) E r := by
    refine xup (12 - f) (fun j hj ih E hS hok => ?_)
    refine v_iload_n (q := 11) hX dX3_plansWithoutShortage_10 rfl rfl rfl ?_
    refine v_bipush (q := 13) hX (by decide) dX3_plansWithoutShortage_11 rfl ?_
    refine v_icmp_ge (q := 16) (tgt := 36) hX ⟨by omega, by omega⟩ (by decide) dX3_plansWithoutShortage_13 (by decide) rfl (fun h13 => ?_) (fun h13 => ?_)
    · refine v_iconst (q := 37) hX dX3_plansWithoutShortage_36 rfl ?_
      refine v_ireturn hX hRX rfl (rfl) dX3_plansWithoutShortage_37 rfl ?_
      have hj2 : j = 12 - f := by omega
      subst hj2
      refine ⟨?_, rfl, hS.2.2.1, 12 - f, Nat.le_refl _, hS.1⟩
      rw [bi, if_pos (show nDo (nPlan np f N) f np = true from (nDo_iff _ f np).2 (fun p hp => (nDoW_iff _ p f _).2 (fun i hi => hok p hp i hi)))]
    · refine v_aload_n (q := 17) hX dX3_plansWithoutShortage_16 rfl rfl rfl ?_
      refine v_iload_n (q := 18) hX dX3_plansWithoutShortage_17 rfl rfl rfl ?_
      refine w_callVn (q := 21) hX (c_X3_planWeek E _ hK hR hS.1 hS.2.1 (f + j) (by omega) (hS.zero (by omega)) hS.2.2.2) rfl kV_X3_planWeek rfl (by decide) lk_X3_120 (by decide) rfl hK.1 (Nat.le_of_ble_eq_true rfl) dX3_plansWithoutShortage_18 rfl (fun D1 hD1 => ?_)
      obtain ⟨d1, d2, d3⟩ := hD1
      have hS2 := hS.next (by omega) d1 d2 d3
      have hx : ∀ p, p < np → xJ (nPj (nPlW np f (j + 1) (nMap N np (rZ f 12))) p (f + (j + 1))) := fun p hp => by have y := nPj_le hS2.2.1 hp (f + (j + 1)) (by omega); have hB := hO.1; exact ⟨by omega, by omega⟩
      refine v_aload_n (q := 22) hX dX3_plansWithoutShortage_21 rfl rfl rfl ?_
      refine w_callV (q := 25) hX (c_X3_isShort _ _ hK hR hS2.1 hnp _ hS2.2.2.2 hx) rfl kV_X3_isShort rfl (by decide) lk_X3_124 (by decide) rfl hK.1 (Nat.le_of_ble_eq_true rfl) dX3_plansWithoutShortage_22 rfl ?_
      refine w_ifeq (q := 28) (tgt := 30) hX dX3_plansWithoutShortage_25 (by decide) rfl (fun h25 => ?_) (fun h25 => ?_)
      · refine v_iinc (q := 33) hX dX3_plansWithoutShortage_30 rfl (Nat.le_of_ble_eq_true rfl) (Nat.le_of_ble_eq_true rfl) rfl ?_
        dsimp only [xs1, xs2, xclr]
        refine v_goto (tgt := 10) hX dX3_plansWithoutShortage_33 (by decide) ?_
        exact xVw (by repeat' first | exact trivial | refine And.intro rfl ?_) (ih (by omega) _ hS2 (fun p hp i hi => by
        by_cases hij : i = j
        · subst hij
          have h9 := (shP_no np).1 (by simpa using h25) p hp
          rw [show f + i + 1 = f + (i + 1) by omega, nPj_later np f _ (Nat.le_refl (i + 1)) (by omega)]; exact h9
        · exact hok p hp i (by omega)))
      · refine v_iconst (q := 29) hX dX3_plansWithoutShortage_28 rfl ?_
        refine v_ireturn hX hRX rfl (rfl) dX3_plansWithoutShortage_29 rfl ?_
        refine ⟨?_, rfl, hS2.2.2.1, j + 1, by omega, hS2.1⟩
        rw [bi, if_neg]
        intro h9
        have h8 : shP (fun p => nPj (nPlW np f (j + 1) (nMap N np (rZ f 12))) p (f + (j + 1))) np = false := (shP_no np).2 (fun p hp => by
        have h7 := (nDoW_iff _ p f _).1 ((nDo_iff _ f np).1 h9 p hp) j (by omega)
        rw [show f + j + 1 = f + (j + 1) by omega] at h7
        rw [show nPlan np f N = nPlW np f (12 - f) (nMap N np (rZ f 12)) from rfl, nPj_later np f _ (Nat.le_refl (j + 1)) (by omega)] at h7; exact h7)
        rw [h8] at h25
        simp at h25
  refine v_aload_n (q := 1) hX dX3_plansWithoutShortage_0 rfl rfl rfl ?_
  refine w_callVn (q := 4) hX (c_X3_openPlans _ _ hK hR hC hO f h7) rfl kV_X3_openPlans rfl (by decide) lk_X3_117 (by decide) rfl hK.1 (Nat.le_of_ble_eq_true rfl) dX3_plansWithoutShortage_1 rfl (fun E hE => ?_)
  obtain ⟨e1, e2, e3⟩ := hE
  have hS := PS.first hO (by omega) e1 e2 e3
  refine v_aload_n (q := 5) hX dX3_plansWithoutShortage_4 rfl rfl rfl ?_
  refine v_iconst (q := 6) hX dX3_plansWithoutShortage_5 rfl ?_
  refine w_callV (q := 9) hX (c_X3_setting _ _ hK hR hS.1 2 (by decide) (j := 7) rfl) rfl kV_X3_setting rfl (by decide) lk_X3_70 (by decide) rfl hK.1 (Nat.le_of_ble_eq_true rfl) dX3_plansWithoutShortage_6 rfl ?_
  rw [show nPlW np f 0 (nMap N np (rZ f 12)) 7 = (f : Int) from (nMap_hd _ _ _ (by decide)).trans h7]
  refine v_istore_n (q := 10) hX dX3_plansWithoutShortage_9 rfl (Nat.le_of_ble_eq_true rfl) (Nat.le_of_ble_eq_true rfl) rfl ?_
  dsimp only [xs1, xs2, xclr]
  exact L 0 (Nat.zero_le _) E hS (fun p _ i hi => absurd hi (by omega))


