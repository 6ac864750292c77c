theorem nMap_fh (M : Nat → Int) (np : Nat) (F : (Nat → Int) → Nat → Int) {i : Nat} (hi : i < 18) (x : Int) : nMap (fu M i x) np F = fu (nMap M np F) i x := by
  have hr : ∀ p, nRec (fu M i x) p = nRec M p := fun p => by funext j; exact fu_ne _ _ _ (by omega)
  funext j
  unfold nMap
  by_cases h : 18 ≤ j ∧ j < 18 + 36 * np
  · rw [if_pos h, hr, fu_ne _ _ _ (by omega), if_pos h]
  · rw [if_neg h]
    unfold fu
    by_cases hj : j = i
    · rw [if_pos hj, if_pos hj]
    · rw [if_neg hj, if_neg hj]; exact (if_neg h).symm
theorem nMap_Zk (np f : Nat) (X : Nat → Int) {j : Nat} (hj : f + j ≤ 12) : nMap (nPlW np f j X) np (rZ f 12) = nMap X np (rZ f 12) := by
  funext i
  unfold nMap
  by_cases h : 18 ≤ i ∧ i < 18 + 36 * np
  · rw [if_pos h, if_pos h]
    unfold rZ
    split
    · rfl
    · exact nPlW_keep np f (q := (i - 18) / 36) (i := (i - 18) % 36) (Nat.mod_lt _ (by decide)) j X hj (by omega)
  · rw [if_neg h, if_neg h]
    by_cases h1 : i < 18
    · exact nPlW_hd np f h1 j X
    · exact nTl.plw j X hj (fun _ _ => rfl) i (by omega)
theorem nMap_ZZ (np f : Nat) (X : Nat → Int) : nMap (nMap X np (rZ f 12)) np (rZ f 12) = nMap X np (rZ f 12) := by
  funext i
  by_cases h : 18 ≤ i ∧ i < 18 + 36 * np
  · have e : ∀ Y : Nat → Int, nMap Y np (rZ f 12) i = rZ f 12 (nRec Y ((i - 18) / 36)) ((i - 18) % 36) := fun Y => if_pos h
    rw [e, e]
    unfold rZ
    split
    · rfl
    · rename_i h9
      show pF (nMap X np (rZ f 12)) ((i - 18) / 36) ((i - 18) % 36) = _
      rw [nMap_at _ _ (by omega) (Nat.mod_lt _ (by decide))]
      exact if_neg h9
  · rw [show nMap (nMap X np (rZ f 12)) np (rZ f 12) i = nMap X np (rZ f 12) i from if_neg h]
set_option maxRecDepth 100000 in
set_option maxHeartbeats 4000000 in
theorem c_X4_costs {z : Nat} (D : xD) (r : xR) (hF : rF r) {N : Nat → Int} {np : Nat} (hC : CR D 5 N np) {B : Int} (hV : nV B np N) (hB : B + 24000 ≤ 2100000000) (f w : Nat) (hf8 : f ≤ 8) (hw : 1 ≤ w ∧ w ≤ 12) : MX 4 mX4_costs [.ref 4, vi f, vi w] (351, z) D r (351, z) (xEs (vl (nCost N np f w)) (fun D' => frW 39 D D') r) := by
  refine MX.of (by decide +kernel) [some (.ref 4), some (vi f), some (vi w), none] rfl (Nat.le_of_ble_eq_true rfl) ?_
  intro γ hX hRX
  have hnp := hV.1.np.2
  have hV0 := nC0_V hV hf8
  have hV1 : nV B np (nC0 N np f) := nPlan_I hV0 hf8
  have h70 : nMap (fu N 7 (f : Int)) np rTold 7 = (f : Int) := by rw [nMap_hd _ _ _ (by decide), fu_at]
  have h71 : nC0 N np f 7 = (f : Int) := by unfold nC0; rw [nPlan_hd _ _ _ (by decide)]; exact h70
  have L : ∀ k : Nat, k ≤ w → ∀ E : xD, CR E 39 (nPs np f k (nC0 N np f)) np → frW 39 D E → xV γ 60 [some (.ref 4), some (vi f), some (vi w), some (vi (k : Nat))] [] (351, z) E r := by
    refine xup w (fun k hk ih E hCE hfE => ?_)
    have hVk := nPs_I hf8 k _ hV1 (by omega)
    have h7k : fu (nStep (nPs np f k (nC0 N np f)) np) 0 (nStep (nPs np f k (nC0 N np f)) np 0 + 1) 7 = (f : Int) := by rw [fu_ne _ _ _ (by decide), nStep_o _ _ (by omega), nPs_hd np f (by omega)]; exact h71
    refine v_iload_n (q := 61) hX dX4_costs_60 rfl rfl rfl ?_
    refine v_iload_n (q := 62) hX dX4_costs_61 rfl rfl rfl ?_
    refine v_icmp_ge (q := 65) (tgt := 85) hX ⟨by omega, by omega⟩ ⟨by omega, by omega⟩ dX4_costs_62 (by decide) rfl (fun hx_62 => ?_) (fun hx_62 => ?_)
    · refine v_aload_n (q := 86) hX dX4_costs_85 rfl rfl rfl ?_
      refine w_getR (q := 89) hX fl_X4_16 rfl oLF hF.f1 dX4_costs_86 rfl ?_
      refine w_getL (q := 92) hX fl_X4_185 rfl WK_39.1 dX4_costs_89 rfl ?_
      rw [hCE.co]
      refine v_aload_n (q := 93) hX dX4_costs_92 rfl rfl rfl ?_
      refine w_getR (q := 96) hX fl_X4_10 rfl oLF hF.f0 dX4_costs_93 rfl ?_
      refine w_getL (q := 99) hX fl_X4_185 rfl WK_5.1 dX4_costs_96 rfl ?_
      rw [hfE 5 (by omega), hC.co, show k = w by omega]
      refine v_lsub (q := 100) hX dX4_costs_99 rfl ?_
      refine v_lreturn hX hRX rfl dX4_costs_100 rfl ?_
      exact ⟨rfl, rfl, hfE⟩
    · refine v_aload_n (q := 66) hX dX4_costs_65 rfl rfl rfl ?_
      refine w_getR (q := 69) hX fl_X4_16 rfl oLF hF.f1 dX4_costs_66 rfl ?_
      refine w_callVn (q := 72) hX (c_X3_passWeek _ _ (o := 39) WK_39 hF.w39 hCE hVk (by omega)) rfl kV_X3_passWeek rfl (by decide) lk_X4_121 (by decide) rfl WK_39.1 (Nat.le_of_ble_eq_true rfl) dX4_costs_69 rfl (fun D6 hD6 => ?_)
      have hC6 := hD6.1
      refine v_aload_n (q := 73) hX dX4_costs_72 rfl rfl rfl ?_
      refine w_getR (q := 76) hX fl_X4_16 rfl oLF hF.f1 dX4_costs_73 rfl ?_
      refine w_callVn (q := 79) hX (c_X3_planAnew _ _ (o := 39) WK_39 hF.w39 hC6 (nStep_I hVk (by omega)).1 f h7k) rfl kV_X3_planAnew rfl (by decide) lk_X4_115 (by decide) rfl WK_39.1 (Nat.le_of_ble_eq_true rfl) dX4_costs_76 rfl (fun D7 hD7 => ?_)
      refine v_iinc (q := 82) hX dX4_costs_79 rfl (Nat.le_of_ble_eq_true rfl) (Nat.le_of_ble_eq_true rfl) rfl ?_
      dsimp only [xs1, xs2, xclr]
      refine v_goto (tgt := 60) hX dX4_costs_82 (by decide) ?_
      exact ih (by omega) D7 hD7.1 ((hfE.trans hD6.2).trans hD7.2)
  refine v_iload_n (q := 1) hX dX4_costs_0 rfl rfl rfl ?_
  refine v_iconst (q := 2) hX dX4_costs_1 rfl ?_
  refine v_bipush (q := 4) hX (by decide) dX4_costs_2 rfl ?_
  refine w_callS (q := 7) hX (c_X4_isIn _ _ _ _ _ (by first | assumption | decide | exact ⟨by omega, by omega⟩) (by first | assumption | decide | exact ⟨by omega, by omega⟩) (by first | assumption | decide | exact ⟨by omega, by omega⟩)) rfl kS_X4_isIn rfl (by decide) lk_X4_41 (Nat.le_of_ble_eq_true rfl) dX4_costs_4 rfl ?_
  refine w_ifeq (q := 10) (tgt := 20) hX dX4_costs_7 (by decide) rfl (fun hx_7 => ?_) (fun hx_7 => ?_)
  · exact absurd ⟨by omega, by omega⟩ hx_7
  · refine v_iload_n (q := 11) hX dX4_costs_10 rfl rfl rfl ?_
    refine v_iconst (q := 12) hX dX4_costs_11 rfl ?_
    refine v_bipush (q := 14) hX (by decide) dX4_costs_12 rfl ?_
    refine w_callS (q := 17) hX (c_X4_isIn _ _ _ _ _ (by first | assumption | decide | exact ⟨by omega, by omega⟩) (by first | assumption | decide | exact ⟨by omega, by omega⟩) (by first | assumption | decide | exact ⟨by omega, by omega⟩)) rfl kS_X4_isIn rfl (by decide) lk_X4_41 (Nat.le_of_ble_eq_true rfl) dX4_costs_14 rfl ?_
    refine w_ifne (q := 20) (tgt := 24) hX dX4_costs_17 (by decide) rfl (fun hx_17 => ?_) (fun hx_17 => ?_)
    · refine v_aload_n (q := 25) hX dX4_costs_24 rfl rfl rfl ?_
      refine w_getR (q := 28) hX fl_X4_16 rfl oLF hF.f1 dX4_costs_25 rfl ?_
      refine v_aload_n (q := 29) hX dX4_costs_28 rfl rfl rfl ?_
      refine w_getR (q := 32) hX fl_X4_10 rfl oLF hF.f0 dX4_costs_29 rfl ?_
      refine w_callVn (q := 35) hX (c_X3_copyFrom _ _ (o := 39) WK_39 hF.w39 (o2 := 5) WK_5 hF.w5 hC hnp (by omega)) rfl kV_X3_copyFrom rfl (by decide) lk_X4_203 (by decide) rfl WK_39.1 (Nat.le_of_ble_eq_true rfl) dX4_costs_32 rfl (fun D1 hD1 => ?_)
      have hC1 := hD1.1
      refine v_aload_n (q := 36) hX dX4_costs_35 rfl rfl rfl ?_
      refine w_getR (q := 39) hX fl_X4_16 rfl oLF hF.f1 dX4_costs_36 rfl ?_
      refine v_iconst (q := 40) hX dX4_costs_39 rfl ?_
      refine v_iload_n (q := 41) hX dX4_costs_40 rfl rfl rfl ?_
      refine w_callVn (q := 44) hX (c_X3_changeSetting _ _ (o := 39) WK_39 hF.w39 hC1 2 (by decide) (f : Int)) rfl kV_X3_changeSetting rfl (by decide) lk_X4_60 (by decide) rfl WK_39.1 (Nat.le_of_ble_eq_true rfl) dX4_costs_41 rfl (fun D2 hD2 => ?_)
      have hC2 := hD2.1
      refine v_aload_n (q := 45) hX dX4_costs_44 rfl rfl rfl ?_
      refine w_getR (q := 48) hX fl_X4_16 rfl oLF hF.f1 dX4_costs_45 rfl ?_
      refine w_callVn (q := 51) hX (c_X3_forgetTold _ _ (o := 39) WK_39 hF.w39 hC2 hnp) rfl kV_X3_forgetTold rfl (by decide) lk_X4_210 (by decide) rfl WK_39.1 (Nat.le_of_ble_eq_true rfl) dX4_costs_48 rfl (fun D3 hD3 => ?_)
      have hC3 := hD3.1
      refine v_aload_n (q := 52) hX dX4_costs_51 rfl rfl rfl ?_
      refine w_getR (q := 55) hX fl_X4_16 rfl oLF hF.f1 dX4_costs_52 rfl ?_
      refine w_callVn (q := 58) hX (c_X3_planAnew _ _ (o := 39) WK_39 hF.w39 hC3 hV0.1 f h70) rfl kV_X3_planAnew rfl (by decide) lk_X4_115 (by decide) rfl WK_39.1 (Nat.le_of_ble_eq_true rfl) dX4_costs_55 rfl (fun D4 hD4 => ?_)
      refine v_iconst (q := 59) hX dX4_costs_58 rfl ?_
      refine v_istore_n (q := 60) hX dX4_costs_59 rfl (Nat.le_of_ble_eq_true rfl) (Nat.le_of_ble_eq_true rfl) rfl ?_
      dsimp only [xs1, xs2, xclr]
      exact L 0 (Nat.zero_le _) D4 hD4.1 (((hD1.2.trans hD2.2).trans hD3.2).trans hD4.2)
    · exact absurd ⟨by omega, by omega⟩ hx_17

set_option maxRecDepth 100000 in
set_option maxHeartbeats 4000000 in
theorem c_X4_leastHours {z : Nat} (D : xD) (r : xR) (hF : rF r) {N : Nat → Int} {np : Nat} (hC : CR D 5 N np) {B : Int} (hV : nV B np N) (f : Nat) (h7 : N 7 = (f : Int)) (hf8 : f ≤ 8) : MX 4 mX4_leastHours [.ref 4] (351, z) D r (351, z) (xEs (vi (nLe np f N 101 0)) (fun D' => frW 39 D D') r) := by
  refine MX.of (by decide +kernel) [some (.ref 4), none] rfl (Nat.le_of_ble_eq_true rfl) ?_
  intro γ hX hRX
  have hnp := hV.1.np.2
  have L : ∀ i : Nat, i ≤ 101 → ∀ (E : xD) (M : Nat → Int), frW 39 D E → CR E 39 M np → nOk B np M → M 7 = (f : Int) → nMap M np (rZ f 12) = nMap (nLH np f N i) np (rZ f 12) → nLe np f N (101 - i) i = nLe np f N 101 0 → xV γ 13 [some (.ref 4), some (vi ((10 * i : Nat) : Int))] [] (351, z) E r := by
    refine xup 101 (fun i hi ih E M hfE hCE hOM h7M hG hR => ?_)
    refine v_iload_n (q := 14) hX dX4_leastHours_13 rfl rfl rfl ?_
    refine v_sipush (q := 17) hX (by decide) dX4_leastHours_14 rfl ?_
    refine v_icmp_gt (q := 20) (tgt := 47) hX ⟨by omega, by omega⟩ (by decide) dX4_leastHours_17 (by decide) rfl (fun hx_17 => ?_) (fun hx_17 => ?_)
    · refine v_bipush (q := 49) hX (by decide) dX4_leastHours_47 rfl ?_
      refine v_ireturn hX hRX rfl (by first | rfl | exact bi_nar _) dX4_leastHours_49 rfl ?_
      exact ⟨congrArg (fun e => some (vi e)) (by rw [← hR, show 101 - i = 0 by omega]; rfl), rfl, hfE⟩
    · have hO1 : nOk B np (fu M (5 + 0) ((10 * i : Nat) : Int)) := hOM.set (w := 0) (by decide) ⟨by show (0 : Int) ≤ _; omega, by show _ ≤ (1000 : Int); omega⟩
      have h71 : fu M (5 + 0) ((10 * i : Nat) : Int) 7 = (f : Int) := by rw [fu_ne _ _ _ (by decide)]; exact h7M
      have eX : nMap (fu M (5 + 0) ((10 * i : Nat) : Int)) np (rZ f 12) = nMap (fu (nLH np f N i) 5 ((10 * i : Nat) : Int)) np (rZ f 12) := by rw [nMap_fh _ _ _ (by decide), nMap_fh _ _ _ (by decide), hG]
      have eL : nPlan np f (fu M (5 + 0) ((10 * i : Nat) : Int)) = nLH np f N (i + 1) := by unfold nPlan; rw [eX]; rfl
      obtain ⟨m, hm⟩ : ∃ m, 101 - i = m + 1 := ⟨100 - i, by omega⟩
      rw [hm, nLe, ← eL] at hR
      refine v_aload_n (q := 21) hX dX4_leastHours_20 rfl rfl rfl ?_
      refine w_getR (q := 24) hX fl_X4_16 rfl oLF hF.f1 dX4_leastHours_21 rfl ?_
      refine v_iconst (q := 25) hX dX4_leastHours_24 rfl ?_
      refine v_iload_n (q := 26) hX dX4_leastHours_25 rfl rfl rfl ?_
      refine w_callVn (q := 29) hX (c_X3_changeSetting _ _ (o := 39) WK_39 hF.w39 hCE 0 (by decide) ((10 * i : Nat) : Int)) rfl kV_X3_changeSetting rfl (by decide) lk_X4_60 (by decide) rfl WK_39.1 (Nat.le_of_ble_eq_true rfl) dX4_leastHours_26 rfl (fun D1 hD1 => ?_)
      have hC1 := hD1.1
      refine v_aload_n (q := 30) hX dX4_leastHours_29 rfl rfl rfl ?_
      refine w_getR (q := 33) hX fl_X4_16 rfl oLF hF.f1 dX4_leastHours_30 rfl ?_
      refine w_callVe (q := 36) hX (c_X3_plansWithoutShortage _ _ (o := 39) WK_39 hF.w39 hC1 hO1 f h71) rfl kV_X3_plansWithoutShortage rfl (by decide) lk_X4_206 (by decide) rfl WK_39.1 (Nat.le_of_ble_eq_true rfl) dX4_leastHours_33 rfl (fun D2 hD2 => ?_)
      obtain ⟨hf2, j, hj, hC2⟩ := hD2
      refine w_ifeq (q := 39) (tgt := 41) hX dX4_leastHours_36 (by decide) rfl (fun hx_36 => ?_) (fun hx_36 => ?_)
      · refine v_iinc (q := 44) hX dX4_leastHours_41 rfl (Nat.le_of_ble_eq_true rfl) (Nat.le_of_ble_eq_true rfl) rfl ?_
        dsimp only [xs1, xs2, xclr]
        refine v_goto (tgt := 13) hX dX4_leastHours_44 (by decide) ?_
        rw [if_neg hx_36] at hR
        have eI : ((10 * i : Nat) : Int) + 10 = ((10 * (i + 1) : Nat) : Int) := by omega
        rw [eI]
        refine ih (by omega) D2 _ ((hfE.trans hD1.2).trans hf2) hC2 (nPlW_ok _ _ (by omega) (hO1.zero f (Nat.le_refl _))) (by rw [nPlW_hd _ _ (by decide), nMap_hd _ _ _ (by decide)]; exact h71) ?_ (by rw [show 101 - (i + 1) = m by omega]; exact hR)
        rw [nMap_Zk np f _ (by omega), nMap_ZZ, eX, ← nMap_ZZ, ← nMap_Zk np f (nMap (fu (nLH np f N i) 5 ((10 * i : Nat) : Int)) np (rZ f 12)) (j := 12 - f) (by omega)]
        rfl
      · refine v_iload_n (q := 40) hX dX4_leastHours_39 rfl rfl rfl ?_
        refine v_ireturn hX hRX rfl (by first | rfl | exact bi_nar _) dX4_leastHours_40 rfl ?_
        exact ⟨congrArg (fun e => some (vi e)) (by rw [← hR, if_pos hx_36]), rfl, (hfE.trans hD1.2).trans hf2⟩
  refine v_aload_n (q := 1) hX dX4_leastHours_0 rfl rfl rfl ?_
  refine w_getR (q := 4) hX fl_X4_16 rfl oLF hF.f1 dX4_leastHours_1 rfl ?_
  refine v_aload_n (q := 5) hX dX4_leastHours_4 rfl rfl rfl ?_
  refine w_getR (q := 8) hX fl_X4_10 rfl oLF hF.f0 dX4_leastHours_5 rfl ?_
  refine w_callVn (q := 11) hX (c_X3_copyFrom _ _ (o := 39) WK_39 hF.w39 (o2 := 5) WK_5 hF.w5 hC hnp (by omega)) rfl kV_X3_copyFrom rfl (by decide) lk_X4_203 (by decide) rfl WK_39.1 (Nat.le_of_ble_eq_true rfl) dX4_leastHours_8 rfl (fun D1 hD1 => ?_)
  refine v_iconst (q := 12) hX dX4_leastHours_11 rfl ?_
  refine v_istore_n (q := 13) hX dX4_leastHours_12 rfl (Nat.le_of_ble_eq_true rfl) (Nat.le_of_ble_eq_true rfl) rfl ?_
  dsimp only [xs1, xs2, xclr]
  exact L 0 (by decide) D1 N hD1.2 hD1.1 hV.1 h7 rfl rfl


