theorem nHours_I {B : Int} {np : Nat} {N : Nat → Int} (h : nOk B np N) {w : Nat} (hw : w < 12) : xI (nHours N np w) := by have := nHours_le h hw; exact ⟨by omega, by omega⟩
theorem rF.sl {r : xR} (h : rF r) {a : Nat} (ha : a < 2) : r 281 a = some (283 + 34 * a) := by
  have : a = 0 ∨ a = 1 := by omega
  rcases this with rfl | rfl
  · exact h.s0
  · exact h.s1
theorem rF.ws {r : xR} (h : rF r) {a : Nat} (ha : a < 2) : WR (283 + 34 * a) r := by
  have : a = 0 ∨ a = 1 := by omega
  rcases this with rfl | rfl
  · exact h.w283
  · exact h.w317
theorem WK_sl {a : Nat} (ha : a < 2) : WK (283 + 34 * a) := by
  have : a = 0 ∨ a = 1 := by omega
  rcases this with rfl | rfl
  · exact WK_283
  · exact WK_317
theorem CR.new {D1 D2 : xD} {o np : Nat} {N : Nat → Int} {fa sz lh sh st : Int} (h : CR D1 o N np) (hp : PC D2 (o + 4 + 3 * np) (nNew N np fa sz lh sh st) np) (hf : fr3 (o + 4 + 3 * np) D1 D2) : CR (xu D2 o 3 ((np : Int) + 1)) o (nNew N np fa sz lh sh st) (np + 1) := by
  have hr : ∀ a, a ≠ o → xu D2 o 3 ((np : Int) + 1) a = D2 a := fun a ha => xu_row _ _ _ _ ha
  have hx : ∀ j, j ≠ 3 → xu D2 o 3 ((np : Int) + 1) o j = D1 o j := fun j hj => by rw [xu_ne _ _ _ _ (Or.inr hj), hf o (by omega) (by omega) (by omega)]
  have n0 : ∀ i, i < 18 → i ≠ 1 → nNew N np fa sz lh sh st i = N i := fun i hi h1 => nNew_old _ _ _ _ _ _ _ (Or.inl (by omega)) h1
  refine ⟨by rw [xu_at]; omega, by rw [hx 4 (by decide), n0 0 (by decide) (by decide)]; exact h.wk, by rw [hx 5 (by decide), n0 2 (by decide) (by decide)]; exact h.su, by rw [hx 6 (by decide), n0 3 (by decide) (by decide)]; exact h.ov, by rw [hx 7 (by decide), n0 4 (by decide) (by decide)]; exact h.co, fun i hi => ?_, fun f hf4 => ?_, fun p hp2 => ?_⟩
  · rw [hr _ (by omega), hf _ (by omega) (by omega) (by omega), n0 _ (by omega) (by omega)]; exact h.se hi
  · rw [hr _ (by omega), hf _ (by omega) (by omega) (by omega), n0 _ (by omega) (by omega)]; exact h.fh hf4
  · by_cases hpn : p = np
    · subst hpn
      exact hp.keep (fun j _ => by rw [hr _ (by omega)]) (fun j _ => by rw [hr _ (by omega)]) (fun j _ => by rw [hr _ (by omega)]) (fun _ _ => rfl)
    · have g : PC D2 (o + 4 + 3 * p) (nNew N np fa sz lh sh st) p := (h.pc (p := p) (by omega)).fr3 hf hpn (fun i hi => nNew_old _ _ _ _ _ _ _ (Or.inl (by omega)) (by omega))
      exact g.keep (fun j _ => by rw [hr _ (by omega)]) (fun j _ => by rw [hr _ (by omega)]) (fun j _ => by rw [hr _ (by omega)]) (fun _ _ => rfl)
theorem frW.of3 {D D' : xD} {o p : Nat} (hp : p < 10) (h : fr3 (o + 4 + 3 * p) D D') : frW o D D' := fun a ha => h a (by omega) (by omega) (by omega)
set_option maxRecDepth 100000 in
set_option maxHeartbeats 4000000 in
theorem c_X4_forecast_err {z : Nat} (D : xD) (r : xR) (hF : rF r) {N : Nat → Int} {np : Nat} (hC : CR D 5 N np) (hnp : np ≤ 10) (p w u : Int) (ip_ : xI p) (iw_ : xI w) (iu_ : xI u) (he : eF np p w u ≠ 0) : MX 4 mX4_forecast [.ref 4, vi p, vi w, vi u] (351, z) D r (351, z) (xP (vi (eF np p w u)) D r) := by
  refine MX.of (by decide +kernel) [some (.ref 4), some (vi p), some (vi w), some (vi u), none, none] rfl (Nat.le_of_ble_eq_true rfl) ?_
  intro γ hX hRX
  by_cases hp_ : 0 ≤ p ∧ p < (np : Int)
  · obtain ⟨p, rfl⟩ := Int.eq_ofNat_of_zero_le hp_.1
    have hp : p < np := by omega
    by_cases hw_ : 0 ≤ w ∧ w < 12
    · have hv : eF np (p : Int) w u = -2 := by unfold eF at he ⊢; rw [if_pos ⟨hp_, hw_⟩] at he ⊢; split at he <;> first | exact absurd rfl he | (rename_i h9; rw [if_neg h9])
      rw [hv] at hRX
      have hu_ : ¬ (0 ≤ u ∧ u ≤ 1000) := fun h9 => he (by unfold eF; rw [if_pos ⟨hp_, hw_⟩, if_pos h9])
      refine v_aload_n (q := 1) hX dX4_forecast_0 rfl rfl rfl ?_
      refine w_getR (q := 4) hX fl_X4_10 rfl oLF hF.f0 dX4_forecast_1 rfl ?_
      refine v_iload_n (q := 5) hX dX4_forecast_4 rfl rfl rfl ?_
      refine w_callV (q := 8) hX (c_X3_productAt _ _ WK_5 hF.w5 hC.np hnp p hp) rfl kV_X3_productAt rfl (by decide) lk_X4_85 (by decide) rfl WK_5.1 (Nat.le_of_ble_eq_true rfl) dX4_forecast_5 rfl ?_
      refine v_astore (q := 10) hX dX4_forecast_8 (Nat.le_of_ble_eq_true rfl) (Nat.le_of_ble_eq_true rfl) rfl ?_
      dsimp only [xs1, xs2, xclr]
      refine v_aload (q := 12) hX dX4_forecast_10 rfl rfl ?_
      refine v_ifnull (q := 15) hX dX4_forecast_12 rfl ?_
      refine v_iload_n (q := 16) hX dX4_forecast_15 rfl rfl rfl ?_
      refine w_callS (q := 19) hX (c_X4_isWeek _ _ _ (by first | assumption | decide | exact ⟨by omega, by omega⟩)) rfl kS_X4_isWeek rfl (by decide) lk_X4_89 (Nat.le_of_ble_eq_true rfl) dX4_forecast_16 rfl ?_
      refine w_ifne (q := 22) (tgt := 24) hX dX4_forecast_19 (by decide) rfl (fun hx_19 => ?_) (fun hx_19 => ?_)
      · refine v_iload_n (q := 25) hX dX4_forecast_24 rfl rfl rfl ?_
        refine v_iconst (q := 26) hX dX4_forecast_25 rfl ?_
        refine v_sipush (q := 29) hX (by decide) dX4_forecast_26 rfl ?_
        refine w_callS (q := 32) hX (c_X4_isIn _ _ _ _ _ (by first | assumption | decide | exact ⟨by omega, by omega⟩) (by first | assumption | decide | exact ⟨by omega, by omega⟩) (by first | assumption | decide | exact ⟨by omega, by omega⟩)) rfl kS_X4_isIn rfl (by decide) lk_X4_41 (Nat.le_of_ble_eq_true rfl) dX4_forecast_29 rfl ?_
        refine w_ifne (q := 35) (tgt := 38) hX dX4_forecast_32 (by decide) rfl (fun hx_32 => ?_) (fun hx_32 => ?_)
        · exact absurd hx_32 hu_
        · refine v_bipush (q := 37) hX (by decide) dX4_forecast_35 rfl ?_
          refine v_ireturn hX hRX rfl (by first | rfl | exact bi_nar _) dX4_forecast_37 rfl ?_
          exact ⟨rfl, rfl, rfl⟩
      · exact absurd hw_ hx_19
    · have hv : eF np (p : Int) w u = -1 := by unfold eF; rw [if_neg (fun h9 => hw_ h9.2)]
      rw [hv] at hRX
      refine v_aload_n (q := 1) hX dX4_forecast_0 rfl rfl rfl ?_
      refine w_getR (q := 4) hX fl_X4_10 rfl oLF hF.f0 dX4_forecast_1 rfl ?_
      refine v_iload_n (q := 5) hX dX4_forecast_4 rfl rfl rfl ?_
      refine w_callV (q := 8) hX (c_X3_productAt _ _ WK_5 hF.w5 hC.np hnp p hp) rfl kV_X3_productAt rfl (by decide) lk_X4_85 (by decide) rfl WK_5.1 (Nat.le_of_ble_eq_true rfl) dX4_forecast_5 rfl ?_
      refine v_astore (q := 10) hX dX4_forecast_8 (Nat.le_of_ble_eq_true rfl) (Nat.le_of_ble_eq_true rfl) rfl ?_
      dsimp only [xs1, xs2, xclr]
      refine v_aload (q := 12) hX dX4_forecast_10 rfl rfl ?_
      refine v_ifnull (q := 15) hX dX4_forecast_12 rfl ?_
      refine v_iload_n (q := 16) hX dX4_forecast_15 rfl rfl rfl ?_
      refine w_callS (q := 19) hX (c_X4_isWeek _ _ _ (by first | assumption | decide | exact ⟨by omega, by omega⟩)) rfl kS_X4_isWeek rfl (by decide) lk_X4_89 (Nat.le_of_ble_eq_true rfl) dX4_forecast_16 rfl ?_
      refine w_ifne (q := 22) (tgt := 24) hX dX4_forecast_19 (by decide) rfl (fun hx_19 => ?_) (fun hx_19 => ?_)
      · exact absurd hx_19 hw_
      · refine v_iconst (q := 23) hX dX4_forecast_22 rfl ?_
        refine v_ireturn hX hRX rfl (by first | rfl | exact bi_nar _) dX4_forecast_23 rfl ?_
        exact ⟨rfl, rfl, rfl⟩
  · have hv : eF np p w u = -1 := by unfold eF; rw [if_neg (fun h9 => hp_ h9.1)]
    rw [hv] at hRX
    refine v_aload_n (q := 1) hX dX4_forecast_0 rfl rfl rfl ?_
    refine w_getR (q := 4) hX fl_X4_10 rfl oLF hF.f0 dX4_forecast_1 rfl ?_
    refine v_iload_n (q := 5) hX dX4_forecast_4 rfl rfl rfl ?_
    refine w_callV (q := 8) hX (c_X3_productAt_no _ _ WK_5 hF.w5 hC.np hnp _ (by assumption) (by omega)) rfl kV_X3_productAt rfl (by decide) lk_X4_85 (by decide) rfl WK_5.1 (Nat.le_of_ble_eq_true rfl) dX4_forecast_5 rfl ?_
    refine v_astoreN (q := 10) hX dX4_forecast_8 (Nat.le_of_ble_eq_true rfl) (Nat.le_of_ble_eq_true rfl) rfl ?_
    dsimp only [xs1, xs2, xclr]
    refine v_aloadN (q := 12) hX dX4_forecast_10 rfl rfl ?_
    refine v_ifnullN (tgt := 22) hX dX4_forecast_12 (by decide) ?_
    refine v_iconst (q := 23) hX dX4_forecast_22 rfl ?_
    refine v_ireturn hX hRX rfl (by first | rfl | exact bi_nar _) dX4_forecast_23 rfl ?_
    exact ⟨rfl, rfl, rfl⟩


set_option maxRecDepth 100000 in
set_option maxHeartbeats 4000000 in
theorem c_X4_actual_err {z : Nat} (D : xD) (r : xR) (hF : rF r) {N : Nat → Int} {np : Nat} (hC : CR D 5 N np) (hnp : np ≤ 10) (p u : Int) (ip_ : xI p) (iu_ : xI u) (he : eA np p u ≠ 0) : MX 4 mX4_actual [.ref 4, vi p, vi u] (351, z) D r (351, z) (xP (vi (eA np p u)) D r) := by
  refine MX.of (by decide +kernel) [some (.ref 4), some (vi p), some (vi u), none, none] rfl (Nat.le_of_ble_eq_true rfl) ?_
  intro γ hX hRX
  by_cases hp_ : 0 ≤ p ∧ p < (np : Int)
  · obtain ⟨p, rfl⟩ := Int.eq_ofNat_of_zero_le hp_.1
    have hp : p < np := by omega
    have hu_ : ¬ (u = -6 ∨ (0 ≤ u ∧ u ≤ 2000)) := fun h9 => he (by unfold eA; rw [if_pos hp_, if_pos h9])
    have hv : eA np (p : Int) u = -2 := by unfold eA; rw [if_pos hp_, if_neg hu_]
    rw [hv] at hRX
    refine v_aload_n (q := 1) hX dX4_actual_0 rfl rfl rfl ?_
    refine w_getR (q := 4) hX fl_X4_10 rfl oLF hF.f0 dX4_actual_1 rfl ?_
    refine v_iload_n (q := 5) hX dX4_actual_4 rfl rfl rfl ?_
    refine w_callV (q := 8) hX (c_X3_productAt _ _ WK_5 hF.w5 hC.np hnp p hp) rfl kV_X3_productAt rfl (by decide) lk_X4_85 (by decide) rfl WK_5.1 (Nat.le_of_ble_eq_true rfl) dX4_actual_5 rfl ?_
    refine v_astore_n (q := 9) hX dX4_actual_8 rfl (Nat.le_of_ble_eq_true rfl) (Nat.le_of_ble_eq_true rfl) rfl ?_
    dsimp only [xs1, xs2, xclr]
    refine v_aload_n (q := 10) hX dX4_actual_9 rfl rfl rfl ?_
    refine v_ifnonnull (tgt := 15) hX dX4_actual_10 (by decide) ?_
    refine v_iload_n (q := 16) hX dX4_actual_15 rfl rfl rfl ?_
    refine v_bipush (q := 18) hX (by decide) dX4_actual_16 rfl ?_
    refine v_icmp_eq (q := 21) (tgt := 35) hX iu_ (by decide) dX4_actual_18 (by decide) rfl (fun hx_18 => ?_) (fun hx_18 => ?_)
    · exact absurd (Or.inl hx_18) hu_
    · refine v_iload_n (q := 22) hX dX4_actual_21 rfl rfl rfl ?_
      refine v_iconst (q := 23) hX dX4_actual_22 rfl ?_
      refine v_sipush (q := 26) hX (by decide) dX4_actual_23 rfl ?_
      refine w_callS (q := 29) hX (c_X4_isIn _ _ _ _ _ (by first | assumption | decide | exact ⟨by omega, by omega⟩) (by first | assumption | decide | exact ⟨by omega, by omega⟩) (by first | assumption | decide | exact ⟨by omega, by omega⟩)) rfl kS_X4_isIn rfl (by decide) lk_X4_41 (Nat.le_of_ble_eq_true rfl) dX4_actual_26 rfl ?_
      refine w_ifne (q := 32) (tgt := 35) hX dX4_actual_29 (by decide) rfl (fun hx_29 => ?_) (fun hx_29 => ?_)
      · exact absurd (Or.inr hx_29) hu_
      · refine v_bipush (q := 34) hX (by decide) dX4_actual_32 rfl ?_
        refine v_ireturn hX hRX rfl (by first | rfl | exact bi_nar _) dX4_actual_34 rfl ?_
        exact ⟨rfl, rfl, rfl⟩
  · have hv : eA np p u = -1 := by unfold eA; rw [if_neg hp_]
    rw [hv] at hRX
    refine v_aload_n (q := 1) hX dX4_actual_0 rfl rfl rfl ?_
    refine w_getR (q := 4) hX fl_X4_10 rfl oLF hF.f0 dX4_actual_1 rfl ?_
    refine v_iload_n (q := 5) hX dX4_actual_4 rfl rfl rfl ?_
    refine w_callV (q := 8) hX (c_X3_productAt_no _ _ WK_5 hF.w5 hC.np hnp _ (by assumption) (by omega)) rfl kV_X3_productAt rfl (by decide) lk_X4_85 (by decide) rfl WK_5.1 (Nat.le_of_ble_eq_true rfl) dX4_actual_5 rfl ?_
    refine v_astoreN_n (q := 9) hX dX4_actual_8 rfl (Nat.le_of_ble_eq_true rfl) (Nat.le_of_ble_eq_true rfl) rfl ?_
    dsimp only [xs1, xs2, xclr]
    refine v_aloadN_n (q := 10) hX dX4_actual_9 rfl rfl rfl ?_
    refine v_ifnonnullN (q := 13) hX dX4_actual_10 rfl ?_
    refine v_iconst (q := 14) hX dX4_actual_13 rfl ?_
    refine v_ireturn hX hRX rfl (by first | rfl | exact bi_nar _) dX4_actual_14 rfl ?_
    exact ⟨rfl, rfl, rfl⟩


set_option maxRecDepth 100000 in
set_option maxHeartbeats 4000000 in
theorem c_X4_lots {z : Nat} (D : xD) (r : xR) (hF : rF r) {N : Nat → Int} {np : Nat} (hC : CR D 5 N np) {B : Int} (hV : nV B np N) (p w : Nat) (u : Int) (hp : p < np) (hw : w < 12) (hu_ : 0 ≤ u ∧ u ≤ 1000) (he : ¬ ((w : Int) < N 7 ∨ (N 5 + N 6 < nHours (fu N (18 + 36 * p + (24 + w)) u) np w ∧ nHours N np w < nHours (fu N (18 + 36 * p + (24 + w)) u) np w))) {s : Nat} {π : Nat → Nat} {K : Nat → Nat → Int} {q : Nat → Nat} (hI : HI D r s π K q) (hz : D 75 2 = 0) : MX 4 mX4_lots [.ref 4, vi p, vi w, vi u] (351, z) D r (351, z) (xRs (vi (pF N p (24 + w))) (CX D r s K q N np (fu N (18 + 36 * p + (24 + w)) u) (np))) := by
  refine MX.of (by decide +kernel) [some (.ref 4), some (vi p), some (vi w), some (vi u), none, none, none] rfl (Nat.le_of_ble_eq_true rfl) ?_
  intro γ hX hRX
  have hO := hV.1
  have hnp := hO.np.2
  have hO2 := hO.put (v := u) hp hw hu_
  have hset := hO.2.2.2.1
  refine v_aload_n (q := 1) hX dX4_lots_0 rfl rfl rfl ?_
  refine w_getR (q := 4) hX fl_X4_10 rfl oLF hF.f0 dX4_lots_1 rfl ?_
  refine v_iload_n (q := 5) hX dX4_lots_4 rfl rfl rfl ?_
  refine w_callV (q := 8) hX (c_X3_productAt _ _ WK_5 hF.w5 hC.np hnp p hp) rfl kV_X3_productAt rfl (by decide) lk_X4_85 (by decide) rfl WK_5.1 (Nat.le_of_ble_eq_true rfl) dX4_lots_5 rfl ?_
  refine v_astore (q := 10) hX dX4_lots_8 (Nat.le_of_ble_eq_true rfl) (Nat.le_of_ble_eq_true rfl) rfl ?_
  dsimp only [xs1, xs2, xclr]
  refine v_aload (q := 12) hX dX4_lots_10 rfl rfl ?_
  refine v_ifnull (q := 15) hX dX4_lots_12 rfl ?_
  refine v_iload_n (q := 16) hX dX4_lots_15 rfl rfl rfl ?_
  refine w_callS (q := 19) hX (c_X4_isWeek _ _ _ (by first | assumption | decide | exact ⟨by omega, by omega⟩)) rfl kS_X4_isWeek rfl (by decide) lk_X4_89 (Nat.le_of_ble_eq_true rfl) dX4_lots_16 rfl ?_
  refine w_ifne (q := 22) (tgt := 24) hX dX4_lots_19 (by decide) rfl (fun hx_19 => ?_) (fun hx_19 => ?_)
  · refine v_iload_n (q := 25) hX dX4_lots_24 rfl rfl rfl ?_
    refine v_iconst (q := 26) hX dX4_lots_25 rfl ?_
    refine v_sipush (q := 29) hX (by decide) dX4_lots_26 rfl ?_
    refine w_callS (q := 32) hX (c_X4_isIn _ _ _ _ _ (by first | assumption | decide | exact ⟨by omega, by omega⟩) (by first | assumption | decide | exact ⟨by omega, by omega⟩) (by first | assumption | decide | exact ⟨by omega, by omega⟩)) rfl kS_X4_isIn rfl (by decide) lk_X4_41 (Nat.le_of_ble_eq_true rfl) dX4_lots_29 rfl ?_
    refine w_ifne (q := 35) (tgt := 38) hX dX4_lots_32 (by decide) rfl (fun hx_32 => ?_) (fun hx_32 => ?_)
    · refine v_aload_n (q := 39) hX dX4_lots_38 rfl rfl rfl ?_
      refine w_getR (q := 42) hX fl_X4_10 rfl oLF hF.f0 dX4_lots_39 rfl ?_
      refine v_iload_n (q := 43) hX dX4_lots_42 rfl rfl rfl ?_
      refine v_aload (q := 45) hX dX4_lots_43 rfl rfl ?_
      refine v_iload_n (q := 46) hX dX4_lots_45 rfl rfl rfl ?_
      refine w_callV (q := 49) hX (c_X3_hoursWith _ _ WK_5 hF.w5 hC hO w hw p hp u ⟨by omega, by omega⟩) rfl kV_X3_hoursWith rfl (by decide) lk_X4_98 (by decide) rfl WK_5.1 (Nat.le_of_ble_eq_true rfl) dX4_lots_46 rfl ?_
      refine v_istore (q := 51) hX dX4_lots_49 (Nat.le_of_ble_eq_true rfl) (Nat.le_of_ble_eq_true rfl) rfl ?_
      dsimp only [xs1, xs2, xclr]
      refine v_aload_n (q := 52) hX dX4_lots_51 rfl rfl rfl ?_
      refine w_getR (q := 55) hX fl_X4_10 rfl oLF hF.f0 dX4_lots_52 rfl ?_
      refine v_iload_n (q := 56) hX dX4_lots_55 rfl rfl rfl ?_
      refine w_callV (q := 59) hX (c_X3_isFrozen _ _ WK_5 hF.w5 hC hO w hw) rfl kV_X3_isFrozen rfl (by decide) lk_X4_102 (by decide) rfl WK_5.1 (Nat.le_of_ble_eq_true rfl) dX4_lots_56 rfl ?_
      refine w_ifne (q := 62) (tgt := 87) hX dX4_lots_59 (by decide) rfl (fun hx_59 => ?_) (fun hx_59 => ?_)
      · exact absurd (Or.inl hx_59) he
      · refine v_iload (q := 64) hX dX4_lots_62 rfl rfl ?_
        refine v_aload_n (q := 65) hX dX4_lots_64 rfl rfl rfl ?_
        refine w_getR (q := 68) hX fl_X4_10 rfl oLF hF.f0 dX4_lots_65 rfl ?_
        refine w_callV (q := 71) hX (c_X3_capacity _ _ WK_5 hF.w5 hC) rfl kV_X3_capacity rfl (by decide) lk_X4_105 (by decide) rfl WK_5.1 (Nat.le_of_ble_eq_true rfl) dX4_lots_68 rfl ?_
        refine v_icmp_le (q := 74) (tgt := 90) hX (nHours_I hO2 hw) ⟨by omega, by omega⟩ dX4_lots_71 (by decide) rfl (fun hx_71 => ?_) (fun hx_71 => ?_)
        · refine v_aload_n (q := 91) hX dX4_lots_90 rfl rfl rfl ?_
          refine w_getR (q := 94) hX fl_X4_29 rfl oLF hF.f3 dX4_lots_91 rfl ?_
          refine v_aload_n (q := 95) hX dX4_lots_94 rfl rfl rfl ?_
          refine w_getR (q := 98) hX fl_X4_10 rfl oLF hF.f0 dX4_lots_95 rfl ?_
          refine w_callVq (q := 101) hX (c_X0_remember D r hF hC hnp hI hz) rfl kV_X0_remember rfl (by decide) lk_X4_52 (by decide) rfl oHis (Nat.le_of_ble_eq_true rfl) dX4_lots_98 rfl (fun D1 r1 hD1 => ?_)
          obtain ⟨x1, x2, x3, π1, hI1⟩ := hD1
          have hF := hF.mv x2
          have hC := hC.eq hnp (fun a ha hb => x1 a (by omega) (by omega))
          refine v_aload (q := 103) hX dX4_lots_101 rfl rfl ?_
          refine w_getR (q := 106) hX fl_X4_112 rfl (WK_5.pk (p := p) (by omega)).1 (hF.w5.pr (p := p) (by omega)).2 dX4_lots_103 rfl ?_
          refine v_iload_n (q := 107) hX dX4_lots_106 rfl rfl rfl ?_
          refine w_ild (q := 108) (kk := w) hX (rfl) (hw) (WK_5.pk (p := p) (by omega)).2.2 dX4_lots_107 rfl ?_
          rw [(hC.pc hp).lt w hw]
          refine v_istore (q := 110) hX dX4_lots_108 (Nat.le_of_ble_eq_true rfl) (Nat.le_of_ble_eq_true rfl) rfl ?_
          dsimp only [xs1, xs2, xclr]
          refine v_aload (q := 112) hX dX4_lots_110 rfl rfl ?_
          refine w_getR (q := 115) hX fl_X4_112 rfl (WK_5.pk (p := p) (by omega)).1 (hF.w5.pr (p := p) (by omega)).2 dX4_lots_112 rfl ?_
          refine v_iload_n (q := 116) hX dX4_lots_115 rfl rfl rfl ?_
          refine v_iload_n (q := 117) hX dX4_lots_116 rfl rfl rfl ?_
          refine w_ist (q := 118) (kk := w) hX (rfl) (hw) (WK_5.pk (p := p) (by omega)).2.2 dX4_lots_117 rfl ?_
          refine v_iload (q := 120) hX dX4_lots_118 rfl rfl ?_
          refine v_ireturn hX hRX rfl (by first | rfl | exact bi_nar _) dX4_lots_120 rfl ?_
          exact ⟨rfl, CX.fin x1 x2 x3 hI1 (frW.xu (by omega) (by omega)) (hC.one (i := 24 + w) (by omega) (fr3.xu (by omega)) ((hC.pc hp).lts hw u))⟩
        · refine v_iload (q := 76) hX dX4_lots_74 rfl rfl ?_
          refine v_aload_n (q := 77) hX dX4_lots_76 rfl rfl rfl ?_
          refine w_getR (q := 80) hX fl_X4_10 rfl oLF hF.f0 dX4_lots_77 rfl ?_
          refine v_iload_n (q := 81) hX dX4_lots_80 rfl rfl rfl ?_
          refine w_callV (q := 84) hX (c_X3_hoursIn _ _ WK_5 hF.w5 hC hO w hw) rfl kV_X3_hoursIn rfl (by decide) lk_X4_109 (by decide) rfl WK_5.1 (Nat.le_of_ble_eq_true rfl) dX4_lots_81 rfl ?_
          refine v_icmp_le (q := 87) (tgt := 90) hX (nHours_I hO2 hw) (nHours_I hO hw) dX4_lots_84 (by decide) rfl (fun hx_84 => ?_) (fun hx_84 => ?_)
          · refine v_aload_n (q := 91) hX dX4_lots_90 rfl rfl rfl ?_
            refine w_getR (q := 94) hX fl_X4_29 rfl oLF hF.f3 dX4_lots_91 rfl ?_
            refine v_aload_n (q := 95) hX dX4_lots_94 rfl rfl rfl ?_
            refine w_getR (q := 98) hX fl_X4_10 rfl oLF hF.f0 dX4_lots_95 rfl ?_
            refine w_callVq (q := 101) hX (c_X0_remember D r hF hC hnp hI hz) rfl kV_X0_remember rfl (by decide) lk_X4_52 (by decide) rfl oHis (Nat.le_of_ble_eq_true rfl) dX4_lots_98 rfl (fun D1 r1 hD1 => ?_)
            obtain ⟨x1, x2, x3, π1, hI1⟩ := hD1
            have hF := hF.mv x2
            have hC := hC.eq hnp (fun a ha hb => x1 a (by omega) (by omega))
            refine v_aload (q := 103) hX dX4_lots_101 rfl rfl ?_
            refine w_getR (q := 106) hX fl_X4_112 rfl (WK_5.pk (p := p) (by omega)).1 (hF.w5.pr (p := p) (by omega)).2 dX4_lots_103 rfl ?_
            refine v_iload_n (q := 107) hX dX4_lots_106 rfl rfl rfl ?_
            refine w_ild (q := 108) (kk := w) hX (rfl) (hw) (WK_5.pk (p := p) (by omega)).2.2 dX4_lots_107 rfl ?_
            rw [(hC.pc hp).lt w hw]
            refine v_istore (q := 110) hX dX4_lots_108 (Nat.le_of_ble_eq_true rfl) (Nat.le_of_ble_eq_true rfl) rfl ?_
            dsimp only [xs1, xs2, xclr]
            refine v_aload (q := 112) hX dX4_lots_110 rfl rfl ?_
            refine w_getR (q := 115) hX fl_X4_112 rfl (WK_5.pk (p := p) (by omega)).1 (hF.w5.pr (p := p) (by omega)).2 dX4_lots_112 rfl ?_
            refine v_iload_n (q := 116) hX dX4_lots_115 rfl rfl rfl ?_
            refine v_iload_n (q := 117) hX dX4_lots_116 rfl rfl rfl ?_
            refine w_ist (q := 118) (kk := w) hX (rfl) (hw) (WK_5.pk (p := p) (by omega)).2.2 dX4_lots_117 rfl ?_
            refine v_iload (q := 120) hX dX4_lots_118 rfl rfl ?_
            refine v_ireturn hX hRX rfl (by first | rfl | exact bi_nar _) dX4_lots_120 rfl ?_
            exact ⟨rfl, CX.fin x1 x2 x3 hI1 (frW.xu (by omega) (by omega)) (hC.one (i := 24 + w) (by omega) (fr3.xu (by omega)) ((hC.pc hp).lts hw u))⟩
          · exact absurd (Or.inr ⟨by omega, by omega⟩) he
    · exact absurd hu_ hx_32
  · exact absurd ⟨by omega, by omega⟩ hx_19

set_option maxRecDepth 100000 in
set_option maxHeartbeats 4000000 in
theorem c_X4_lots_err {z : Nat} (D : xD) (r : xR) (hF : rF r) {N : Nat → Int} {np : Nat} (hC : CR D 5 N np) {B : Int} (hV : nV B np N) (p w u : Int) (ip_ : xI p) (iw_ : xI w) (iu_ : xI u) (he : eL N np p w u ≠ 0) : MX 4 mX4_lots [.ref 4, vi p, vi w, vi u] (351, z) D r (351, z) (xP (vi (eL N np p w u)) D r) := by
  refine MX.of (by decide +kernel) [some (.ref 4), some (vi p), some (vi w), some (vi u), none, none, none] rfl (Nat.le_of_ble_eq_true rfl) ?_
  intro γ hX hRX
  have hO := hV.1
  have hnp := hO.np.2
  have hset := hO.2.2.2.1
  by_cases hp_ : 0 ≤ p ∧ p < (np : Int)
  · obtain ⟨p, rfl⟩ := Int.eq_ofNat_of_zero_le hp_.1
    have hp : p < np := by omega
    by_cases hw_ : 0 ≤ w ∧ w < 12
    · obtain ⟨w, rfl⟩ := Int.eq_ofNat_of_zero_le hw_.1
      have hw : w < 12 := by omega
      by_cases hu_ : 0 ≤ u ∧ u ≤ 1000
      · have hq_ : (w : Int) < N 7 ∨ (N 5 + N 6 < nHours (fu N (18 + 36 * p + (24 + w)) u) np w ∧ nHours N np w < nHours (fu N (18 + 36 * p + (24 + w)) u) np w) := by
          refine Classical.byContradiction fun h9 => he ?_
          unfold eL
          rw [if_pos ⟨hp_, hw_⟩, if_pos hu_]
          exact if_neg h9
        have hv : eL N np (p : Int) (w : Int) u = -5 := by
          unfold eL
          rw [if_pos ⟨hp_, hw_⟩, if_pos hu_]
          exact if_pos hq_
        rw [hv] at hRX
        have hO2 := hO.put (v := u) hp hw hu_
        refine v_aload_n (q := 1) hX dX4_lots_0 rfl rfl rfl ?_
        refine w_getR (q := 4) hX fl_X4_10 rfl oLF hF.f0 dX4_lots_1 rfl ?_
        refine v_iload_n (q := 5) hX dX4_lots_4 rfl rfl rfl ?_
        refine w_callV (q := 8) hX (c_X3_productAt _ _ WK_5 hF.w5 hC.np hnp p hp) rfl kV_X3_productAt rfl (by decide) lk_X4_85 (by decide) rfl WK_5.1 (Nat.le_of_ble_eq_true rfl) dX4_lots_5 rfl ?_
        refine v_astore (q := 10) hX dX4_lots_8 (Nat.le_of_ble_eq_true rfl) (Nat.le_of_ble_eq_true rfl) rfl ?_
        dsimp only [xs1, xs2, xclr]
        refine v_aload (q := 12) hX dX4_lots_10 rfl rfl ?_
        refine v_ifnull (q := 15) hX dX4_lots_12 rfl ?_
        refine v_iload_n (q := 16) hX dX4_lots_15 rfl rfl rfl ?_
        refine w_callS (q := 19) hX (c_X4_isWeek _ _ _ (by first | assumption | decide | exact ⟨by omega, by omega⟩)) rfl kS_X4_isWeek rfl (by decide) lk_X4_89 (Nat.le_of_ble_eq_true rfl) dX4_lots_16 rfl ?_
        refine w_ifne (q := 22) (tgt := 24) hX dX4_lots_19 (by decide) rfl (fun hx_19 => ?_) (fun hx_19 => ?_)
        · refine v_iload_n (q := 25) hX dX4_lots_24 rfl rfl rfl ?_
          refine v_iconst (q := 26) hX dX4_lots_25 rfl ?_
          refine v_sipush (q := 29) hX (by decide) dX4_lots_26 rfl ?_
          refine w_callS (q := 32) hX (c_X4_isIn _ _ _ _ _ (by first | assumption | decide | exact ⟨by omega, by omega⟩) (by first | assumption | decide | exact ⟨by omega, by omega⟩) (by first | assumption | decide | exact ⟨by omega, by omega⟩)) rfl kS_X4_isIn rfl (by decide) lk_X4_41 (Nat.le_of_ble_eq_true rfl) dX4_lots_29 rfl ?_
          refine w_ifne (q := 35) (tgt := 38) hX dX4_lots_32 (by decide) rfl (fun hx_32 => ?_) (fun hx_32 => ?_)
          · refine v_aload_n (q := 39) hX dX4_lots_38 rfl rfl rfl ?_
            refine w_getR (q := 42) hX fl_X4_10 rfl oLF hF.f0 dX4_lots_39 rfl ?_
            refine v_iload_n (q := 43) hX dX4_lots_42 rfl rfl rfl ?_
            refine v_aload (q := 45) hX dX4_lots_43 rfl rfl ?_
            refine v_iload_n (q := 46) hX dX4_lots_45 rfl rfl rfl ?_
            refine w_callV (q := 49) hX (c_X3_hoursWith _ _ WK_5 hF.w5 hC hO w hw p hp u ⟨by omega, by omega⟩) rfl kV_X3_hoursWith rfl (by decide) lk_X4_98 (by decide) rfl WK_5.1 (Nat.le_of_ble_eq_true rfl) dX4_lots_46 rfl ?_
            refine v_istore (q := 51) hX dX4_lots_49 (Nat.le_of_ble_eq_true rfl) (Nat.le_of_ble_eq_true rfl) rfl ?_
            dsimp only [xs1, xs2, xclr]
            refine v_aload_n (q := 52) hX dX4_lots_51 rfl rfl rfl ?_
            refine w_getR (q := 55) hX fl_X4_10 rfl oLF hF.f0 dX4_lots_52 rfl ?_
            refine v_iload_n (q := 56) hX dX4_lots_55 rfl rfl rfl ?_
            refine w_callV (q := 59) hX (c_X3_isFrozen _ _ WK_5 hF.w5 hC hO w hw) rfl kV_X3_isFrozen rfl (by decide) lk_X4_102 (by decide) rfl WK_5.1 (Nat.le_of_ble_eq_true rfl) dX4_lots_56 rfl ?_
            refine w_ifne (q := 62) (tgt := 87) hX dX4_lots_59 (by decide) rfl (fun hx_59 => ?_) (fun hx_59 => ?_)
            · refine v_bipush (q := 89) hX (by decide) dX4_lots_87 rfl ?_
              refine v_ireturn hX hRX rfl (by first | rfl | exact bi_nar _) dX4_lots_89 rfl ?_
              exact ⟨rfl, rfl, rfl⟩
            · refine v_iload (q := 64) hX dX4_lots_62 rfl rfl ?_
              refine v_aload_n (q := 65) hX dX4_lots_64 rfl rfl rfl ?_
              refine w_getR (q := 68) hX fl_X4_10 rfl oLF hF.f0 dX4_lots_65 rfl ?_
              refine w_callV (q := 71) hX (c_X3_capacity _ _ WK_5 hF.w5 hC) rfl kV_X3_capacity rfl (by decide) lk_X4_105 (by decide) rfl WK_5.1 (Nat.le_of_ble_eq_true rfl) dX4_lots_68 rfl ?_
              refine v_icmp_le (q := 74) (tgt := 90) hX (nHours_I hO2 hw) ⟨by omega, by omega⟩ dX4_lots_71 (by decide) rfl (fun hx_71 => ?_) (fun hx_71 => ?_)
              · exfalso; rcases hq_ with h9 | h9 <;> omega
              · refine v_iload (q := 76) hX dX4_lots_74 rfl rfl ?_
                refine v_aload_n (q := 77) hX dX4_lots_76 rfl rfl rfl ?_
                refine w_getR (q := 80) hX fl_X4_10 rfl oLF hF.f0 dX4_lots_77 rfl ?_
                refine v_iload_n (q := 81) hX dX4_lots_80 rfl rfl rfl ?_
                refine w_callV (q := 84) hX (c_X3_hoursIn _ _ WK_5 hF.w5 hC hO w hw) rfl kV_X3_hoursIn rfl (by decide) lk_X4_109 (by decide) rfl WK_5.1 (Nat.le_of_ble_eq_true rfl) dX4_lots_81 rfl ?_
                refine v_icmp_le (q := 87) (tgt := 90) hX (nHours_I hO2 hw) (nHours_I hO hw) dX4_lots_84 (by decide) rfl (fun hx_84 => ?_) (fun hx_84 => ?_)
                · exfalso; rcases hq_ with h9 | h9 <;> omega
                · refine v_bipush (q := 89) hX (by decide) dX4_lots_87 rfl ?_
                  refine v_ireturn hX hRX rfl (by first | rfl | exact bi_nar _) dX4_lots_89 rfl ?_
                  exact ⟨rfl, rfl, rfl⟩
          · exact absurd hu_ hx_32
        · exact absurd hw_ hx_19
      · have hv : eL N np (p : Int) (w : Int) u = -2 := by unfold eL; rw [if_pos ⟨hp_, hw_⟩, if_neg hu_]
        rw [hv] at hRX
        refine v_aload_n (q := 1) hX dX4_lots_0 rfl rfl rfl ?_
        refine w_getR (q := 4) hX fl_X4_10 rfl oLF hF.f0 dX4_lots_1 rfl ?_
        refine v_iload_n (q := 5) hX dX4_lots_4 rfl rfl rfl ?_
        refine w_callV (q := 8) hX (c_X3_productAt _ _ WK_5 hF.w5 hC.np hnp p hp) rfl kV_X3_productAt rfl (by decide) lk_X4_85 (by decide) rfl WK_5.1 (Nat.le_of_ble_eq_true rfl) dX4_lots_5 rfl ?_
        refine v_astore (q := 10) hX dX4_lots_8 (Nat.le_of_ble_eq_true rfl) (Nat.le_of_ble_eq_true rfl) rfl ?_
        dsimp only [xs1, xs2, xclr]
        refine v_aload (q := 12) hX dX4_lots_10 rfl rfl ?_
        refine v_ifnull (q := 15) hX dX4_lots_12 rfl ?_
        refine v_iload_n (q := 16) hX dX4_lots_15 rfl rfl rfl ?_
        refine w_callS (q := 19) hX (c_X4_isWeek _ _ _ (by first | assumption | decide | exact ⟨by omega, by omega⟩)) rfl kS_X4_isWeek rfl (by decide) lk_X4_89 (Nat.le_of_ble_eq_true rfl) dX4_lots_16 rfl ?_
        refine w_ifne (q := 22) (tgt := 24) hX dX4_lots_19 (by decide) rfl (fun hx_19 => ?_) (fun hx_19 => ?_)
        · refine v_iload_n (q := 25) hX dX4_lots_24 rfl rfl rfl ?_
          refine v_iconst (q := 26) hX dX4_lots_25 rfl ?_
          refine v_sipush (q := 29) hX (by decide) dX4_lots_26 rfl ?_
          refine w_callS (q := 32) hX (c_X4_isIn _ _ _ _ _ (by first | assumption | decide | exact ⟨by omega, by omega⟩) (by first | assumption | decide | exact ⟨by omega, by omega⟩) (by first | assumption | decide | exact ⟨by omega, by omega⟩)) rfl kS_X4_isIn rfl (by decide) lk_X4_41 (Nat.le_of_ble_eq_true rfl) dX4_lots_29 rfl ?_
          refine w_ifne (q := 35) (tgt := 38) hX dX4_lots_32 (by decide) rfl (fun hx_32 => ?_) (fun hx_32 => ?_)
          · exact absurd hx_32 hu_
          · refine v_bipush (q := 37) hX (by decide) dX4_lots_35 rfl ?_
            refine v_ireturn hX hRX rfl (by first | rfl | exact bi_nar _) dX4_lots_37 rfl ?_
            exact ⟨rfl, rfl, rfl⟩
        · exact absurd hw_ hx_19
    · have hv : eL N np (p : Int) w u = -1 := by unfold eL; rw [if_neg (fun h9 => hw_ h9.2)]
      rw [hv] at hRX
      refine v_aload_n (q := 1) hX dX4_lots_0 rfl rfl rfl ?_
      refine w_getR (q := 4) hX fl_X4_10 rfl oLF hF.f0 dX4_lots_1 rfl ?_
      refine v_iload_n (q := 5) hX dX4_lots_4 rfl rfl rfl ?_
      refine w_callV (q := 8) hX (c_X3_productAt _ _ WK_5 hF.w5 hC.np hnp p hp) rfl kV_X3_productAt rfl (by decide) lk_X4_85 (by decide) rfl WK_5.1 (Nat.le_of_ble_eq_true rfl) dX4_lots_5 rfl ?_
      refine v_astore (q := 10) hX dX4_lots_8 (Nat.le_of_ble_eq_true rfl) (Nat.le_of_ble_eq_true rfl) rfl ?_
      dsimp only [xs1, xs2, xclr]
      refine v_aload (q := 12) hX dX4_lots_10 rfl rfl ?_
      refine v_ifnull (q := 15) hX dX4_lots_12 rfl ?_
      refine v_iload_n (q := 16) hX dX4_lots_15 rfl rfl rfl ?_
      refine w_callS (q := 19) hX (c_X4_isWeek _ _ _ (by first | assumption | decide | exact ⟨by omega, by omega⟩)) rfl kS_X4_isWeek rfl (by decide) lk_X4_89 (Nat.le_of_ble_eq_true rfl) dX4_lots_16 rfl ?_
      refine w_ifne (q := 22) (tgt := 24) hX dX4_lots_19 (by decide) rfl (fun hx_19 => ?_) (fun hx_19 => ?_)
      · exact absurd hx_19 hw_
      · refine v_iconst (q := 23) hX dX4_lots_22 rfl ?_
        refine v_ireturn hX hRX rfl (by first | rfl | exact bi_nar _) dX4_lots_23 rfl ?_
        exact ⟨rfl, rfl, rfl⟩
  · have hv : eL N np p w u = -1 := by unfold eL; rw [if_neg (fun h9 => hp_ h9.1)]
    rw [hv] at hRX
    refine v_aload_n (q := 1) hX dX4_lots_0 rfl rfl rfl ?_
    refine w_getR (q := 4) hX fl_X4_10 rfl oLF hF.f0 dX4_lots_1 rfl ?_
    refine v_iload_n (q := 5) hX dX4_lots_4 rfl rfl rfl ?_
    refine w_callV (q := 8) hX (c_X3_productAt_no _ _ WK_5 hF.w5 hC.np hnp _ (by assumption) (by omega)) rfl kV_X3_productAt rfl (by decide) lk_X4_85 (by decide) rfl WK_5.1 (Nat.le_of_ble_eq_true rfl) dX4_lots_5 rfl ?_
    refine v_astoreN (q := 10) hX dX4_lots_8 (Nat.le_of_ble_eq_true rfl) (Nat.le_of_ble_eq_true rfl) rfl ?_
    dsimp only [xs1, xs2, xclr]
    refine v_aloadN (q := 12) hX dX4_lots_10 rfl rfl ?_
    refine v_ifnullN (tgt := 22) hX dX4_lots_12 (by decide) ?_
    refine v_iconst (q := 23) hX dX4_lots_22 rfl ?_
    refine v_ireturn hX hRX rfl (by first | rfl | exact bi_nar _) dX4_lots_23 rfl ?_
    exact ⟨rfl, rfl, rfl⟩


set_option maxRecDepth 100000 in
set_option maxHeartbeats 4000000 in
theorem c_X4_plan {z : Nat} (D : xD) (r : xR) (hF : rF r) {N : Nat → Int} {np : Nat} (hC : CR D 5 N np) {B : Int} (hV : nV B np N) (f : Nat) (h7 : N 7 = (f : Int)) (hf8 : f ≤ 8) {s : Nat} {π : Nat → Nat} {K : Nat → Nat → Int} {q : Nat → Nat} (hI : HI D r s π K q) (hz : D 75 2 = 0) : MX 4 mX4_plan [.ref 4] (351, z) D r (351, z) (xRs (vi (nLots (nPlan np f N) np)) (CX D r s K q N np (nPlan np f N) (np))) := by
  refine MX.of (by decide +kernel) [some (.ref 4)] rfl (Nat.le_of_ble_eq_true rfl) ?_
  intro γ hX hRX
  have hnp := hV.1.np.2
  refine v_aload_n (q := 1) hX dX4_plan_0 rfl rfl rfl ?_
  refine w_getR (q := 4) hX fl_X4_29 rfl oLF hF.f3 dX4_plan_1 rfl ?_
  refine v_aload_n (q := 5) hX dX4_plan_4 rfl rfl rfl ?_
  refine w_getR (q := 8) hX fl_X4_10 rfl oLF hF.f0 dX4_plan_5 rfl ?_
  refine w_callVq (q := 11) hX (c_X0_remember D r hF hC hnp hI hz) rfl kV_X0_remember rfl (by decide) lk_X4_52 (by decide) rfl oHis (Nat.le_of_ble_eq_true rfl) dX4_plan_8 rfl (fun D1 r1 hD1 => ?_)
  obtain ⟨x1, x2, x3, π1, hI1⟩ := hD1
  have hF := hF.mv x2
  have hC := hC.eq hnp (fun a ha hb => x1 a (by omega) (by omega))
  refine v_aload_n (q := 12) hX dX4_plan_11 rfl rfl rfl ?_
  refine w_getR (q := 15) hX fl_X4_10 rfl oLF hF.f0 dX4_plan_12 rfl ?_
  refine w_callVn (q := 18) hX (c_X3_planAnew _ _ WK_5 hF.w5 hC hV.1 f h7) rfl kV_X3_planAnew rfl (by decide) lk_X4_115 (by decide) rfl WK_5.1 (Nat.le_of_ble_eq_true rfl) dX4_plan_15 rfl (fun D2 hD2 => ?_)
  have hC := hD2.1
  have hO := nPlan_ok hV.1 hf8
  refine v_aload_n (q := 19) hX dX4_plan_18 rfl rfl rfl ?_
  refine w_getR (q := 22) hX fl_X4_10 rfl oLF hF.f0 dX4_plan_19 rfl ?_
  refine w_callV (q := 25) hX (c_X3_allLots _ _ WK_5 hF.w5 hC hO) rfl kV_X3_allLots rfl (by decide) lk_X4_118 (by decide) rfl WK_5.1 (Nat.le_of_ble_eq_true rfl) dX4_plan_22 rfl ?_
  refine v_ireturn hX hRX rfl (by first | rfl | exact bi_nar _) dX4_plan_25 rfl ?_
  exact ⟨rfl, CX.fin x1 x2 x3 hI1 (hD2.2) (hC)⟩

set_option maxRecDepth 100000 in
set_option maxHeartbeats 4000000 in
theorem c_X4_weeks {z : Nat} (D : xD) (r : xR) (hF : rF r) {N : Nat → Int} {np : Nat} (hC : CR D 5 N np) {B : Int} (hV : nV B np N) (f : Nat) (h7 : N 7 = (f : Int)) (hf8 : f ≤ 8) (m : Nat) (hm : 1 ≤ m ∧ m ≤ 30) (hB : B + 2000 * (m : Int) ≤ 2100000000) {s : Nat} {π : Nat → Nat} {K : Nat → Nat → Int} {q : Nat → Nat} (hI : HI D r s π K q) (hz : D 75 2 = 0) : MX 4 mX4_weeks [.ref 4, vi m] (351, z) D r (351, z) (xRs (vi (nPs np f m N 0)) (CX D r s K q N np (nPs np f m N) (np))) := by
  refine MX.of (by decide +kernel) [some (.ref 4), some (vi m), none] rfl (Nat.le_of_ble_eq_true rfl) ?_
  intro γ hX hRX
  have hnp := hV.1.np.2
  refine v_iload_n (q := 1) hX dX4_weeks_0 rfl rfl rfl ?_
  refine v_iconst (q := 2) hX dX4_weeks_1 rfl ?_
  refine v_bipush (q := 4) hX (by decide) dX4_weeks_2 rfl ?_
  refine w_callS (q := 7) hX (c_X4_isIn _ _ _ _ _ (by first | assumption | decide | exact ⟨by omega, by omega⟩) (by first | assumption | decide | exact ⟨by omega, by omega⟩) (by first | assumption | decide | exact ⟨by omega, by omega⟩)) rfl kS_X4_isIn rfl (by decide) lk_X4_41 (Nat.le_of_ble_eq_true rfl) dX4_weeks_4 rfl ?_
  refine w_ifne (q := 10) (tgt := 13) hX dX4_weeks_7 (by decide) rfl (fun hx_7 => ?_) (fun hx_7 => ?_)
  · refine v_aload_n (q := 14) hX dX4_weeks_13 rfl rfl rfl ?_
    refine w_getR (q := 17) hX fl_X4_29 rfl oLF hF.f3 dX4_weeks_14 rfl ?_
    refine v_aload_n (q := 18) hX dX4_weeks_17 rfl rfl rfl ?_
    refine w_getR (q := 21) hX fl_X4_10 rfl oLF hF.f0 dX4_weeks_18 rfl ?_
    refine w_callVq (q := 24) hX (c_X0_remember D r hF hC hnp hI hz) rfl kV_X0_remember rfl (by decide) lk_X4_52 (by decide) rfl oHis (Nat.le_of_ble_eq_true rfl) dX4_weeks_21 rfl (fun D1 r1 hD1 => ?_)
    obtain ⟨x1, x2, x3, π1, hI1⟩ := hD1
    have hF := hF.mv x2
    have hC := hC.eq hnp (fun a ha hb => x1 a (by omega) (by omega))
    refine v_iconst (q := 25) hX dX4_weeks_24 rfl ?_
    refine v_istore_n (q := 26) hX dX4_weeks_25 rfl (Nat.le_of_ble_eq_true rfl) (Nat.le_of_ble_eq_true rfl) rfl ?_
    dsimp only [xs1, xs2, xclr]
    have L : ∀ k, k ≤ m → ∀ E : xD, CR E 5 (nPs np f k N) np → frW 5 D1 E → xV γ 26 [some (.ref 4), some (vi m), some (vi (k : Nat))] [] (351, z) E r1 := by
      refine xup m (fun k hk ih E hC hfE => ?_)
      have hVk := nPs_I hf8 k N hV (by omega)
      have h7k : fu (nStep (nPs np f k N) np) 0 (nStep (nPs np f k N) np 0 + 1) 7 = (f : Int) := by rw [fu_ne _ _ _ (by decide), nStep_o _ _ (by omega), nPs_hd np f (by omega)]; exact h7
      refine v_iload_n (q := 27) hX dX4_weeks_26 rfl rfl rfl ?_
      refine v_iload_n (q := 28) hX dX4_weeks_27 rfl rfl rfl ?_
      refine v_icmp_ge (q := 31) (tgt := 51) hX ⟨by omega, by omega⟩ ⟨by omega, by omega⟩ dX4_weeks_28 (by decide) rfl (fun hx_28 => ?_) (fun hx_28 => ?_)
      · refine v_aload_n (q := 52) hX dX4_weeks_51 rfl rfl rfl ?_
        refine w_getR (q := 55) hX fl_X4_10 rfl oLF hF.f0 dX4_weeks_52 rfl ?_
        refine w_getI (q := 58) hX fl_X4_124 rfl WK_5.1 dX4_weeks_55 rfl ?_
        rw [hC.wk, show k = m by omega]
        refine v_ireturn hX hRX rfl (by first | rfl | exact bi_nar _) dX4_weeks_58 rfl ?_
        have hkm : k = m := by omega
        subst hkm
        exact ⟨rfl, CX.fin x1 x2 x3 hI1 (hfE) (hC)⟩
      · refine v_aload_n (q := 32) hX dX4_weeks_31 rfl rfl rfl ?_
        refine w_getR (q := 35) hX fl_X4_10 rfl oLF hF.f0 dX4_weeks_32 rfl ?_
        refine w_callVn (q := 38) hX (c_X3_passWeek _ _ WK_5 hF.w5 hC hVk (by omega)) rfl kV_X3_passWeek rfl (by decide) lk_X4_121 (by decide) rfl WK_5.1 (Nat.le_of_ble_eq_true rfl) dX4_weeks_35 rfl (fun D2 hD2 => ?_)
        have hC2 := hD2.1
        refine v_aload_n (q := 39) hX dX4_weeks_38 rfl rfl rfl ?_
        refine w_getR (q := 42) hX fl_X4_10 rfl oLF hF.f0 dX4_weeks_39 rfl ?_
        refine w_callVn (q := 45) hX (c_X3_planAnew _ _ WK_5 hF.w5 hC2 (nStep_I hVk (by omega)).1 f h7k) rfl kV_X3_planAnew rfl (by decide) lk_X4_115 (by decide) rfl WK_5.1 (Nat.le_of_ble_eq_true rfl) dX4_weeks_42 rfl (fun D3 hD3 => ?_)
        refine v_iinc (q := 48) hX dX4_weeks_45 rfl (Nat.le_of_ble_eq_true rfl) (Nat.le_of_ble_eq_true rfl) rfl ?_
        dsimp only [xs1, xs2, xclr]
        refine v_goto (tgt := 26) hX dX4_weeks_48 (by decide) ?_
        exact ih (by omega) D3 hD3.1 ((hfE.trans hD2.2).trans hD3.2)
    exact L 0 (Nat.zero_le _) D1 hC (frW.refl _ _)
  · exact absurd ⟨by omega, by omega⟩ hx_7

set_option maxRecDepth 100000 in
set_option maxHeartbeats 4000000 in
theorem c_X4_weeks_bad {z : Nat} (D : xD) (r : xR) (w : Int) (iw_ : xI w) (he : ¬ (1 ≤ w ∧ w ≤ 30)) : MX 4 mX4_weeks [.ref 4, vi w] (351, z) D r (351, z) (xP (vi (-2)) D r) := by
  refine MX.of (by decide +kernel) [some (.ref 4), some (vi w), none] rfl (Nat.le_of_ble_eq_true rfl) ?_
  intro γ hX hRX
  refine v_iload_n (q := 1) hX dX4_weeks_0 rfl rfl rfl ?_
  refine v_iconst (q := 2) hX dX4_weeks_1 rfl ?_
  refine v_bipush (q := 4) hX (by decide) dX4_weeks_2 rfl ?_
  refine w_callS (q := 7) hX (c_X4_isIn _ _ _ _ _ (by first | assumption | decide | exact ⟨by omega, by omega⟩) (by first | assumption | decide | exact ⟨by omega, by omega⟩) (by first | assumption | decide | exact ⟨by omega, by omega⟩)) rfl kS_X4_isIn rfl (by decide) lk_X4_41 (Nat.le_of_ble_eq_true rfl) dX4_weeks_4 rfl ?_
  refine w_ifne (q := 10) (tgt := 13) hX dX4_weeks_7 (by decide) rfl (fun hx_7 => ?_) (fun hx_7 => ?_)
  · exact absurd hx_7 he
  · refine v_bipush (q := 12) hX (by decide) dX4_weeks_10 rfl ?_
    refine v_ireturn hX hRX rfl (by first | rfl | exact bi_nar _) dX4_weeks_12 rfl ?_
    exact ⟨rfl, rfl, rfl⟩

set_option maxRecDepth 100000 in
set_option maxHeartbeats 4000000 in
theorem c_X4_restore_err {z : Nat} (D : xD) (r : xR) (a : Int) (ia_ : xI a) (h : a < 0 ∨ 1 < a) : MX 4 mX4_restore [.ref 4, vi a] (351, z) D r (351, z) (xP (vi (-2)) D r) := by
  refine MX.of (by decide +kernel) [some (.ref 4), some (vi a)] rfl (Nat.le_of_ble_eq_true rfl) ?_
  intro γ hX hRX
  refine v_iload_n (q := 1) hX dX4_restore_0 rfl rfl rfl ?_
  refine v_iconst (q := 2) hX dX4_restore_1 rfl ?_
  refine v_iconst (q := 3) hX dX4_restore_2 rfl ?_
  refine w_callS (q := 6) hX (c_X4_isIn _ _ _ _ _ (by first | assumption | decide | exact ⟨by omega, by omega⟩) (by first | assumption | decide | exact ⟨by omega, by omega⟩) (by first | assumption | decide | exact ⟨by omega, by omega⟩)) rfl kS_X4_isIn rfl (by decide) lk_X4_41 (Nat.le_of_ble_eq_true rfl) dX4_restore_3 rfl ?_
  refine w_ifne (q := 9) (tgt := 12) hX dX4_restore_6 (by decide) rfl (fun hx_6 => ?_) (fun hx_6 => ?_)
  · exact absurd hx_6 (by omega)
  · refine v_bipush (q := 11) hX (by decide) dX4_restore_9 rfl ?_
    refine v_ireturn hX hRX rfl (by first | rfl | exact bi_nar _) dX4_restore_11 rfl ?_
    exact ⟨rfl, rfl, rfl⟩

set_option maxRecDepth 100000 in
set_option maxHeartbeats 4000000 in
theorem c_X4_restore0 {z : Nat} (D : xD) (r : xR) (hF : rF r) (a : Nat) (ha2 : a < 2) (h0 : D 282 a = 0) : MX 4 mX4_restore [.ref 4, vi a] (351, z) D r (351, z) (xP (vi (-5)) D r) := by
  refine MX.of (by decide +kernel) [some (.ref 4), some (vi a)] rfl (Nat.le_of_ble_eq_true rfl) ?_
  intro γ hX hRX
  refine v_iload_n (q := 1) hX dX4_restore_0 rfl rfl rfl ?_
  refine v_iconst (q := 2) hX dX4_restore_1 rfl ?_
  refine v_iconst (q := 3) hX dX4_restore_2 rfl ?_
  refine w_callS (q := 6) hX (c_X4_isIn _ _ _ _ _ (by first | assumption | decide | exact ⟨by omega, by omega⟩) (by first | assumption | decide | exact ⟨by omega, by omega⟩) (by first | assumption | decide | exact ⟨by omega, by omega⟩)) rfl kS_X4_isIn rfl (by decide) lk_X4_41 (Nat.le_of_ble_eq_true rfl) dX4_restore_3 rfl ?_
  refine w_ifne (q := 9) (tgt := 12) hX dX4_restore_6 (by decide) rfl (fun hx_6 => ?_) (fun hx_6 => ?_)
  · refine v_aload_n (q := 13) hX dX4_restore_12 rfl rfl rfl ?_
    refine w_getR (q := 16) hX fl_X4_37 rfl oLF hF.f5 dX4_restore_13 rfl ?_
    refine v_iload_n (q := 17) hX dX4_restore_16 rfl rfl rfl ?_
    refine w_bld (q := 18) (kk := a) hX (rfl) (ha2) aSvd dX4_restore_17 rfl ?_
    rw [h0]
    refine v_if_ne (q := 21) (tgt := 24) hX (by decide) dX4_restore_18 (by decide) rfl (fun hx_18 => ?_) (fun hx_18 => ?_)
    · exact absurd rfl hx_18
    · refine v_bipush (q := 23) hX (by decide) dX4_restore_21 rfl ?_
      refine v_ireturn hX hRX rfl (by first | rfl | exact bi_nar _) dX4_restore_23 rfl ?_
      exact ⟨rfl, rfl, rfl⟩
  · exact absurd ⟨by omega, by omega⟩ hx_6

set_option maxRecDepth 100000 in
set_option maxHeartbeats 4000000 in
theorem c_X4_restore {z : Nat} (D : xD) (r : xR) (hF : rF r) {N : Nat → Int} {np : Nat} (hC : CR D 5 N np) (hnp : np ≤ 10) (a : Nat) (ha2 : a < 2) (h1 : D 282 a = 1) {M : Nat → Int} {mp : Nat} (hM : CR D (283 + 34 * a) M mp) (hmp : mp ≤ 10) {s : Nat} {π : Nat → Nat} {K : Nat → Nat → Int} {q : Nat → Nat} (hI : HI D r s π K q) (hz : D 75 2 = 0) : MX 4 mX4_restore [.ref 4, vi a] (351, z) D r (351, z) (xRs (vi (M 0)) (CX D r s K q N np (M) (mp))) := by
  refine MX.of (by decide +kernel) [some (.ref 4), some (vi a)] rfl (Nat.le_of_ble_eq_true rfl) ?_
  intro γ hX hRX
  refine v_iload_n (q := 1) hX dX4_restore_0 rfl rfl rfl ?_
  refine v_iconst (q := 2) hX dX4_restore_1 rfl ?_
  refine v_iconst (q := 3) hX dX4_restore_2 rfl ?_
  refine w_callS (q := 6) hX (c_X4_isIn _ _ _ _ _ (by first | assumption | decide | exact ⟨by omega, by omega⟩) (by first | assumption | decide | exact ⟨by omega, by omega⟩) (by first | assumption | decide | exact ⟨by omega, by omega⟩)) rfl kS_X4_isIn rfl (by decide) lk_X4_41 (Nat.le_of_ble_eq_true rfl) dX4_restore_3 rfl ?_
  refine w_ifne (q := 9) (tgt := 12) hX dX4_restore_6 (by decide) rfl (fun hx_6 => ?_) (fun hx_6 => ?_)
  · refine v_aload_n (q := 13) hX dX4_restore_12 rfl rfl rfl ?_
    refine w_getR (q := 16) hX fl_X4_37 rfl oLF hF.f5 dX4_restore_13 rfl ?_
    refine v_iload_n (q := 17) hX dX4_restore_16 rfl rfl rfl ?_
    refine w_bld (q := 18) (kk := a) hX (rfl) (ha2) aSvd dX4_restore_17 rfl ?_
    rw [h1]
    refine v_if_ne (q := 21) (tgt := 24) hX (by decide) dX4_restore_18 (by decide) rfl (fun hx_18 => ?_) (fun hx_18 => ?_)
    · refine v_aload_n (q := 25) hX dX4_restore_24 rfl rfl rfl ?_
      refine w_getR (q := 28) hX fl_X4_29 rfl oLF hF.f3 dX4_restore_25 rfl ?_
      refine v_aload_n (q := 29) hX dX4_restore_28 rfl rfl rfl ?_
      refine w_getR (q := 32) hX fl_X4_10 rfl oLF hF.f0 dX4_restore_29 rfl ?_
      refine w_callVq (q := 35) hX (c_X0_remember D r hF hC hnp hI hz) rfl kV_X0_remember rfl (by decide) lk_X4_52 (by decide) rfl oHis (Nat.le_of_ble_eq_true rfl) dX4_restore_32 rfl (fun D1 r1 hD1 => ?_)
      obtain ⟨x1, x2, x3, π1, hI1⟩ := hD1
      have hF := hF.mv x2
      have hC := hC.eq hnp (fun a ha hb => x1 a (by omega) (by omega))
      refine v_aload_n (q := 36) hX dX4_restore_35 rfl rfl rfl ?_
      refine w_getR (q := 39) hX fl_X4_10 rfl oLF hF.f0 dX4_restore_36 rfl ?_
      refine v_aload_n (q := 40) hX dX4_restore_39 rfl rfl rfl ?_
      refine w_getR (q := 43) hX fl_X4_33 rfl oLF hF.f4 dX4_restore_40 rfl ?_
      refine v_iload_n (q := 44) hX dX4_restore_43 rfl rfl rfl ?_
      refine w_ald (q := 45) (kk := a) hX (rfl) (ha2) aSlo (by decide) (hF.sl ha2) dX4_restore_44 rfl ?_
      refine w_callVn (q := 48) hX (c_X3_copyFrom _ _ (o := 5) WK_5 hF.w5 (o2 := 283 + 34 * a) (WK_sl ha2) (hF.ws ha2) (hM.eq hmp (fun b hb1 hb2 => x1 b (by omega) (by omega))) hmp (by omega)) rfl kV_X3_copyFrom rfl (by decide) lk_X4_203 (by decide) rfl WK_5.1 (Nat.le_of_ble_eq_true rfl) dX4_restore_45 rfl (fun D2 hD2 => ?_)
      have hC := hD2.1
      refine v_aload_n (q := 49) hX dX4_restore_48 rfl rfl rfl ?_
      refine w_getR (q := 52) hX fl_X4_10 rfl oLF hF.f0 dX4_restore_49 rfl ?_
      refine w_getI (q := 55) hX fl_X4_124 rfl WK_5.1 dX4_restore_52 rfl ?_
      rw [hC.wk]
      refine v_ireturn hX hRX rfl (by first | rfl | exact bi_nar _) dX4_restore_55 rfl ?_
      exact ⟨rfl, CX.fin x1 x2 x3 hI1 (hD2.2) (hC)⟩
    · exact absurd hx_18 (by decide)
  · exact absurd ⟨by omega, by omega⟩ hx_6

set_option maxRecDepth 100000 in
set_option maxHeartbeats 4000000 in
theorem c_X4_save {z : Nat} (D : xD) (r : xR) (hF : rF r) {N : Nat → Int} {np : Nat} (hC : CR D 5 N np) (hnp : np ≤ 10) (a : Nat) (ha2 : a < 2) : MX 3 mX4_save [.ref 4, vi a] (351, z) D r (351, z) (xEs (vi (N 0)) (fun D' => CR D' (283 + 34 * a) N np ∧ D' 282 = fu (D 282) a 1 ∧ ∀ b, b ≠ 282 → (b < 283 + 34 * a ∨ 283 + 34 * a + 34 ≤ b) → D' b = D b) r) := by
  refine MX.of (by decide +kernel) [some (.ref 4), some (vi a), none] rfl (Nat.le_of_ble_eq_true rfl) ?_
  intro γ hX hRX
  refine v_iload_n (q := 1) hX dX4_save_0 rfl rfl rfl ?_
  refine v_iconst (q := 2) hX dX4_save_1 rfl ?_
  refine v_iconst (q := 3) hX dX4_save_2 rfl ?_
  refine w_callS (q := 6) hX (c_X4_isIn _ _ _ _ _ (by first | assumption | decide | exact ⟨by omega, by omega⟩) (by first | assumption | decide | exact ⟨by omega, by omega⟩) (by first | assumption | decide | exact ⟨by omega, by omega⟩)) rfl kS_X4_isIn rfl (by decide) lk_X4_41 (Nat.le_of_ble_eq_true rfl) dX4_save_3 rfl ?_
  refine w_ifne (q := 9) (tgt := 12) hX dX4_save_6 (by decide) rfl (fun hx_6 => ?_) (fun hx_6 => ?_)
  · refine v_aload_n (q := 13) hX dX4_save_12 rfl rfl rfl ?_
    refine w_getR (q := 16) hX fl_X4_33 rfl oLF hF.f4 dX4_save_13 rfl ?_
    refine v_iload_n (q := 17) hX dX4_save_16 rfl rfl rfl ?_
    refine w_ald (q := 18) (kk := a) hX (rfl) (ha2) aSlo (by decide) (hF.sl ha2) dX4_save_17 rfl ?_
    refine v_astore_n (q := 19) hX dX4_save_18 rfl (Nat.le_of_ble_eq_true rfl) (Nat.le_of_ble_eq_true rfl) rfl ?_
    dsimp only [xs1, xs2, xclr]
    refine v_aload_n (q := 20) hX dX4_save_19 rfl rfl rfl ?_
    refine v_ifnull (q := 23) hX dX4_save_20 rfl ?_
    refine v_aload_n (q := 24) hX dX4_save_23 rfl rfl rfl ?_
    refine v_aload_n (q := 25) hX dX4_save_24 rfl rfl rfl ?_
    refine w_getR (q := 28) hX fl_X4_10 rfl oLF hF.f0 dX4_save_25 rfl ?_
    refine w_callVn (q := 31) hX (c_X3_copyFrom _ _ (o := 283 + 34 * a) (WK_sl ha2) (hF.ws ha2) (o2 := 5) WK_5 hF.w5 hC hnp (by omega)) rfl kV_X3_copyFrom rfl (by decide) lk_X4_203 (by decide) rfl (WK_sl ha2).1 (Nat.le_of_ble_eq_true rfl) dX4_save_28 rfl (fun D1 hD1 => ?_)
    have hC1 := hC.fr hD1.2 (by omega) hnp
    refine v_aload_n (q := 32) hX dX4_save_31 rfl rfl rfl ?_
    refine w_getR (q := 35) hX fl_X4_37 rfl oLF hF.f5 dX4_save_32 rfl ?_
    refine v_iload_n (q := 36) hX dX4_save_35 rfl rfl rfl ?_
    refine v_iconst (q := 37) hX dX4_save_36 rfl ?_
    refine w_bst (q := 38) (kk := a) hX (rfl) (ha2) (Or.inr rfl) aSvd dX4_save_37 rfl ?_
    refine v_aload_n (q := 39) hX dX4_save_38 rfl rfl rfl ?_
    refine w_getR (q := 42) hX fl_X4_10 rfl oLF hF.f0 dX4_save_39 rfl ?_
    refine w_getI (q := 45) hX fl_X4_124 rfl WK_5.1 dX4_save_42 rfl ?_
    rw [show xu D1 282 a 1 5 4 = D1 5 4 from rfl, hC1.wk]
    refine v_ireturn hX hRX rfl (by first | rfl | exact bi_nar _) dX4_save_45 rfl ?_
    have e2 : D1 282 = D 282 := hD1.2 282 (by omega)
    refine ⟨rfl, rfl, hD1.1.eq hnp (fun b h1 h2 => xu_row _ _ _ _ (by omega)), by rw [xu_xw, xw_at, e2], fun b hb h2 => (xu_row _ _ _ _ hb).trans (hD1.2 b (by omega))⟩
  · exact absurd ⟨by omega, by omega⟩ hx_6

set_option maxRecDepth 100000 in
set_option maxHeartbeats 4000000 in
theorem c_X4_undo {z : Nat} (D : xD) (r : xR) (hF : rF r) {s : Nat} {π : Nat → Nat} {K : Nat → Nat → Int} {q : Nat → Nat} (hI : HI D r (s + 1) π K q) : MX 4 mX4_undo [.ref 4] (351, z) D r (351, z) (xEs (vi (s : Nat)) (fun D' => CR D' 5 (K s) (q s) ∧ HI D' r s π K q ∧ D' 75 2 = D 75 2 ∧ ∀ a, a ≠ 75 → (a < 5 ∨ 39 ≤ a) → D' a = D a) r) := by
  refine MX.of (by decide +kernel) [some (.ref 4)] rfl (Nat.le_of_ble_eq_true rfl) ?_
  intro γ hX hRX
  refine v_aload_n (q := 1) hX dX4_undo_0 rfl rfl rfl ?_
  refine w_getR (q := 4) hX fl_X4_29 rfl oLF hF.f3 dX4_undo_1 rfl ?_
  refine w_getI (q := 7) hX fl_X4_198 rfl oHis dX4_undo_4 rfl ?_
  have hs6 := hI.2.2.1
  rw [hI.2.1]
  refine v_if_ne (q := 10) (tgt := 13) hX ⟨by omega, by omega⟩ dX4_undo_7 (by decide) rfl (fun hx_7 => ?_) (fun hx_7 => ?_)
  · refine v_aload_n (q := 14) hX dX4_undo_13 rfl rfl rfl ?_
    refine w_getR (q := 17) hX fl_X4_29 rfl oLF hF.f3 dX4_undo_14 rfl ?_
    refine v_aload_n (q := 18) hX dX4_undo_17 rfl rfl rfl ?_
    refine w_getR (q := 21) hX fl_X4_10 rfl oLF hF.f0 dX4_undo_18 rfl ?_
    refine w_callVn (q := 24) hX (c_X0_takeBack _ _ hF hI) rfl kV_X0_takeBack rfl (by decide) lk_X4_260 (by decide) rfl oHis (Nat.le_of_ble_eq_true rfl) dX4_undo_21 rfl (fun D1 hD1 => ?_)
    refine v_aload_n (q := 25) hX dX4_undo_24 rfl rfl rfl ?_
    refine w_getR (q := 28) hX fl_X4_29 rfl oLF hF.f3 dX4_undo_25 rfl ?_
    refine w_getI (q := 31) hX fl_X4_198 rfl oHis dX4_undo_28 rfl ?_
    rw [hD1.2.1.2.1]
    refine v_ireturn hX hRX rfl (by first | rfl | exact bi_nar _) dX4_undo_31 rfl ?_
    exact ⟨rfl, rfl, hD1⟩
  · exact absurd hx_7 (by omega)

set_option maxRecDepth 100000 in
set_option maxHeartbeats 4000000 in
theorem c_X4_product_bad {z : Nat} (D : xD) (r : xR) (fa sz lh sh st : Int) (i1_ : xI fa) (i2_ : xI sz) (i3_ : xI lh) (i4_ : xI sh) (i5_ : xI st) (hP : ¬ nPar fa sz lh sh st) : MX 4 mX4_product [.ref 4, vi fa, vi sz, vi lh, vi sh, vi st] (351, z) D r (351, z) (xP (vi (-2)) D r) := by
  refine MX.of (by decide +kernel) [some (.ref 4), some (vi fa), some (vi sz), some (vi lh), some (vi sh), some (vi st), none, none] rfl (Nat.le_of_ble_eq_true rfl) ?_
  intro γ hX hRX
  refine v_iload_n (q := 1) hX dX4_product_0 rfl rfl rfl ?_
  refine w_callS (q := 4) hX (c_X4_isFamily _ _ _ (by first | assumption | decide | exact ⟨by omega, by omega⟩)) rfl kS_X4_isFamily rfl (by decide) lk_X4_64 (Nat.le_of_ble_eq_true rfl) dX4_product_1 rfl ?_
  refine w_ifeq (q := 7) (tgt := 50) hX dX4_product_4 (by decide) rfl (fun hx_4 => ?_) (fun hx_4 => ?_)
  · refine v_bipush (q := 52) hX (by decide) dX4_product_50 rfl ?_
    refine v_ireturn hX hRX rfl (by first | rfl | exact bi_nar _) dX4_product_52 rfl ?_
    exact ⟨rfl, rfl, rfl⟩
  · refine v_iload_n (q := 8) hX dX4_product_7 rfl rfl rfl ?_
    refine v_iconst (q := 9) hX dX4_product_8 rfl ?_
    refine v_bipush (q := 11) hX (by decide) dX4_product_9 rfl ?_
    refine w_callS (q := 14) hX (c_X4_isIn _ _ _ _ _ (by first | assumption | decide | exact ⟨by omega, by omega⟩) (by first | assumption | decide | exact ⟨by omega, by omega⟩) (by first | assumption | decide | exact ⟨by omega, by omega⟩)) rfl kS_X4_isIn rfl (by decide) lk_X4_41 (Nat.le_of_ble_eq_true rfl) dX4_product_11 rfl ?_
    refine w_ifeq (q := 17) (tgt := 50) hX dX4_product_14 (by decide) rfl (fun hx_14 => ?_) (fun hx_14 => ?_)
    · refine v_bipush (q := 52) hX (by decide) dX4_product_50 rfl ?_
      refine v_ireturn hX hRX rfl (by first | rfl | exact bi_nar _) dX4_product_52 rfl ?_
      exact ⟨rfl, rfl, rfl⟩
    · refine v_iload_n (q := 18) hX dX4_product_17 rfl rfl rfl ?_
      refine v_iconst (q := 19) hX dX4_product_18 rfl ?_
      refine v_bipush (q := 21) hX (by decide) dX4_product_19 rfl ?_
      refine w_callS (q := 24) hX (c_X4_isIn _ _ _ _ _ (by first | assumption | decide | exact ⟨by omega, by omega⟩) (by first | assumption | decide | exact ⟨by omega, by omega⟩) (by first | assumption | decide | exact ⟨by omega, by omega⟩)) rfl kS_X4_isIn rfl (by decide) lk_X4_41 (Nat.le_of_ble_eq_true rfl) dX4_product_21 rfl ?_
      refine w_ifeq (q := 27) (tgt := 50) hX dX4_product_24 (by decide) rfl (fun hx_24 => ?_) (fun hx_24 => ?_)
      · refine v_bipush (q := 52) hX (by decide) dX4_product_50 rfl ?_
        refine v_ireturn hX hRX rfl (by first | rfl | exact bi_nar _) dX4_product_52 rfl ?_
        exact ⟨rfl, rfl, rfl⟩
      · refine v_iload (q := 29) hX dX4_product_27 rfl rfl ?_
        refine v_iconst (q := 30) hX dX4_product_29 rfl ?_
        refine v_bipush (q := 32) hX (by decide) dX4_product_30 rfl ?_
        refine w_callS (q := 35) hX (c_X4_isIn _ _ _ _ _ (by first | assumption | decide | exact ⟨by omega, by omega⟩) (by first | assumption | decide | exact ⟨by omega, by omega⟩) (by first | assumption | decide | exact ⟨by omega, by omega⟩)) rfl kS_X4_isIn rfl (by decide) lk_X4_41 (Nat.le_of_ble_eq_true rfl) dX4_product_32 rfl ?_
        refine w_ifeq (q := 38) (tgt := 50) hX dX4_product_35 (by decide) rfl (fun hx_35 => ?_) (fun hx_35 => ?_)
        · refine v_bipush (q := 52) hX (by decide) dX4_product_50 rfl ?_
          refine v_ireturn hX hRX rfl (by first | rfl | exact bi_nar _) dX4_product_52 rfl ?_
          exact ⟨rfl, rfl, rfl⟩
        · refine v_iload (q := 40) hX dX4_product_38 rfl rfl ?_
          refine v_iconst (q := 41) hX dX4_product_40 rfl ?_
          refine v_sipush (q := 44) hX (by decide) dX4_product_41 rfl ?_
          refine w_callS (q := 47) hX (c_X4_isIn _ _ _ _ _ (by first | assumption | decide | exact ⟨by omega, by omega⟩) (by first | assumption | decide | exact ⟨by omega, by omega⟩) (by first | assumption | decide | exact ⟨by omega, by omega⟩)) rfl kS_X4_isIn rfl (by decide) lk_X4_41 (Nat.le_of_ble_eq_true rfl) dX4_product_44 rfl ?_
          refine w_ifne (q := 50) (tgt := 53) hX dX4_product_47 (by decide) rfl (fun hx_47 => ?_) (fun hx_47 => ?_)
          · exact absurd (show nPar fa sz lh sh st from ⟨⟨by omega, by omega⟩, hx_14, hx_24, hx_35, hx_47⟩) hP
          · refine v_bipush (q := 52) hX (by decide) dX4_product_50 rfl ?_
            refine v_ireturn hX hRX rfl (by first | rfl | exact bi_nar _) dX4_product_52 rfl ?_
            exact ⟨rfl, rfl, rfl⟩

set_option maxRecDepth 100000 in
set_option maxHeartbeats 4000000 in
theorem c_X4_product_many {z : Nat} (D : xD) (r : xR) (hF : rF r) (fa sz lh sh st : Int) (i1_ : xI fa) (i2_ : xI sz) (i3_ : xI lh) (i4_ : xI sh) (i5_ : xI st) (hP : nPar fa sz lh sh st) (hm : D 5 3 = 10) : MX 4 mX4_product [.ref 4, vi fa, vi sz, vi lh, vi sh, vi st] (351, z) D r (351, z) (xP (vi (-4)) D r) := by
  refine MX.of (by decide +kernel) [some (.ref 4), some (vi fa), some (vi sz), some (vi lh), some (vi sh), some (vi st), none, none] rfl (Nat.le_of_ble_eq_true rfl) ?_
  intro γ hX hRX
  have hPa := hP.1
  refine v_iload_n (q := 1) hX dX4_product_0 rfl rfl rfl ?_
  refine w_callS (q := 4) hX (c_X4_isFamily _ _ _ (by first | assumption | decide | exact ⟨by omega, by omega⟩)) rfl kS_X4_isFamily rfl (by decide) lk_X4_64 (Nat.le_of_ble_eq_true rfl) dX4_product_1 rfl ?_
  refine w_ifeq (q := 7) (tgt := 50) hX dX4_product_4 (by decide) rfl (fun hx_4 => ?_) (fun hx_4 => ?_)
  · exact absurd ⟨by omega, by omega⟩ hx_4
  · refine v_iload_n (q := 8) hX dX4_product_7 rfl rfl rfl ?_
    refine v_iconst (q := 9) hX dX4_product_8 rfl ?_
    refine v_bipush (q := 11) hX (by decide) dX4_product_9 rfl ?_
    refine w_callS (q := 14) hX (c_X4_isIn _ _ _ _ _ (by first | assumption | decide | exact ⟨by omega, by omega⟩) (by first | assumption | decide | exact ⟨by omega, by omega⟩) (by first | assumption | decide | exact ⟨by omega, by omega⟩)) rfl kS_X4_isIn rfl (by decide) lk_X4_41 (Nat.le_of_ble_eq_true rfl) dX4_product_11 rfl ?_
    refine w_ifeq (q := 17) (tgt := 50) hX dX4_product_14 (by decide) rfl (fun hx_14 => ?_) (fun hx_14 => ?_)
    · exact absurd hP.2.1 hx_14
    · refine v_iload_n (q := 18) hX dX4_product_17 rfl rfl rfl ?_
      refine v_iconst (q := 19) hX dX4_product_18 rfl ?_
      refine v_bipush (q := 21) hX (by decide) dX4_product_19 rfl ?_
      refine w_callS (q := 24) hX (c_X4_isIn _ _ _ _ _ (by first | assumption | decide | exact ⟨by omega, by omega⟩) (by first | assumption | decide | exact ⟨by omega, by omega⟩) (by first | assumption | decide | exact ⟨by omega, by omega⟩)) rfl kS_X4_isIn rfl (by decide) lk_X4_41 (Nat.le_of_ble_eq_true rfl) dX4_product_21 rfl ?_
      refine w_ifeq (q := 27) (tgt := 50) hX dX4_product_24 (by decide) rfl (fun hx_24 => ?_) (fun hx_24 => ?_)
      · exact absurd hP.2.2.1 hx_24
      · refine v_iload (q := 29) hX dX4_product_27 rfl rfl ?_
        refine v_iconst (q := 30) hX dX4_product_29 rfl ?_
        refine v_bipush (q := 32) hX (by decide) dX4_product_30 rfl ?_
        refine w_callS (q := 35) hX (c_X4_isIn _ _ _ _ _ (by first | assumption | decide | exact ⟨by omega, by omega⟩) (by first | assumption | decide | exact ⟨by omega, by omega⟩) (by first | assumption | decide | exact ⟨by omega, by omega⟩)) rfl kS_X4_isIn rfl (by decide) lk_X4_41 (Nat.le_of_ble_eq_true rfl) dX4_product_32 rfl ?_
        refine w_ifeq (q := 38) (tgt := 50) hX dX4_product_35 (by decide) rfl (fun hx_35 => ?_) (fun hx_35 => ?_)
        · exact absurd hP.2.2.2.1 hx_35
        · refine v_iload (q := 40) hX dX4_product_38 rfl rfl ?_
          refine v_iconst (q := 41) hX dX4_product_40 rfl ?_
          refine v_sipush (q := 44) hX (by decide) dX4_product_41 rfl ?_
          refine w_callS (q := 47) hX (c_X4_isIn _ _ _ _ _ (by first | assumption | decide | exact ⟨by omega, by omega⟩) (by first | assumption | decide | exact ⟨by omega, by omega⟩) (by first | assumption | decide | exact ⟨by omega, by omega⟩)) rfl kS_X4_isIn rfl (by decide) lk_X4_41 (Nat.le_of_ble_eq_true rfl) dX4_product_44 rfl ?_
          refine w_ifne (q := 50) (tgt := 53) hX dX4_product_47 (by decide) rfl (fun hx_47 => ?_) (fun hx_47 => ?_)
          · refine v_aload_n (q := 54) hX dX4_product_53 rfl rfl rfl ?_
            refine w_getR (q := 57) hX fl_X4_10 rfl oLF hF.f0 dX4_product_54 rfl ?_
            refine w_callV (q := 60) hX (c_X3_spareProduct_no _ _ WK_5 hF.w5 hm) rfl kV_X3_spareProduct rfl (by decide) lk_X4_68 (by decide) rfl WK_5.1 (Nat.le_of_ble_eq_true rfl) dX4_product_57 rfl ?_
            refine v_astoreN (q := 62) hX dX4_product_60 (Nat.le_of_ble_eq_true rfl) (Nat.le_of_ble_eq_true rfl) rfl ?_
            dsimp only [xs1, xs2, xclr]
            refine v_aloadN (q := 64) hX dX4_product_62 rfl rfl ?_
            refine v_ifnonnullN (q := 67) hX dX4_product_64 rfl ?_
            refine v_bipush (q := 69) hX (by decide) dX4_product_67 rfl ?_
            refine v_ireturn hX hRX rfl (by first | rfl | exact bi_nar _) dX4_product_69 rfl ?_
            exact ⟨rfl, rfl, rfl⟩
          · exact absurd hP.2.2.2.2 hx_47

set_option maxRecDepth 100000 in
set_option maxHeartbeats 4000000 in
theorem c_X4_product {z : Nat} (D : xD) (r : xR) (hF : rF r) {N : Nat → Int} {np : Nat} (hC : CR D 5 N np) (hnp : np ≤ 10) (fa sz lh sh st : Int) (i1_ : xI fa) (i2_ : xI sz) (i3_ : xI lh) (i4_ : xI sh) (i5_ : xI st) (hP : nPar fa sz lh sh st) (hlt : np < 10) {s : Nat} {π : Nat → Nat} {K : Nat → Nat → Int} {q : Nat → Nat} (hI : HI D r s π K q) (hz : D 75 2 = 0) : MX 4 mX4_product [.ref 4, vi fa, vi sz, vi lh, vi sh, vi st] (351, z) D r (351, z) (xRs (vi (np : Nat)) (CX D r s K q N np (nNew N np fa sz lh sh st) (np + 1))) := by
  refine MX.of (by decide +kernel) [some (.ref 4), some (vi fa), some (vi sz), some (vi lh), some (vi sh), some (vi st), none, none] rfl (Nat.le_of_ble_eq_true rfl) ?_
  intro γ hX hRX
  have hPa := hP.1
  refine v_iload_n (q := 1) hX dX4_product_0 rfl rfl rfl ?_
  refine w_callS (q := 4) hX (c_X4_isFamily _ _ _ (by first | assumption | decide | exact ⟨by omega, by omega⟩)) rfl kS_X4_isFamily rfl (by decide) lk_X4_64 (Nat.le_of_ble_eq_true rfl) dX4_product_1 rfl ?_
  refine w_ifeq (q := 7) (tgt := 50) hX dX4_product_4 (by decide) rfl (fun hx_4 => ?_) (fun hx_4 => ?_)
  · exact absurd ⟨by omega, by omega⟩ hx_4
  · refine v_iload_n (q := 8) hX dX4_product_7 rfl rfl rfl ?_
    refine v_iconst (q := 9) hX dX4_product_8 rfl ?_
    refine v_bipush (q := 11) hX (by decide) dX4_product_9 rfl ?_
    refine w_callS (q := 14) hX (c_X4_isIn _ _ _ _ _ (by first | assumption | decide | exact ⟨by omega, by omega⟩) (by first | assumption | decide | exact ⟨by omega, by omega⟩) (by first | assumption | decide | exact ⟨by omega, by omega⟩)) rfl kS_X4_isIn rfl (by decide) lk_X4_41 (Nat.le_of_ble_eq_true rfl) dX4_product_11 rfl ?_
    refine w_ifeq (q := 17) (tgt := 50) hX dX4_product_14 (by decide) rfl (fun hx_14 => ?_) (fun hx_14 => ?_)
    · exact absurd hP.2.1 hx_14
    · refine v_iload_n (q := 18) hX dX4_product_17 rfl rfl rfl ?_
      refine v_iconst (q := 19) hX dX4_product_18 rfl ?_
      refine v_bipush (q := 21) hX (by decide) dX4_product_19 rfl ?_
      refine w_callS (q := 24) hX (c_X4_isIn _ _ _ _ _ (by first | assumption | decide | exact ⟨by omega, by omega⟩) (by first | assumption | decide | exact ⟨by omega, by omega⟩) (by first | assumption | decide | exact ⟨by omega, by omega⟩)) rfl kS_X4_isIn rfl (by decide) lk_X4_41 (Nat.le_of_ble_eq_true rfl) dX4_product_21 rfl ?_
      refine w_ifeq (q := 27) (tgt := 50) hX dX4_product_24 (by decide) rfl (fun hx_24 => ?_) (fun hx_24 => ?_)
      · exact absurd hP.2.2.1 hx_24
      · refine v_iload (q := 29) hX dX4_product_27 rfl rfl ?_
        refine v_iconst (q := 30) hX dX4_product_29 rfl ?_
        refine v_bipush (q := 32) hX (by decide) dX4_product_30 rfl ?_
        refine w_callS (q := 35) hX (c_X4_isIn _ _ _ _ _ (by first | assumption | decide | exact ⟨by omega, by omega⟩) (by first | assumption | decide | exact ⟨by omega, by omega⟩) (by first | assumption | decide | exact ⟨by omega, by omega⟩)) rfl kS_X4_isIn rfl (by decide) lk_X4_41 (Nat.le_of_ble_eq_true rfl) dX4_product_32 rfl ?_
        refine w_ifeq (q := 38) (tgt := 50) hX dX4_product_35 (by decide) rfl (fun hx_35 => ?_) (fun hx_35 => ?_)
        · exact absurd hP.2.2.2.1 hx_35
        · refine v_iload (q := 40) hX dX4_product_38 rfl rfl ?_
          refine v_iconst (q := 41) hX dX4_product_40 rfl ?_
          refine v_sipush (q := 44) hX (by decide) dX4_product_41 rfl ?_
          refine w_callS (q := 47) hX (c_X4_isIn _ _ _ _ _ (by first | assumption | decide | exact ⟨by omega, by omega⟩) (by first | assumption | decide | exact ⟨by omega, by omega⟩) (by first | assumption | decide | exact ⟨by omega, by omega⟩)) rfl kS_X4_isIn rfl (by decide) lk_X4_41 (Nat.le_of_ble_eq_true rfl) dX4_product_44 rfl ?_
          refine w_ifne (q := 50) (tgt := 53) hX dX4_product_47 (by decide) rfl (fun hx_47 => ?_) (fun hx_47 => ?_)
          · refine v_aload_n (q := 54) hX dX4_product_53 rfl rfl rfl ?_
            refine w_getR (q := 57) hX fl_X4_10 rfl oLF hF.f0 dX4_product_54 rfl ?_
            refine w_callV (q := 60) hX (c_X3_spareProduct _ _ WK_5 hF.w5 hC.np hlt) rfl kV_X3_spareProduct rfl (by decide) lk_X4_68 (by decide) rfl WK_5.1 (Nat.le_of_ble_eq_true rfl) dX4_product_57 rfl ?_
            refine v_astore (q := 62) hX dX4_product_60 (Nat.le_of_ble_eq_true rfl) (Nat.le_of_ble_eq_true rfl) rfl ?_
            dsimp only [xs1, xs2, xclr]
            refine v_aload (q := 64) hX dX4_product_62 rfl rfl ?_
            refine v_ifnonnull (tgt := 70) hX dX4_product_64 (by decide) ?_
            refine v_aload_n (q := 71) hX dX4_product_70 rfl rfl rfl ?_
            refine w_getR (q := 74) hX fl_X4_29 rfl oLF hF.f3 dX4_product_71 rfl ?_
            refine v_aload_n (q := 75) hX dX4_product_74 rfl rfl rfl ?_
            refine w_getR (q := 78) hX fl_X4_10 rfl oLF hF.f0 dX4_product_75 rfl ?_
            refine w_callVq (q := 81) hX (c_X0_remember D r hF hC hnp hI hz) rfl kV_X0_remember rfl (by decide) lk_X4_52 (by decide) rfl oHis (Nat.le_of_ble_eq_true rfl) dX4_product_78 rfl (fun D1 r1 hD1 => ?_)
            obtain ⟨x1, x2, x3, π1, hI1⟩ := hD1
            have hF := hF.mv x2
            have hC := hC.eq hnp (fun a ha hb => x1 a (by omega) (by omega))
            refine v_aload (q := 83) hX dX4_product_81 rfl rfl ?_
            refine v_iload_n (q := 84) hX dX4_product_83 rfl rfl rfl ?_
            refine v_iload_n (q := 85) hX dX4_product_84 rfl rfl rfl ?_
            refine v_iload_n (q := 86) hX dX4_product_85 rfl rfl rfl ?_
            refine v_iload (q := 88) hX dX4_product_86 rfl rfl ?_
            refine v_iload (q := 90) hX dX4_product_88 rfl rfl ?_
            refine w_callVn (q := 93) hX (c_X2_begin _ _ (WK_5.pk (p := np) hlt) (hF.w5.pr (p := np) hlt) N np fa sz lh sh st) rfl kV_X2_begin rfl (by decide) lk_X4_72 (by decide) rfl (WK_5.pk (p := np) hlt).1 (Nat.le_of_ble_eq_true rfl) dX4_product_90 rfl (fun D2 hD2 => ?_)
            refine v_aload_n (q := 94) hX dX4_product_93 rfl rfl rfl ?_
            refine w_getR (q := 97) hX fl_X4_10 rfl oLF hF.f0 dX4_product_94 rfl ?_
            refine w_getI (q := 100) hX fl_X4_78 rfl WK_5.1 dX4_product_97 rfl ?_
            rw [hD2.2 5 (by omega) (by omega) (by omega), hC.np]
            refine v_istore (q := 102) hX dX4_product_100 (Nat.le_of_ble_eq_true rfl) (Nat.le_of_ble_eq_true rfl) rfl ?_
            dsimp only [xs1, xs2, xclr]
            refine v_aload_n (q := 103) hX dX4_product_102 rfl rfl rfl ?_
            refine w_getR (q := 106) hX fl_X4_10 rfl oLF hF.f0 dX4_product_103 rfl ?_
            refine v_iload (q := 108) hX dX4_product_106 rfl rfl ?_
            refine v_iconst (q := 109) hX dX4_product_108 rfl ?_
            refine v_iadd (q := 110) hX dX4_product_109 rfl ?_
            refine w_putI (q := 113) hX fl_X4_78 rfl WK_5.1 dX4_product_110 rfl ?_
            refine v_iload (q := 115) hX dX4_product_113 rfl rfl ?_
            refine v_ireturn hX hRX rfl (by first | rfl | exact bi_nar _) dX4_product_115 rfl ?_
            exact ⟨rfl, CX.fin x1 x2 x3 hI1 ((frW.of3 hlt hD2.2).trans (frW.xu (by omega) (by omega))) (hC.new hD2.1 hD2.2)⟩
          · exact absurd hP.2.2.2.2 hx_47


