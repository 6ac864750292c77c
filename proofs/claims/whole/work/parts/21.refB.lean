set_option maxRecDepth 100000 in
set_option maxHeartbeats 4000000 in
theorem c_X5_costs_bad {z : Nat} (D : xD) (r : xR) (hr : xRM r) (f w : Int) (hf : xI f) (hw : xI w) (he : ¬ ((0 ≤ f ∧ f ≤ 8) ∧ 1 ≤ w ∧ w ≤ 12)) : MX 10 mX5_costs [.ref 351, vi f, vi w] (356, z) D r (356, z) (xP (vl (-2)) D r) := by
  refine MX.of (by decide +kernel) [some (.ref 351), some (vi f), some (vi w)] rfl (Nat.le_of_ble_eq_true rfl) ?_
  intro γ hX hRX
  refine v_iload_n (q := 1) hX dX5_costs_0 rfl rfl rfl ?_
  refine v_i2l (q := 2) hX hf dX5_costs_1 rfl ?_
  refine v_lconst (q := 3) (e := 0) hX (by decide) dX5_costs_2 rfl ?_
  refine v_ldc2 (q := 6) (e := 8) hX (by decide) kl_X5_59 dX5_costs_3 rfl ?_
  refine w_callS (q := 9) hX (c_X5_isIn _ _ _ _ _ ⟨by omega, by omega⟩ ⟨by omega, by omega⟩ ⟨by omega, by omega⟩) rfl kS_X5_isIn rfl (by decide) lk_X5_35 (Nat.le_of_ble_eq_true rfl) dX5_costs_6 rfl ?_
  refine w_ifeq (q := 12) (tgt := 33) hX dX5_costs_9 (by decide) rfl (fun h9 => ?_) (fun h9 => ?_)
  · refine v_ldc2 (q := 36) (e := -2) hX (by decide) kl_X5_191 dX5_costs_33 rfl ?_
    refine v_lreturn hX hRX rfl dX5_costs_36 rfl ?_
    exact ⟨rfl, rfl, rfl⟩
  · refine v_iload_n (q := 13) hX dX5_costs_12 rfl rfl rfl ?_
    refine v_i2l (q := 14) hX hw dX5_costs_13 rfl ?_
    refine v_lconst (q := 15) (e := 1) hX (by decide) dX5_costs_14 rfl ?_
    refine v_ldc2 (q := 18) (e := 12) hX (by decide) kl_X5_180 dX5_costs_15 rfl ?_
    refine w_callS (q := 21) hX (c_X5_isIn _ _ _ _ _ ⟨by omega, by omega⟩ ⟨by omega, by omega⟩ ⟨by omega, by omega⟩) rfl kS_X5_isIn rfl (by decide) lk_X5_35 (Nat.le_of_ble_eq_true rfl) dX5_costs_18 rfl ?_
    refine w_ifeq (q := 24) (tgt := 33) hX dX5_costs_21 (by decide) rfl (fun h21 => ?_) (fun h21 => ?_)
    · refine v_ldc2 (q := 36) (e := -2) hX (by decide) kl_X5_191 dX5_costs_33 rfl ?_
      refine v_lreturn hX hRX rfl dX5_costs_36 rfl ?_
      exact ⟨rfl, rfl, rfl⟩
    · exact absurd ⟨h9, h21⟩ he

set_option maxRecDepth 100000 in
set_option maxHeartbeats 4000000 in
theorem c_X5_costs {z : Nat} (D : xD) (r : xR) (hr : xRM r) {B : Int} {np : Nat} (hV : nV B np (D 352)) (hW : 0 ≤ D 352 0 ∧ D 352 0 ≤ 2100000000) (hB : B + 24000 ≤ 2100000000) (f w : Nat) (hf : f ≤ 8) (hw : 1 ≤ w ∧ w ≤ 12) : MX 10 mX5_costs [.ref 351, vi f, vi w] (356, z) D r (356, z) (xEs (vl (nCost (D 352) np f w)) (fun D' => D' = xw D 353 (kPut (D 353) 8 (D 352) 378)) r) := by
  refine MX.of (by decide +kernel) [some (.ref 351), some (vi f), some (vi w)] rfl (Nat.le_of_ble_eq_true rfl) ?_
  intro γ hX hRX
  refine v_iload_n (q := 1) hX dX5_costs_0 rfl rfl rfl ?_
  refine v_i2l (q := 2) hX ⟨by omega, by omega⟩ dX5_costs_1 rfl ?_
  refine v_lconst (q := 3) (e := 0) hX (by decide) dX5_costs_2 rfl ?_
  refine v_ldc2 (q := 6) (e := 8) hX (by decide) kl_X5_59 dX5_costs_3 rfl ?_
  refine w_callS (q := 9) hX (c_X5_isIn _ _ _ _ _ ⟨by omega, by omega⟩ ⟨by omega, by omega⟩ ⟨by omega, by omega⟩) rfl kS_X5_isIn rfl (by decide) lk_X5_35 (Nat.le_of_ble_eq_true rfl) dX5_costs_6 rfl ?_
  refine w_ifeq (q := 12) (tgt := 33) hX dX5_costs_9 (by decide) rfl (fun h9 => ?_) (fun h9 => ?_)
  · exact absurd h9 (by omega)
  · refine v_iload_n (q := 13) hX dX5_costs_12 rfl rfl rfl ?_
    refine v_i2l (q := 14) hX ⟨by omega, by omega⟩ dX5_costs_13 rfl ?_
    refine v_lconst (q := 15) (e := 1) hX (by decide) dX5_costs_14 rfl ?_
    refine v_ldc2 (q := 18) (e := 12) hX (by decide) kl_X5_180 dX5_costs_15 rfl ?_
    refine w_callS (q := 21) hX (c_X5_isIn _ _ _ _ _ ⟨by omega, by omega⟩ ⟨by omega, by omega⟩ ⟨by omega, by omega⟩) rfl kS_X5_isIn rfl (by decide) lk_X5_35 (Nat.le_of_ble_eq_true rfl) dX5_costs_18 rfl ?_
    refine w_ifeq (q := 24) (tgt := 33) hX dX5_costs_21 (by decide) rfl (fun h21 => ?_) (fun h21 => ?_)
    · exact absurd h21 (by omega)
    · refine v_aload_n (q := 25) hX dX5_costs_24 rfl rfl rfl ?_
      refine v_iload_n (q := 26) hX dX5_costs_25 rfl rfl rfl ?_
      refine v_iload_n (q := 27) hX dX5_costs_26 rfl rfl rfl ?_
      refine w_callVe (q := 30) hX (c_X5_costsBy _ _ hr hV hW hB f w (by omega) (by omega)) rfl kV_X5_costsBy rfl (by decide) lk_X5_197 (by decide) rfl oX5 (Nat.le_of_ble_eq_true rfl) dX5_costs_27 rfl (fun D1 hD1 => ?_)
      subst hD1
      refine v_goto (tgt := 36) hX dX5_costs_30 (by decide) ?_
      refine v_lreturn hX hRX rfl dX5_costs_36 rfl ?_
      exact ⟨rfl, rfl, rfl⟩

set_option maxRecDepth 100000 in
set_option maxHeartbeats 4000000 in
theorem c_X5_bestFence_bad {z : Nat} (D : xD) (r : xR) (hr : xRM r) (w : Int) (hw : xI w) (he : ¬ (1 ≤ w ∧ w ≤ 12)) : MX 10 mX5_bestFence [.ref 351, vi w] (356, z) D r (356, z) (xP (vi (-2)) D r) := by
  refine MX.of (by decide +kernel) [some (.ref 351), some (vi w), none, none, none, none, none, none] rfl (Nat.le_of_ble_eq_true rfl) ?_
  intro γ hX hRX
  refine v_iload_n (q := 1) hX dX5_bestFence_0 rfl rfl rfl ?_
  refine v_i2l (q := 2) hX hw dX5_bestFence_1 rfl ?_
  refine v_lconst (q := 3) (e := 1) hX (by decide) dX5_bestFence_2 rfl ?_
  refine v_ldc2 (q := 6) (e := 12) hX (by decide) kl_X5_180 dX5_bestFence_3 rfl ?_
  refine w_callS (q := 9) hX (c_X5_isIn _ _ _ _ _ ⟨by omega, by omega⟩ ⟨by omega, by omega⟩ ⟨by omega, by omega⟩) rfl kS_X5_isIn rfl (by decide) lk_X5_35 (Nat.le_of_ble_eq_true rfl) dX5_bestFence_6 rfl ?_
  refine w_ifne (q := 12) (tgt := 15) hX dX5_bestFence_9 (by decide) rfl (fun h9 => ?_) (fun h9 => ?_)
  · exact absurd h9 he
  · refine v_bipush (q := 14) hX (by decide) dX5_bestFence_12 rfl ?_
    refine v_ireturn hX hRX rfl (by first | rfl | exact bi_nar _) dX5_bestFence_14 rfl ?_
    exact ⟨rfl, rfl, rfl⟩

/-- the best fence of 0 to k, and its costs -/
def nBest (N : Nat → Int) (np w : Nat) : Nat → Nat × Int
  | 0 => (0, nCost N np 0 w)
  | k + 1 => if nCost N np (k + 1) w ≤ (nBest N np w k).2 then (k + 1, nCost N np (k + 1) w) else nBest N np w k
theorem nBest_le {B : Int} {np w : Nat} {N : Nat → Int} (h : nV B np N) (hw : w ≤ 12) (hB : B + 24000 ≤ 2100000000) : ∀ k, k ≤ 8 → (nBest N np w k).1 ≤ k ∧ 0 ≤ (nBest N np w k).2 ∧ (nBest N np w k).2 ≤ 51600000000000 := by
  intro k
  induction k with
  | zero => intro _; exact ⟨Nat.le_refl _, nCost_le h (by decide) hw hB⟩
  | succ k ih =>
    intro hk
    have a := ih (by omega)
    have b := nCost_le h hk hw hB
    unfold nBest
    split
    · exact ⟨Nat.le_refl _, b⟩
    · exact ⟨by omega, a.2⟩
theorem kPut_twice (K N : Nat → Int) : kPut (kPut K 8 N 378) 8 N 378 = kPut K 8 N 378 := by
  funext i; unfold kPut; split
  · rfl
  · rfl
set_option maxRecDepth 100000 in
set_option maxHeartbeats 4000000 in
theorem c_X5_bestFence {z : Nat} (D : xD) (r : xR) (hr : xRM r) {B : Int} {np : Nat} (hV : nV B np (D 352)) (hW : 0 ≤ D 352 0 ∧ D 352 0 ≤ 2100000000) (hB : B + 24000 ≤ 2100000000) (w : Nat) (hw : 1 ≤ w ∧ w ≤ 12) : MX 10 mX5_bestFence [.ref 351, vi w] (356, z) D r (356, z) (xEs (vi ((nBest (D 352) np w 8).1 : Nat)) (fun D' => D' = xw D 353 (kPut (D 353) 8 (D 352) 378)) r) := by
  refine MX.of (by decide +kernel) [some (.ref 351), some (vi w), none, none, none, none, none, none] rfl (Nat.le_of_ble_eq_true rfl) ?_
  intro γ hX hRX
  have L : ∀ j, j ≤ 8 → xV γ 27 [some (.ref 351), some (vi w), some (vi ((nBest (D 352) np w j).1 : Nat)), some (vl (nBest (D 352) np w j).2), none, some (vi ((j + 1 : Nat) : Int)), none, none] [] (356, z) (xw D 353 (kPut (D 353) 8 (D 352) 378)) r := by
    refine xup 8 (fun j hj ih => ?_)
    have q1 := nBest_le hV (show w ≤ 12 by omega) hB j hj
    refine v_iload (q := 29) hX dX5_bestFence_27 rfl rfl ?_
    refine v_bipush (q := 31) hX (by decide) dX5_bestFence_29 rfl ?_
    refine v_icmp_gt (q := 34) (tgt := 77) hX ⟨by omega, by omega⟩ ⟨by omega, by omega⟩ dX5_bestFence_31 (by decide) rfl (fun h31 => ?_) (fun h31 => ?_)
    · refine v_iload_n (q := 78) hX dX5_bestFence_77 rfl rfl rfl ?_
      refine v_ireturn hX hRX rfl (by first | rfl | exact bi_nar _) dX5_bestFence_78 rfl ?_
      exact ⟨by rw [show j = 8 by omega], rfl, rfl⟩
    · refine v_aload_n (q := 35) hX dX5_bestFence_34 rfl rfl rfl ?_
      refine v_iload (q := 37) hX dX5_bestFence_35 rfl rfl ?_
      refine v_iload_n (q := 38) hX dX5_bestFence_37 rfl rfl rfl ?_
      refine w_callVe (q := 41) hX (c_X5_costsBy (xw D 353 (kPut (D 353) 8 (D 352) 378)) _ hr hV hW hB (j + 1) w (by omega) (by omega)) rfl kV_X5_costsBy rfl (by decide) lk_X5_197 (by decide) rfl oX5 (Nat.le_of_ble_eq_true rfl) dX5_bestFence_38 rfl (fun D1 hD1 => ?_)
      subst hD1
      rw [show xw (xw D 353 (kPut (D 353) 8 (D 352) 378)) 353 (kPut ((xw D 353 (kPut (D 353) 8 (D 352) 378)) 353) 8 ((xw D 353 (kPut (D 353) 8 (D 352) 378)) 352) 378) = (xw D 353 (kPut (D 353) 8 (D 352) 378)) from by rw [xw_xw, xw_at]; show xw D 353 (kPut (kPut (D 353) 8 (D 352) 378) 8 (D 352) 378) = _; rw [kPut_twice]]
      rw [show (xw D 353 (kPut (D 353) 8 (D 352) 378)) 352 = D 352 from rfl]
      have q2 := nCost_le hV (show j + 1 ≤ 8 by omega) (show w ≤ 12 by omega) hB
      refine v_lstore (q := 43) hX dX5_bestFence_41 (Nat.le_of_ble_eq_true rfl) (Nat.le_of_ble_eq_true rfl) rfl ?_
      dsimp only [xs1, xs2, xclr]
      refine v_lload (q := 45) hX dX5_bestFence_43 rfl rfl ?_
      refine v_lload_n (q := 46) hX dX5_bestFence_45 rfl rfl rfl ?_
      refine v_lcmp_gt (q := 50) (tgt := 55) hX ⟨by omega, by omega⟩ ⟨by omega, by omega⟩ dX5_bestFence_46 dX5_bestFence_47 (by decide) rfl (fun h46 => ?_) (fun h46 => ?_)
      · refine v_iload_n (q := 56) hX dX5_bestFence_55 rfl rfl rfl ?_
        refine v_istore_n (q := 57) hX dX5_bestFence_56 rfl (Nat.le_of_ble_eq_true rfl) (Nat.le_of_ble_eq_true rfl) rfl ?_
        dsimp only [xs1, xs2, xclr]
        refine v_lload (q := 59) hX dX5_bestFence_57 rfl rfl ?_
        refine v_lload_n (q := 60) hX dX5_bestFence_59 rfl rfl rfl ?_
        refine v_lcmp_gt (q := 64) (tgt := 69) hX ⟨by omega, by omega⟩ ⟨by omega, by omega⟩ dX5_bestFence_60 dX5_bestFence_61 (by decide) rfl (fun h60 => ?_) (fun h60 => ?_)
        · refine v_lload_n (q := 70) hX dX5_bestFence_69 rfl rfl rfl ?_
          refine v_lstore_n (q := 71) hX dX5_bestFence_70 rfl (Nat.le_of_ble_eq_true rfl) (Nat.le_of_ble_eq_true rfl) rfl ?_
          dsimp only [xs1, xs2, xclr]
          refine v_iinc (q := 74) hX dX5_bestFence_71 rfl (Nat.le_of_ble_eq_true rfl) (Nat.le_of_ble_eq_true rfl) rfl ?_
          dsimp only [xs1, xs2, xclr]
          refine v_goto (tgt := 27) hX dX5_bestFence_74 (by decide) ?_
          first | (exfalso; omega) | (have e1 := ih (by omega); simp only [nBest] at e1; (first | rw [if_pos (by omega)] at e1 | rw [if_neg (by omega)] at e1); exact xVw (by repeat' first | exact trivial | refine And.intro rfl ?_) e1)
        · refine v_lload (q := 66) hX dX5_bestFence_64 rfl rfl ?_
          refine v_goto (tgt := 70) hX dX5_bestFence_66 (by decide) ?_
          refine v_lstore_n (q := 71) hX dX5_bestFence_70 rfl (Nat.le_of_ble_eq_true rfl) (Nat.le_of_ble_eq_true rfl) rfl ?_
          dsimp only [xs1, xs2, xclr]
          refine v_iinc (q := 74) hX dX5_bestFence_71 rfl (Nat.le_of_ble_eq_true rfl) (Nat.le_of_ble_eq_true rfl) rfl ?_
          dsimp only [xs1, xs2, xclr]
          refine v_goto (tgt := 27) hX dX5_bestFence_74 (by decide) ?_
          first | (exfalso; omega) | (have e1 := ih (by omega); simp only [nBest] at e1; (first | rw [if_pos (by omega)] at e1 | rw [if_neg (by omega)] at e1); exact xVw (by repeat' first | exact trivial | refine And.intro rfl ?_) e1)
      · refine v_iload (q := 52) hX dX5_bestFence_50 rfl rfl ?_
        refine v_goto (tgt := 56) hX dX5_bestFence_52 (by decide) ?_
        refine v_istore_n (q := 57) hX dX5_bestFence_56 rfl (Nat.le_of_ble_eq_true rfl) (Nat.le_of_ble_eq_true rfl) rfl ?_
        dsimp only [xs1, xs2, xclr]
        refine v_lload (q := 59) hX dX5_bestFence_57 rfl rfl ?_
        refine v_lload_n (q := 60) hX dX5_bestFence_59 rfl rfl rfl ?_
        refine v_lcmp_gt (q := 64) (tgt := 69) hX ⟨by omega, by omega⟩ ⟨by omega, by omega⟩ dX5_bestFence_60 dX5_bestFence_61 (by decide) rfl (fun h60 => ?_) (fun h60 => ?_)
        · refine v_lload_n (q := 70) hX dX5_bestFence_69 rfl rfl rfl ?_
          refine v_lstore_n (q := 71) hX dX5_bestFence_70 rfl (Nat.le_of_ble_eq_true rfl) (Nat.le_of_ble_eq_true rfl) rfl ?_
          dsimp only [xs1, xs2, xclr]
          refine v_iinc (q := 74) hX dX5_bestFence_71 rfl (Nat.le_of_ble_eq_true rfl) (Nat.le_of_ble_eq_true rfl) rfl ?_
          dsimp only [xs1, xs2, xclr]
          refine v_goto (tgt := 27) hX dX5_bestFence_74 (by decide) ?_
          first | (exfalso; omega) | (have e1 := ih (by omega); simp only [nBest] at e1; (first | rw [if_pos (by omega)] at e1 | rw [if_neg (by omega)] at e1); exact xVw (by repeat' first | exact trivial | refine And.intro rfl ?_) e1)
        · refine v_lload (q := 66) hX dX5_bestFence_64 rfl rfl ?_
          refine v_goto (tgt := 70) hX dX5_bestFence_66 (by decide) ?_
          refine v_lstore_n (q := 71) hX dX5_bestFence_70 rfl (Nat.le_of_ble_eq_true rfl) (Nat.le_of_ble_eq_true rfl) rfl ?_
          dsimp only [xs1, xs2, xclr]
          refine v_iinc (q := 74) hX dX5_bestFence_71 rfl (Nat.le_of_ble_eq_true rfl) (Nat.le_of_ble_eq_true rfl) rfl ?_
          dsimp only [xs1, xs2, xclr]
          refine v_goto (tgt := 27) hX dX5_bestFence_74 (by decide) ?_
          first | (exfalso; omega) | (have e1 := ih (by omega); simp only [nBest] at e1; (first | rw [if_pos (by omega)] at e1 | rw [if_neg (by omega)] at e1); exact xVw (by repeat' first | exact trivial | refine And.intro rfl ?_) e1)
  refine v_iload_n (q := 1) hX dX5_bestFence_0 rfl rfl rfl ?_
  refine v_i2l (q := 2) hX ⟨by omega, by omega⟩ dX5_bestFence_1 rfl ?_
  refine v_lconst (q := 3) (e := 1) hX (by decide) dX5_bestFence_2 rfl ?_
  refine v_ldc2 (q := 6) (e := 12) hX (by decide) kl_X5_180 dX5_bestFence_3 rfl ?_
  refine w_callS (q := 9) hX (c_X5_isIn _ _ _ _ _ ⟨by omega, by omega⟩ ⟨by omega, by omega⟩ ⟨by omega, by omega⟩) rfl kS_X5_isIn rfl (by decide) lk_X5_35 (Nat.le_of_ble_eq_true rfl) dX5_bestFence_6 rfl ?_
  refine w_ifne (q := 12) (tgt := 15) hX dX5_bestFence_9 (by decide) rfl (fun h9 => ?_) (fun h9 => ?_)
  · refine v_iconst (q := 16) hX dX5_bestFence_15 rfl ?_
    refine v_istore_n (q := 17) hX dX5_bestFence_16 rfl (Nat.le_of_ble_eq_true rfl) (Nat.le_of_ble_eq_true rfl) rfl ?_
    dsimp only [xs1, xs2, xclr]
    refine v_aload_n (q := 18) hX dX5_bestFence_17 rfl rfl rfl ?_
    refine v_iconst (q := 19) hX dX5_bestFence_18 rfl ?_
    refine v_iload_n (q := 20) hX dX5_bestFence_19 rfl rfl rfl ?_
    refine w_callVe (q := 23) hX (c_X5_costsBy _ _ hr hV hW hB 0 w (by omega) (by omega)) rfl kV_X5_costsBy rfl (by decide) lk_X5_197 (by decide) rfl oX5 (Nat.le_of_ble_eq_true rfl) dX5_bestFence_20 rfl (fun D1 hD1 => ?_)
    subst hD1
    refine v_lstore_n (q := 24) hX dX5_bestFence_23 rfl (Nat.le_of_ble_eq_true rfl) (Nat.le_of_ble_eq_true rfl) rfl ?_
    dsimp only [xs1, xs2, xclr]
    refine v_iconst (q := 25) hX dX5_bestFence_24 rfl ?_
    refine v_istore (q := 27) hX dX5_bestFence_25 (Nat.le_of_ble_eq_true rfl) (Nat.le_of_ble_eq_true rfl) rfl ?_
    dsimp only [xs1, xs2, xclr]
    have e1 := L 0 (Nat.zero_le _)
    exact xVw (by repeat' first | exact trivial | refine And.intro rfl ?_) e1
  · exact absurd h9 (by omega)

/-- the state behind the trial of the hours 0, 10 .., i of them -/
def nLH (np f : Nat) (N : Nat → Int) : Nat → Nat → Int
  | 0 => N
  | i + 1 => nPlan np f (fu (nLH np f N i) 5 (((10 * i : Nat) : Nat) : Int))
/-- what is found from the i-th trial on, m of them at most -/
def nLe (np f : Nat) (N : Nat → Int) : Nat → Nat → Int
  | 0, _ => -6
  | m + 1, i => if nDo (nLH np f N (i + 1)) f np = true then ((10 * i : Nat) : Int) else nLe np f N m (i + 1)
theorem nLH_V {B : Int} {np f : Nat} {N : Nat → Int} (h : nV B np N) (hf : f ≤ 8) : ∀ i, i ≤ 101 → nV B np (nLH np f N i) ∧ nTl np N (nLH np f N i) ∧ nLH np f N i 7 = N 7 := by
  intro i
  induction i with
  | zero => intro _; exact ⟨h, fun _ _ => rfl, rfl⟩
  | succ i ih =>
    intro hi
    obtain ⟨a, b, c⟩ := ih (by omega)
    refine ⟨nPlan_I (a.set (w := 0) (by decide) ⟨by show (0 : Int) ≤ _; omega, by show _ ≤ (1000 : Int); omega⟩) hf, nTl.plan hf (b.fu _ (by omega)), ?_⟩
    show nPlan np f _ 7 = _
    rw [nPlan_hd _ _ _ (by decide), fu_ne _ _ _ (by decide)]
    exact c
set_option maxRecDepth 100000 in
set_option maxHeartbeats 4000000 in
theorem c_X5_leastHours {z : Nat} (D : xD) (r : xR) (hr : xRM r) {B : Int} {np : Nat} (hV : nV B np (D 352)) (f : Nat) (hf1 : D 352 7 = (f : Int)) (hf2 : f ≤ 8) : MX 7 mX5_leastHours [.ref 351] (356, z) D r (356, z) (xEs (vi (nLe np f (D 352) 101 0)) (fun D' => D' = xw D 353 (kPut (D 353) 8 (D 352) 378)) r) := by
  refine MX.of (by decide +kernel) [some (.ref 351), none, none] rfl (Nat.le_of_ble_eq_true rfl) ?_
  intro γ hX hRX
  have hn := hV.1.np
  have E : ∀ (v9 : Int) (i : Nat), i ≤ 101 → nLe np f (D 352) 101 0 = v9 → xV γ 56 [some (.ref 351), some (vi v9), none] [] (356, z) (xw (xw D 353 (kPut (D 353) 8 (D 352) 378)) 352 (nLH np f (D 352) i)) r := by
    intro v9 i hi hE
    have hT := (nLH_V hV hf2 i hi).2.1
    refine v_aload_n (q := 57) hX dX5_leastHours_56 rfl rfl rfl ?_
    refine v_bipush (q := 59) hX (by decide) dX5_leastHours_57 rfl ?_
    refine w_callVn (q := 62) hX (c_X5_brings _ _ hr 8 (by decide)) rfl kV_X5_brings rfl (by decide) lk_X5_53 (by decide) rfl oX5 (Nat.le_of_ble_eq_true rfl) dX5_leastHours_59 rfl (fun D1 hD1 => ?_)
    subst hD1
    refine v_iload_n (q := 63) hX dX5_leastHours_62 rfl rfl rfl ?_
    refine v_ireturn hX hRX rfl (by first | rfl | exact bi_nar _) dX5_leastHours_63 rfl ?_
    refine ⟨congrArg (fun e => some (vi e)) hE.symm, rfl, ?_⟩
    rw [xw_xw]
    show xw (xw D 353 (kPut (D 353) 8 (D 352) 378)) 352 (kGet (kPut (D 353) 8 (D 352) 378) 8 (nLH np f (D 352) i) 378) = _
    rw [kBack hn.2 _ _ _ hT]
    exact xw_self (xw D 353 (kPut (D 353) 8 (D 352) 378)) 352
  have Fd : ∀ i : Nat, i ≤ 100 → nLe np f (D 352) 101 0 = ((10 * i : Nat) : Int) → xV γ 11 [some (.ref 351), some (vi ((10 * i : Nat) : Int)), some (vi (((10 * i : Nat) : Int) + 10))] [] (356, z) (xw (xw D 353 (kPut (D 353) 8 (D 352) 378)) 352 (nLH np f (D 352) (i + 1))) r := by
    intro i hi hE
    refine v_iload_n (q := 12) hX dX5_leastHours_11 rfl rfl rfl ?_
    refine v_sipush (q := 15) hX (by decide) dX5_leastHours_12 rfl ?_
    refine v_icmp_gt (q := 18) (tgt := 56) hX ⟨by omega, by omega⟩ (by decide) dX5_leastHours_15 (by decide) rfl (fun h15 => ?_) (fun h15 => ?_)
    · exact xVw (by repeat' first | exact trivial | refine And.intro rfl ?_) (E _ (i + 1) (by omega) hE)
    · refine v_iload_n (q := 19) hX dX5_leastHours_18 rfl rfl rfl ?_
      refine v_bipush (q := 21) hX (by decide) dX5_leastHours_19 rfl ?_
      refine v_icmp_ne (q := 24) (tgt := 56) hX ⟨by omega, by omega⟩ (by decide) dX5_leastHours_21 (by decide) rfl (fun h21 => ?_) (fun h21 => ?_)
      · exact xVw (by repeat' first | exact trivial | refine And.intro rfl ?_) (E _ (i + 1) (by omega) hE)
      · exact absurd h21 (by omega)
  have L : ∀ i, i ≤ 101 → nLe np f (D 352) (101 - i) i = nLe np f (D 352) 101 0 → xV γ 11 [some (.ref 351), some (vi (-6)), some (vi ((10 * i : Nat) : Int))] [] (356, z) (xw (xw D 353 (kPut (D 353) 8 (D 352) 378)) 352 (nLH np f (D 352) i)) r := by
    refine xup 101 (fun i hi ih => ?_)
    intro hE
    refine v_iload_n (q := 12) hX dX5_leastHours_11 rfl rfl rfl ?_
    refine v_sipush (q := 15) hX (by decide) dX5_leastHours_12 rfl ?_
    refine v_icmp_gt (q := 18) (tgt := 56) hX ⟨by omega, by omega⟩ (by decide) dX5_leastHours_15 (by decide) rfl (fun h15 => ?_) (fun h15 => ?_)
    · exact xVw (by repeat' first | exact trivial | refine And.intro rfl ?_) (E (-6) i (by omega) (by rw [← hE, show 101 - i = 0 by omega]; rfl))
    · refine v_iload_n (q := 19) hX dX5_leastHours_18 rfl rfl rfl ?_
      refine v_bipush (q := 21) hX (by decide) dX5_leastHours_19 rfl ?_
      refine v_icmp_ne (q := 24) (tgt := 56) hX (by decide) (by decide) dX5_leastHours_21 (by decide) rfl (fun h21 => ?_) (fun h21 => ?_)
      · exact absurd rfl h21
      · have hV0 := nLH_V hV hf2 i (by omega)
        have hS : nV B np (fu (nLH np f (D 352) i) 5 ((10 * i : Nat) : Int)) := hV0.1.set (w := 0) (by decide) ⟨by show (0 : Int) ≤ _; omega, by show _ ≤ (1000 : Int); omega⟩
        have hS7 : fu (nLH np f (D 352) i) 5 ((10 * i : Nat) : Int) 7 = (f : Int) := by rw [fu_ne _ _ _ (by decide), hV0.2.2]; exact hf1
        have hV1 := nLH_V hV hf2 (i + 1) (by omega)
        have hV17 : nLH np f (D 352) (i + 1) 7 = (f : Int) := hV1.2.2.trans hf1
        have hE2 := hE
        rw [show 101 - i = (101 - (i + 1)) + 1 by omega, nLe] at hE2
        refine v_aload_n (q := 25) hX dX5_leastHours_24 rfl rfl rfl ?_
        refine w_getR (q := 28) hX fl_X5_7 rfl oX5 hr.1 dX5_leastHours_25 rfl ?_
        refine v_iconst (q := 29) hX dX5_leastHours_28 rfl ?_
        refine v_iload_n (q := 30) hX dX5_leastHours_29 rfl rfl rfl ?_
        refine v_i2l (q := 31) hX ⟨by omega, by omega⟩ dX5_leastHours_30 rfl ?_
        refine w_lst (q := 32) (kk := 5) hX (rfl) (by decide) aNow dX5_leastHours_31 rfl ?_
        rw [xu_xw']
        refine v_aload_n (q := 33) hX dX5_leastHours_32 rfl rfl rfl ?_
        refine w_callVn (q := 36) hX (c_X5_plans _ _ hr hS.1 f hS7 hf2) rfl kV_X5_plans rfl (by decide) lk_X5_121 (by decide) rfl oX5 (Nat.le_of_ble_eq_true rfl) dX5_leastHours_33 rfl (fun D1 hD1 => ?_)
        subst hD1
        rw [xw_xw, xw_at]
        rw [show nPlan np f (fu (nLH np f (D 352) i) 5 ((10 * i : Nat) : Int)) = nLH np f (D 352) (i + 1) from rfl]
        refine v_aload_n (q := 37) hX dX5_leastHours_36 rfl rfl rfl ?_
        refine w_callV (q := 40) hX (c_X5_does (xw (xw D 353 (kPut (D 353) 8 (D 352) 378)) 352 (nLH np f (D 352) (i + 1))) _ hr hV1.1.1 f hV17 hf2) rfl kV_X5_does rfl (by decide) lk_X5_193 (by decide) rfl oX5 (Nat.le_of_ble_eq_true rfl) dX5_leastHours_37 rfl ?_
        refine w_ifeq (q := 43) (tgt := 47) hX dX5_leastHours_40 (by decide) rfl (fun h40 => ?_) (fun h40 => ?_)
        · rw [if_neg (show ¬ nDo (nLH np f (D 352) (i + 1)) f np = true from h40)] at hE2
          refine v_bipush (q := 49) hX (by decide) dX5_leastHours_47 rfl ?_
          refine v_istore_n (q := 50) hX dX5_leastHours_49 rfl (Nat.le_of_ble_eq_true rfl) (Nat.le_of_ble_eq_true rfl) rfl ?_
          dsimp only [xs1, xs2, xclr]
          refine v_iinc (q := 53) hX dX5_leastHours_50 rfl (Nat.le_of_ble_eq_true rfl) (Nat.le_of_ble_eq_true rfl) rfl ?_
          dsimp only [xs1, xs2, xclr]
          refine v_goto (tgt := 11) hX dX5_leastHours_53 (by decide) ?_
          first | exact Fd i (by omega) hE2.symm | (have e1 := ih (by omega) hE2; rw [show ((10 * (i + 1) : Nat) : Int) = ((10 * i : Nat) : Int) + 10 by omega] at e1; exact xVw (by repeat' first | exact trivial | refine And.intro rfl ?_) e1)
        · rw [if_pos (show nDo (nLH np f (D 352) (i + 1)) f np = true from h40)] at hE2
          refine v_iload_n (q := 44) hX dX5_leastHours_43 rfl rfl rfl ?_
          refine v_goto (tgt := 49) hX dX5_leastHours_44 (by decide) ?_
          refine v_istore_n (q := 50) hX dX5_leastHours_49 rfl (Nat.le_of_ble_eq_true rfl) (Nat.le_of_ble_eq_true rfl) rfl ?_
          dsimp only [xs1, xs2, xclr]
          refine v_iinc (q := 53) hX dX5_leastHours_50 rfl (Nat.le_of_ble_eq_true rfl) (Nat.le_of_ble_eq_true rfl) rfl ?_
          dsimp only [xs1, xs2, xclr]
          refine v_goto (tgt := 11) hX dX5_leastHours_53 (by decide) ?_
          first | exact Fd i (by omega) hE2.symm | (have e1 := ih (by omega) hE2; rw [show ((10 * (i + 1) : Nat) : Int) = ((10 * i : Nat) : Int) + 10 by omega] at e1; exact xVw (by repeat' first | exact trivial | refine And.intro rfl ?_) e1)
  refine v_aload_n (q := 1) hX dX5_leastHours_0 rfl rfl rfl ?_
  refine v_bipush (q := 3) hX (by decide) dX5_leastHours_1 rfl ?_
  refine w_callVn (q := 6) hX (c_X5_keeps _ _ hr 8 (by decide)) rfl kV_X5_keeps rfl (by decide) lk_X5_49 (by decide) rfl oX5 (Nat.le_of_ble_eq_true rfl) dX5_leastHours_3 rfl (fun D1 hD1 => ?_)
  subst hD1
  refine v_bipush (q := 8) hX (by decide) dX5_leastHours_6 rfl ?_
  refine v_istore_n (q := 9) hX dX5_leastHours_8 rfl (Nat.le_of_ble_eq_true rfl) (Nat.le_of_ble_eq_true rfl) rfl ?_
  dsimp only [xs1, xs2, xclr]
  refine v_iconst (q := 10) hX dX5_leastHours_9 rfl ?_
  refine v_istore_n (q := 11) hX dX5_leastHours_10 rfl (Nat.le_of_ble_eq_true rfl) (Nat.le_of_ble_eq_true rfl) rfl ?_
  dsimp only [xs1, xs2, xclr]
  have e1 := L 0 (Nat.zero_le _) rfl
  rw [show (xw (xw D 353 (kPut (D 353) 8 (D 352) 378)) 352 (nLH np f (D 352) 0)) = (xw D 353 (kPut (D 353) 8 (D 352) 378)) from xw_self (xw D 353 (kPut (D 353) 8 (D 352) 378)) 352] at e1
  exact e1

def plD (D : xD) (np f : Nat) : xD := xw (rcD D) 352 (nPlan np f (D 352))
def wkD (D : xD) (np f m : Nat) : xD := xw (rcD D) 352 (nPs np f m (D 352))
set_option maxRecDepth 100000 in
set_option maxHeartbeats 4000000 in
theorem c_X5_plan {z : Nat} (D : xD) (r : xR) (hr : xRM r) {B : Int} {np : Nat} (hV : nV B np (D 352)) (hs0 : 0 ≤ D 351 3 ∧ D 351 3 ≤ 6) (f : Nat) (hf1 : D 352 7 = (f : Int)) (hf2 : f ≤ 8) : MX 7 mX5_plan [.ref 351] (356, z) D r (356, z) (xEs (vi (nLots (nPlan np f (D 352)) np)) (fun D' => D' = plD D np f) r) := by
  refine MX.of (by decide +kernel) [some (.ref 351)] rfl (Nat.le_of_ble_eq_true rfl) ?_
  intro γ hX hRX
  refine v_aload_n (q := 1) hX dX5_plan_0 rfl rfl rfl ?_
  refine w_callVn (q := 4) hX (c_X5_records _ _ hr hs0) rfl kV_X5_records rfl (by decide) lk_X5_56 (by decide) rfl oX5 (Nat.le_of_ble_eq_true rfl) dX5_plan_1 rfl (fun D1 hD1 => ?_)
  subst hD1
  refine v_aload_n (q := 5) hX dX5_plan_4 rfl rfl rfl ?_
  refine w_callVn (q := 8) hX (c_X5_plans (rcD D) _ hr hV.1 f hf1 hf2) rfl kV_X5_plans rfl (by decide) lk_X5_121 (by decide) rfl oX5 (Nat.le_of_ble_eq_true rfl) dX5_plan_5 rfl (fun D1 hD1 => ?_)
  subst hD1
  refine v_aload_n (q := 9) hX dX5_plan_8 rfl rfl rfl ?_
  refine w_callV (q := 12) hX (c_X5_lotsInAll (plD D np f) _ hr (nPlan_I hV hf2).1) rfl kV_X5_lotsInAll rfl (by decide) lk_X5_124 (by decide) rfl oX5 (Nat.le_of_ble_eq_true rfl) dX5_plan_9 rfl ?_
  refine v_ireturn hX hRX rfl (by first | rfl | exact bi_nar _) dX5_plan_12 rfl ?_
  exact ⟨rfl, rfl, rfl⟩

set_option maxRecDepth 100000 in
set_option maxHeartbeats 4000000 in
theorem c_X5_weeks_bad {z : Nat} (D : xD) (r : xR) (hr : xRM r) (w : Int) (hw : xI w) (he : ¬ (1 ≤ w ∧ w ≤ 30)) : MX 9 mX5_weeks [.ref 351, vi w] (356, z) D r (356, z) (xP (vi (-2)) D r) := by
  refine MX.of (by decide +kernel) [some (.ref 351), some (vi w)] rfl (Nat.le_of_ble_eq_true rfl) ?_
  intro γ hX hRX
  refine v_iload_n (q := 1) hX dX5_weeks_0 rfl rfl rfl ?_
  refine v_i2l (q := 2) hX hw dX5_weeks_1 rfl ?_
  refine v_lconst (q := 3) (e := 1) hX (by decide) dX5_weeks_2 rfl ?_
  refine v_ldc2 (q := 6) (e := 30) hX (by decide) kl_X5_175 dX5_weeks_3 rfl ?_
  refine w_callS (q := 9) hX (c_X5_isIn _ _ _ _ _ ⟨by omega, by omega⟩ ⟨by omega, by omega⟩ ⟨by omega, by omega⟩) rfl kS_X5_isIn rfl (by decide) lk_X5_35 (Nat.le_of_ble_eq_true rfl) dX5_weeks_6 rfl ?_
  refine w_ifne (q := 12) (tgt := 15) hX dX5_weeks_9 (by decide) rfl (fun h9 => ?_) (fun h9 => ?_)
  · exact absurd h9 he
  · refine v_bipush (q := 14) hX (by decide) dX5_weeks_12 rfl ?_
    refine v_ireturn hX hRX rfl (by first | rfl | exact bi_nar _) dX5_weeks_14 rfl ?_
    exact ⟨rfl, rfl, rfl⟩

set_option maxRecDepth 100000 in
set_option maxHeartbeats 4000000 in
theorem c_X5_weeks {z : Nat} (D : xD) (r : xR) (hr : xRM r) {B : Int} {np : Nat} (hV : nV B np (D 352)) (hs0 : 0 ≤ D 351 3 ∧ D 351 3 ≤ 6) (f m : Nat) (hf1 : D 352 7 = (f : Int)) (hf2 : f ≤ 8) (hm : 1 ≤ m ∧ m ≤ 30) (hBm : B + 2000 * m ≤ 2100000000) : MX 9 mX5_weeks [.ref 351, vi m] (356, z) D r (356, z) (xEs (vi (nPs np f m (D 352) 0)) (fun D' => D' = wkD D np f m) r) := by
  refine MX.of (by decide +kernel) [some (.ref 351), some (vi m)] rfl (Nat.le_of_ble_eq_true rfl) ?_
  intro γ hX hRX
  refine v_iload_n (q := 1) hX dX5_weeks_0 rfl rfl rfl ?_
  refine v_i2l (q := 2) hX ⟨by omega, by omega⟩ dX5_weeks_1 rfl ?_
  refine v_lconst (q := 3) (e := 1) hX (by decide) dX5_weeks_2 rfl ?_
  refine v_ldc2 (q := 6) (e := 30) hX (by decide) kl_X5_175 dX5_weeks_3 rfl ?_
  refine w_callS (q := 9) hX (c_X5_isIn _ _ _ _ _ ⟨by omega, by omega⟩ ⟨by omega, by omega⟩ ⟨by omega, by omega⟩) rfl kS_X5_isIn rfl (by decide) lk_X5_35 (Nat.le_of_ble_eq_true rfl) dX5_weeks_6 rfl ?_
  refine w_ifne (q := 12) (tgt := 15) hX dX5_weeks_9 (by decide) rfl (fun h9 => ?_) (fun h9 => ?_)
  · refine v_aload_n (q := 16) hX dX5_weeks_15 rfl rfl rfl ?_
    refine w_callVn (q := 19) hX (c_X5_records _ _ hr hs0) rfl kV_X5_records rfl (by decide) lk_X5_56 (by decide) rfl oX5 (Nat.le_of_ble_eq_true rfl) dX5_weeks_16 rfl (fun D1 hD1 => ?_)
    subst hD1
    refine v_aload_n (q := 20) hX dX5_weeks_19 rfl rfl rfl ?_
    refine v_iload_n (q := 21) hX dX5_weeks_20 rfl rfl rfl ?_
    refine w_callVe (q := 24) hX (c_X5_passesWeeks (rcD D) _ hr hV f m hf1 hf2 (by omega) (by omega)) rfl kV_X5_passesWeeks rfl (by decide) lk_X5_177 (by decide) rfl oX5 (Nat.le_of_ble_eq_true rfl) dX5_weeks_21 rfl (fun D1 hD1 => ?_)
    subst hD1
    refine v_ireturn hX hRX rfl (by first | rfl | exact bi_nar _) dX5_weeks_24 rfl ?_
    exact ⟨rfl, rfl, rfl⟩
  · exact absurd h9 (by omega)

