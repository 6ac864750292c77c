/-! ===== the reference: what it stands on ===== -/
def xRM (r : xR) : Prop := r 351 0 = some 352 ∧ r 351 1 = some 353 ∧ r 351 2 = some 354 ∧ r 351 4 = some 355
theorem oX5 : xOb 356 351 5 := ⟨rfl, by decide, by decide⟩
theorem aNow : xAr 356 352 11 378 := ⟨rfl, by decide, by decide, by decide⟩
theorem aKept : xAr 356 353 11 3402 := ⟨rfl, by decide, by decide, by decide⟩
theorem aSav : xAr 356 354 10 2 := ⟨rfl, by decide, by decide, by decide⟩
theorem aPad : xAr 356 355 10 80 := ⟨rfl, by decide, by decide, by decide⟩
/-- a number of a product in the plain state -/
abbrev pF (N : Nat → Int) (p i : Nat) : Int := N (18 + 36 * p + i)
set_option maxRecDepth 100000 in
set_option maxHeartbeats 4000000 in
theorem c_X5_isIn {z : Nat} (D : xD) (r : xR) (v a b : Int) (hv : xJ v) (ha : xJ a) (hb : xJ b) : MX 0 mX5_isIn [vl v, vl a, vl b] (356, z) D r (356, z) (xP (vi (bi (a ≤ v ∧ v ≤ b))) D r) := by
  refine MX.of (by decide +kernel) [some (vl v), none, some (vl a), none, some (vl b), none] rfl (Nat.le_of_ble_eq_true rfl) ?_
  intro γ hX hRX
  refine v_lload_n (q := 1) hX dX5_isIn_0 rfl rfl rfl ?_
  refine v_lload_n (q := 2) hX dX5_isIn_1 rfl rfl rfl ?_
  refine v_lcmp_lt (q := 6) (tgt := 17) hX hv ha dX5_isIn_2 dX5_isIn_3 (by decide) rfl (fun h2 => ?_) (fun h2 => ?_)
  · refine v_iconst (q := 18) hX dX5_isIn_17 rfl ?_
    refine v_ireturn hX hRX rfl (by first | rfl | exact bi_nar _) dX5_isIn_18 rfl ?_
    exact ⟨by first | rw [bi, if_pos (by omega)] | rw [bi, if_neg (by omega)], rfl, rfl⟩
  · refine v_lload_n (q := 7) hX dX5_isIn_6 rfl rfl rfl ?_
    refine v_lload (q := 9) hX dX5_isIn_7 rfl rfl ?_
    refine v_lcmp_gt (q := 13) (tgt := 17) hX ⟨by omega, by omega⟩ ⟨by omega, by omega⟩ dX5_isIn_9 dX5_isIn_10 (by decide) rfl (fun h9 => ?_) (fun h9 => ?_)
    · refine v_iconst (q := 18) hX dX5_isIn_17 rfl ?_
      refine v_ireturn hX hRX rfl (by first | rfl | exact bi_nar _) dX5_isIn_18 rfl ?_
      exact ⟨by first | rw [bi, if_pos (by omega)] | rw [bi, if_neg (by omega)], rfl, rfl⟩
    · refine v_iconst (q := 14) hX dX5_isIn_13 rfl ?_
      refine v_goto (tgt := 18) hX dX5_isIn_14 (by decide) ?_
      refine v_ireturn hX hRX rfl (by first | rfl | exact bi_nar _) dX5_isIn_18 rfl ?_
      exact ⟨by first | rw [bi, if_pos (by omega)] | rw [bi, if_neg (by omega)], rfl, rfl⟩

set_option maxRecDepth 100000 in
set_option maxHeartbeats 4000000 in
theorem c_X5_isWeek {z : Nat} (D : xD) (r : xR) (w : Int) (hw : xI w) : MX 1 mX5_isWeek [vi w] (356, z) D r (356, z) (xP (vi (bi (0 ≤ w ∧ w < 12))) D r) := by
  refine MX.of (by decide +kernel) [some (vi w)] rfl (Nat.le_of_ble_eq_true rfl) ?_
  intro γ hX hRX
  refine v_iload_n (q := 1) hX dX5_isWeek_0 rfl rfl rfl ?_
  refine v_i2l (q := 2) hX hw dX5_isWeek_1 rfl ?_
  refine v_lconst (q := 3) (e := 0) hX (by decide) dX5_isWeek_2 rfl ?_
  refine v_ldc2 (q := 6) (e := 11) hX (by decide) kl_X5_39 dX5_isWeek_3 rfl ?_
  refine w_callS (q := 9) hX (c_X5_isIn D r _ _ _ ⟨by omega, by omega⟩ (by decide) (by decide)) rfl kS_X5_isIn rfl (by decide) lk_X5_35 (Nat.le_of_ble_eq_true rfl) dX5_isWeek_6 rfl ?_
  refine v_ireturn hX hRX rfl (by first | rfl | exact bi_nar _) dX5_isWeek_9 rfl ?_
  exact ⟨congrArg (fun e => some (vi e)) (bi_eq (by omega)), rfl, rfl⟩

set_option maxRecDepth 100000 in
set_option maxHeartbeats 4000000 in
theorem c_X5_isProduct {z : Nat} (D : xD) (r : xR) (hr : xRM r) (p : Int) (hp : xI p) (h1 : 0 ≤ D 352 1 ∧ D 352 1 ≤ 10) : MX 1 mX5_isProduct [.ref 351, vi p] (356, z) D r (356, z) (xP (vi (bi (0 ≤ p ∧ p < D 352 1))) D r) := by
  refine MX.of (by decide +kernel) [some (.ref 351), some (vi p)] rfl (Nat.le_of_ble_eq_true rfl) ?_
  intro γ hX hRX
  refine v_iload_n (q := 1) hX dX5_isProduct_0 rfl rfl rfl ?_
  refine v_i2l (q := 2) hX hp dX5_isProduct_1 rfl ?_
  refine v_lconst (q := 3) (e := 0) hX (by decide) dX5_isProduct_2 rfl ?_
  refine v_aload_n (q := 4) hX dX5_isProduct_3 rfl rfl rfl ?_
  refine w_getR (q := 7) hX fl_X5_7 rfl oX5 hr.1 dX5_isProduct_4 rfl ?_
  refine v_iconst (q := 8) hX dX5_isProduct_7 rfl ?_
  refine w_lld (q := 9) (kk := 1) hX (rfl) (by decide) aNow dX5_isProduct_8 rfl ?_
  refine v_lconst (q := 10) (e := 1) hX (by decide) dX5_isProduct_9 rfl ?_
  refine v_lsub (q := 11) hX dX5_isProduct_10 rfl ?_
  refine w_callS (q := 14) hX (c_X5_isIn D r _ _ _ ⟨by omega, by omega⟩ (by decide) ⟨by omega, by omega⟩) rfl kS_X5_isIn rfl (by decide) lk_X5_35 (Nat.le_of_ble_eq_true rfl) dX5_isProduct_11 rfl ?_
  refine v_ireturn hX hRX rfl (by first | rfl | exact bi_nar _) dX5_isProduct_14 rfl ?_
  exact ⟨congrArg (fun e => some (vi e)) (bi_eq (by omega)), rfl, rfl⟩

set_option maxRecDepth 100000 in
set_option maxHeartbeats 4000000 in
theorem c_X5_ofP {z : Nat} (D : xD) (r : xR) (hr : xRM r) (p w : Nat) (h : 18 + 36 * p + w < 378) : MX 0 mX5_ofP [.ref 351, vi p, vi w] (356, z) D r (356, z) (xP (vl (pF (D 352) p w)) D r) := by
  refine MX.of (by decide +kernel) [some (.ref 351), some (vi p), some (vi w)] rfl (Nat.le_of_ble_eq_true rfl) ?_
  intro γ hX hRX
  refine v_aload_n (q := 1) hX dX5_ofP_0 rfl rfl rfl ?_
  refine w_getR (q := 4) hX fl_X5_7 rfl oX5 hr.1 dX5_ofP_1 rfl ?_
  refine v_bipush (q := 6) hX (by decide) dX5_ofP_4 rfl ?_
  refine v_bipush (q := 8) hX (by decide) dX5_ofP_6 rfl ?_
  refine v_iload_n (q := 9) hX dX5_ofP_8 rfl rfl rfl ?_
  refine v_imul (q := 10) hX dX5_ofP_9 rfl ?_
  refine v_iadd (q := 11) hX dX5_ofP_10 rfl ?_
  refine v_iload_n (q := 12) hX dX5_ofP_11 rfl rfl rfl ?_
  refine v_iadd (q := 13) hX dX5_ofP_12 rfl ?_
  refine w_lld (q := 14) (kk := 18 + 36 * p + w) hX (by push_cast; rfl) (h) aNow dX5_ofP_13 rfl ?_
  refine v_lreturn hX hRX rfl dX5_ofP_14 rfl ?_
  exact ⟨rfl, rfl, rfl⟩

set_option maxRecDepth 100000 in
set_option maxHeartbeats 4000000 in
theorem c_X5_becomes {z : Nat} (D : xD) (r : xR) (hr : xRM r) (p w : Nat) (v : Int) (h : 18 + 36 * p + w < 378) : MX 0 mX5_becomes [.ref 351, vi p, vi w, vl v] (356, z) D r (356, z) (xEn (fun D' => D' = xw D 352 (fu (D 352) (18 + 36 * p + w) v)) r) := by
  refine MX.of (by decide +kernel) [some (.ref 351), some (vi p), some (vi w), some (vl v), none] rfl (Nat.le_of_ble_eq_true rfl) ?_
  intro γ hX hRX
  refine v_aload_n (q := 1) hX dX5_becomes_0 rfl rfl rfl ?_
  refine w_getR (q := 4) hX fl_X5_7 rfl oX5 hr.1 dX5_becomes_1 rfl ?_
  refine v_bipush (q := 6) hX (by decide) dX5_becomes_4 rfl ?_
  refine v_bipush (q := 8) hX (by decide) dX5_becomes_6 rfl ?_
  refine v_iload_n (q := 9) hX dX5_becomes_8 rfl rfl rfl ?_
  refine v_imul (q := 10) hX dX5_becomes_9 rfl ?_
  refine v_iadd (q := 11) hX dX5_becomes_10 rfl ?_
  refine v_iload_n (q := 12) hX dX5_becomes_11 rfl rfl rfl ?_
  refine v_iadd (q := 13) hX dX5_becomes_12 rfl ?_
  refine v_lload_n (q := 14) hX dX5_becomes_13 rfl rfl rfl ?_
  refine w_lst (q := 15) (kk := 18 + 36 * p + w) hX (by push_cast; rfl) (h) aNow dX5_becomes_14 rfl ?_
  refine v_vreturn hX hRX rfl dX5_becomes_15 rfl ?_
  exact ⟨rfl, rfl, xu_xw D 352 _ v⟩

set_option maxRecDepth 100000 in
set_option maxHeartbeats 4000000 in
theorem c_X5_setting {z : Nat} (D : xD) (r : xR) (hr : xRM r) (w : Nat) (h : w < 9) {j : Nat} (hj : 5 + w = j) : MX 0 mX5_setting [.ref 351, vi w] (356, z) D r (356, z) (xP (vl (D 352 j)) D r) := by
  refine MX.of (by decide +kernel) [some (.ref 351), some (vi w)] rfl (Nat.le_of_ble_eq_true rfl) ?_
  intro γ hX hRX
  refine v_aload_n (q := 1) hX dX5_setting_0 rfl rfl rfl ?_
  refine w_getR (q := 4) hX fl_X5_7 rfl oX5 hr.1 dX5_setting_1 rfl ?_
  refine v_iconst (q := 5) hX dX5_setting_4 rfl ?_
  refine v_iload_n (q := 6) hX dX5_setting_5 rfl rfl rfl ?_
  refine v_iadd (q := 7) hX dX5_setting_6 rfl ?_
  refine w_lld (q := 8) (kk := j) hX (by omega) (by omega) aNow dX5_setting_7 rfl ?_
  refine v_lreturn hX hRX rfl dX5_setting_8 rfl ?_
  exact ⟨rfl, rfl, rfl⟩

set_option maxRecDepth 100000 in
set_option maxHeartbeats 4000000 in
theorem c_X5_fence {z : Nat} (D : xD) (r : xR) (hr : xRM r) : MX 1 mX5_fence [.ref 351] (356, z) D r (356, z) (xP (vi (D 352 7)) D r) := by
  refine MX.of (by decide +kernel) [some (.ref 351)] rfl (Nat.le_of_ble_eq_true rfl) ?_
  intro γ hX hRX
  refine v_aload_n (q := 1) hX dX5_fence_0 rfl rfl rfl ?_
  refine v_iconst (q := 2) hX dX5_fence_1 rfl ?_
  refine w_callV (q := 5) hX (c_X5_setting D r hr 2 (by decide) rfl) rfl kV_X5_setting rfl (by decide) lk_X5_41 (by decide) rfl oX5 (Nat.le_of_ble_eq_true rfl) dX5_fence_2 rfl ?_
  refine v_l2i (q := 6) hX dX5_fence_5 rfl ?_
  refine v_ireturn hX hRX rfl (by first | rfl | exact bi_nar _) dX5_fence_6 rfl ?_
  exact ⟨rfl, rfl, rfl⟩

