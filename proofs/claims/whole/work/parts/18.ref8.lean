/-! ===== the reference: records, undo, slots ===== -/
def rcS (F : Nat → Int) : Int := if F 3 = 6 then 5 else F 3
def rcK (F K N : Nat → Int) : Nat → Int := kPut (if F 3 = 6 then kDown K 1890 else K) (rcS F).toNat N 378
def rcD (D : xD) : xD := xw (xw D 353 (rcK (D 351) (D 353) (D 352))) 351 (fu (D 351) 3 (rcS (D 351) + 1))
theorem rcD_352 (D : xD) : rcD D 352 = D 352 := rfl
theorem rcD_351 (D : xD) : rcD D 351 = fu (D 351) 3 (rcS (D 351) + 1) := rfl
theorem rcD_353 (D : xD) : rcD D 353 = rcK (D 351) (D 353) (D 352) := rfl
theorem rcD_ne (D : xD) {a : Nat} (h1 : a ≠ 351) (h3 : a ≠ 353) : rcD D a = D a := by unfold rcD; rw [xw_ne _ _ _ h1, xw_ne _ _ _ h3]
theorem fu_fu (f : Nat → Int) (j : Nat) (a b : Int) : fu (fu f j a) j b = fu f j b := by funext i; unfold fu; split <;> rfl
set_option maxRecDepth 100000 in
set_option maxHeartbeats 4000000 in
theorem c_X5_records {z : Nat} (D : xD) (r : xR) (hr : xRM r) (hs0 : 0 ≤ D 351 3 ∧ D 351 3 ≤ 6) : MX 1 mX5_records [.ref 351] (356, z) D r (356, z) (xEn (fun D' => D' = rcD D) r) := by
  refine MX.of (by decide +kernel) [some (.ref 351), none] rfl (Nat.le_of_ble_eq_true rfl) ?_
  intro γ hX hRX
  have K : ∀ (E : xD) (s : Nat), E 351 3 = (s : Int) → s < 6 → xw (xw E 353 (kPut (E 353) s (E 352) 378)) 351 (fu (E 351) 3 ((s : Int) + 1)) = rcD D → xV γ 50 [some (.ref 351), none] [] (356, z) E r := by
    intro E s hs hs6 hE
    refine v_aload_n (q := 51) hX dX5_records_50 rfl rfl rfl ?_
    refine v_aload_n (q := 52) hX dX5_records_51 rfl rfl rfl ?_
    refine w_getI (q := 55) hX fl_X5_45 rfl oX5 dX5_records_52 rfl ?_
    rw [hs]
    refine w_callVn (q := 58) hX (c_X5_keeps _ _ hr s (by omega)) rfl kV_X5_keeps rfl (by decide) lk_X5_49 (by decide) rfl oX5 (Nat.le_of_ble_eq_true rfl) dX5_records_55 rfl (fun D1 hD1 => ?_)
    subst hD1
    try simp only [xw_at, xw_xw]
    refine v_aload_n (q := 59) hX dX5_records_58 rfl rfl rfl ?_
    refine v_dup (q := 60) hX rfl dX5_records_59 rfl ?_
    refine w_getI (q := 63) hX fl_X5_45 rfl oX5 dX5_records_60 rfl ?_
    rw [show ∀ f, xw E 353 f 351 = E 351 from fun _ => rfl, hs]
    refine v_iconst (q := 64) hX dX5_records_63 rfl ?_
    refine v_iadd (q := 65) hX dX5_records_64 rfl ?_
    refine w_putI (q := 68) hX fl_X5_45 rfl oX5 dX5_records_65 rfl ?_
    rw [xu_xw, show ∀ f, xw E 353 f 351 = E 351 from fun _ => rfl]
    refine v_vreturn hX hRX rfl dX5_records_68 rfl ?_
    exact ⟨rfl, rfl, hE⟩
  have L : D 351 3 = 6 → ∀ k, k ≤ 1890 → xV γ 11 [some (.ref 351), some (vi (k : Nat))] [] (356, z) (xw D 353 (kDown (D 353) k)) r := by
    intro h9
    refine xup 1890 (fun k hk ih => ?_)
    refine v_iload_n (q := 12) hX dX5_records_11 rfl rfl rfl ?_
    refine v_sipush (q := 15) hX (by decide) dX5_records_12 rfl ?_
    refine v_icmp_ge (q := 18) (tgt := 40) hX ⟨by omega, by omega⟩ (by decide) dX5_records_15 (by decide) rfl (fun h15 => ?_) (fun h15 => ?_)
    · refine v_aload_n (q := 41) hX dX5_records_40 rfl rfl rfl ?_
      refine v_dup (q := 42) hX rfl dX5_records_41 rfl ?_
      refine w_getI (q := 45) hX fl_X5_45 rfl oX5 dX5_records_42 rfl ?_
      refine v_iconst (q := 46) hX dX5_records_45 rfl ?_
      refine v_isub (q := 47) hX dX5_records_46 rfl ?_
      refine w_putI (q := 50) hX fl_X5_45 rfl oX5 dX5_records_47 rfl ?_
      rw [show k = 1890 by omega]
      refine xVw (pl' := [some (.ref 351), none]) (by repeat' first | exact trivial | refine And.intro rfl ?_) (K _ 5 (by rw [xu_at]; show D 351 3 - 1 = _; omega) (by decide) ?_)
      unfold rcD rcK rcS
      rw [if_pos h9, if_pos h9, xu_xw]
      funext a
      unfold xw fu
      by_cases h1 : a = 351
      · subst h1; funext j; simp only [if_pos, if_true, reduceIte, Nat.reduceEqDiff]; by_cases hj : j = 3 <;> simp [hj]
      · by_cases h3 : a = 353
        · subst h3; rfl
        · simp [h1, h3]
    · refine v_aload_n (q := 19) hX dX5_records_18 rfl rfl rfl ?_
      refine w_getR (q := 22) hX fl_X5_13 rfl oX5 hr.2.1 dX5_records_19 rfl ?_
      refine v_iload_n (q := 23) hX dX5_records_22 rfl rfl rfl ?_
      refine v_aload_n (q := 24) hX dX5_records_23 rfl rfl rfl ?_
      refine w_getR (q := 27) hX fl_X5_13 rfl oX5 hr.2.1 dX5_records_24 rfl ?_
      refine v_iload_n (q := 28) hX dX5_records_27 rfl rfl rfl ?_
      refine v_sipush (q := 31) hX (by decide) dX5_records_28 rfl ?_
      refine v_iadd (q := 32) hX dX5_records_31 rfl ?_
      refine w_lld (q := 33) (kk := k + 378) hX (by omega) (by omega) aKept dX5_records_32 rfl ?_
      refine w_lst (q := 34) (kk := k) hX (by omega) (by omega) aKept dX5_records_33 rfl ?_
      rw [xu_xw', xw_at]
      refine v_iinc (q := 37) hX dX5_records_34 rfl (Nat.le_of_ble_eq_true rfl) (Nat.le_of_ble_eq_true rfl) rfl ?_
      dsimp only [xs1, xs2, xclr]
      refine v_goto (tgt := 11) hX dX5_records_37 (by decide) ?_
      have e1 := ih (by omega)
      rw [← kDown_succ] at e1
      exact e1
  refine v_aload_n (q := 1) hX dX5_records_0 rfl rfl rfl ?_
  refine w_getI (q := 4) hX fl_X5_45 rfl oX5 dX5_records_1 rfl ?_
  refine v_bipush (q := 6) hX (by decide) dX5_records_4 rfl ?_
  refine v_icmp_ne (q := 9) (tgt := 50) hX ⟨by omega, by omega⟩ (by decide) dX5_records_6 (by decide) rfl (fun h6 => ?_) (fun h6 => ?_)
  · obtain ⟨s, hs⟩ := Int.eq_ofNat_of_zero_le hs0.1
    exact K D s hs (by omega) (by unfold rcD rcK rcS; rw [if_neg h6, if_neg h6, hs]; rfl)
  · refine v_iconst (q := 10) hX dX5_records_9 rfl ?_
    refine v_istore_n (q := 11) hX dX5_records_10 rfl (Nat.le_of_ble_eq_true rfl) (Nat.le_of_ble_eq_true rfl) rfl ?_
    dsimp only [xs1, xs2, xclr]
    have e1 := L h6 0 (Nat.zero_le _)
    rw [kDown_0, xw_self] at e1
    exact e1

set_option maxRecDepth 100000 in
set_option maxHeartbeats 4000000 in
theorem c_X5_undo0 {z : Nat} (D : xD) (r : xR) (hr : xRM r) (h0 : D 351 3 = 0) : MX 1 mX5_undo [.ref 351] (356, z) D r (356, z) (xP (vi (-5)) D r) := by
  refine MX.of (by decide +kernel) [some (.ref 351)] rfl (Nat.le_of_ble_eq_true rfl) ?_
  intro γ hX hRX
  refine v_aload_n (q := 1) hX dX5_undo_0 rfl rfl rfl ?_
  refine w_getI (q := 4) hX fl_X5_45 rfl oX5 dX5_undo_1 rfl ?_
  refine v_if_ne (q := 7) (tgt := 10) hX ⟨by omega, by omega⟩ dX5_undo_4 (by decide) rfl (fun h4 => ?_) (fun h4 => ?_)
  · exact absurd h0 h4
  · refine v_bipush (q := 9) hX (by decide) dX5_undo_7 rfl ?_
    refine v_ireturn hX hRX rfl (by first | rfl | exact bi_nar _) dX5_undo_9 rfl ?_
    exact ⟨rfl, rfl, rfl⟩

def unD (D : xD) (s : Nat) : xD := xw (xw D 351 (fu (D 351) 3 (s : Int))) 352 (kGet (D 353) s (D 352) 378)
set_option maxRecDepth 100000 in
set_option maxHeartbeats 4000000 in
theorem c_X5_undo {z : Nat} (D : xD) (r : xR) (hr : xRM r) (s : Nat) (hs : D 351 3 = ((s + 1 : Nat) : Int)) (h6 : s < 6) : MX 1 mX5_undo [.ref 351] (356, z) D r (356, z) (xEs (vi (s : Nat)) (fun D' => D' = unD D s) r) := by
  refine MX.of (by decide +kernel) [some (.ref 351)] rfl (Nat.le_of_ble_eq_true rfl) ?_
  intro γ hX hRX
  refine v_aload_n (q := 1) hX dX5_undo_0 rfl rfl rfl ?_
  refine w_getI (q := 4) hX fl_X5_45 rfl oX5 dX5_undo_1 rfl ?_
  refine v_if_ne (q := 7) (tgt := 10) hX ⟨by omega, by omega⟩ dX5_undo_4 (by decide) rfl (fun h4 => ?_) (fun h4 => ?_)
  · refine v_aload_n (q := 11) hX dX5_undo_10 rfl rfl rfl ?_
    refine v_dup (q := 12) hX rfl dX5_undo_11 rfl ?_
    refine w_getI (q := 15) hX fl_X5_45 rfl oX5 dX5_undo_12 rfl ?_
    refine v_iconst (q := 16) hX dX5_undo_15 rfl ?_
    refine v_isub (q := 17) hX dX5_undo_16 rfl ?_
    rw [show D 351 3 - 1 = (s : Int) by omega]
    refine w_putI (q := 20) hX fl_X5_45 rfl oX5 dX5_undo_17 rfl ?_
    rw [xu_xw]
    refine v_aload_n (q := 21) hX dX5_undo_20 rfl rfl rfl ?_
    refine v_aload_n (q := 22) hX dX5_undo_21 rfl rfl rfl ?_
    refine w_getI (q := 25) hX fl_X5_45 rfl oX5 dX5_undo_22 rfl ?_
    rw [xw_at, fu_at]
    refine w_callVn (q := 28) hX (c_X5_brings _ _ hr s (by omega)) rfl kV_X5_brings rfl (by decide) lk_X5_53 (by decide) rfl oX5 (Nat.le_of_ble_eq_true rfl) dX5_undo_25 rfl (fun D1 hD1 => ?_)
    subst hD1
    refine v_aload_n (q := 29) hX dX5_undo_28 rfl rfl rfl ?_
    refine w_getI (q := 32) hX fl_X5_45 rfl oX5 dX5_undo_29 rfl ?_
    rw [show ∀ f g, xw (xw D 351 f) 352 g 351 = f from fun _ _ => rfl, fu_at]
    refine v_ireturn hX hRX rfl (by first | rfl | exact bi_nar _) dX5_undo_32 rfl ?_
    exact ⟨rfl, rfl, rfl⟩
  · exact absurd h4 (by omega)

set_option maxRecDepth 100000 in
set_option maxHeartbeats 4000000 in
theorem c_X5_save_err {z : Nat} (D : xD) (r : xR) (hr : xRM r) (a : Int) (ha : xI a) (h : a < 0 ∨ 1 < a) : MX 1 mX5_save [.ref 351, vi a] (356, z) D r (356, z) (xP (vi (-2)) D r) := by
  refine MX.of (by decide +kernel) [some (.ref 351), some (vi a)] rfl (Nat.le_of_ble_eq_true rfl) ?_
  intro γ hX hRX
  refine v_iload_n (q := 1) hX dX5_save_0 rfl rfl rfl ?_
  refine v_i2l (q := 2) hX ha dX5_save_1 rfl ?_
  refine v_lconst (q := 3) (e := 0) hX (by decide) dX5_save_2 rfl ?_
  refine v_lconst (q := 4) (e := 1) hX (by decide) dX5_save_3 rfl ?_
  refine w_callS (q := 7) hX (c_X5_isIn _ _ _ _ _ ⟨by omega, by omega⟩ ⟨by omega, by omega⟩ ⟨by omega, by omega⟩) rfl kS_X5_isIn rfl (by decide) lk_X5_35 (Nat.le_of_ble_eq_true rfl) dX5_save_4 rfl ?_
  refine w_ifne (q := 10) (tgt := 13) hX dX5_save_7 (by decide) rfl (fun h7 => ?_) (fun h7 => ?_)
  · exact absurd h7 (by omega)
  · refine v_bipush (q := 12) hX (by decide) dX5_save_10 rfl ?_
    refine v_ireturn hX hRX rfl (by first | rfl | exact bi_nar _) dX5_save_12 rfl ?_
    exact ⟨rfl, rfl, rfl⟩

def svD (D : xD) (a : Nat) : xD := xw (xw D 353 (kPut (D 353) (6 + a) (D 352) 378)) 354 (fu (D 354) a 1)
set_option maxRecDepth 100000 in
set_option maxHeartbeats 4000000 in
theorem c_X5_save {z : Nat} (D : xD) (r : xR) (hr : xRM r) (a : Nat) (h : a < 2) : MX 1 mX5_save [.ref 351, vi a] (356, z) D r (356, z) (xEs (vi (D 352 0)) (fun D' => D' = svD D a) r) := by
  refine MX.of (by decide +kernel) [some (.ref 351), some (vi a)] rfl (Nat.le_of_ble_eq_true rfl) ?_
  intro γ hX hRX
  refine v_iload_n (q := 1) hX dX5_save_0 rfl rfl rfl ?_
  refine v_i2l (q := 2) hX ⟨by omega, by omega⟩ dX5_save_1 rfl ?_
  refine v_lconst (q := 3) (e := 0) hX (by decide) dX5_save_2 rfl ?_
  refine v_lconst (q := 4) (e := 1) hX (by decide) dX5_save_3 rfl ?_
  refine w_callS (q := 7) hX (c_X5_isIn _ _ _ _ _ ⟨by omega, by omega⟩ ⟨by omega, by omega⟩ ⟨by omega, by omega⟩) rfl kS_X5_isIn rfl (by decide) lk_X5_35 (Nat.le_of_ble_eq_true rfl) dX5_save_4 rfl ?_
  refine w_ifne (q := 10) (tgt := 13) hX dX5_save_7 (by decide) rfl (fun h7 => ?_) (fun h7 => ?_)
  · refine v_aload_n (q := 14) hX dX5_save_13 rfl rfl rfl ?_
    refine v_bipush (q := 16) hX (by decide) dX5_save_14 rfl ?_
    refine v_iload_n (q := 17) hX dX5_save_16 rfl rfl rfl ?_
    refine v_iadd (q := 18) hX dX5_save_17 rfl ?_
    refine w_callVn (q := 21) hX (c_X5_keeps _ _ hr ((6 + a)) (by omega)) rfl kV_X5_keeps rfl (by decide) lk_X5_49 (by decide) rfl oX5 (Nat.le_of_ble_eq_true rfl) dX5_save_18 rfl (fun D1 hD1 => ?_)
    subst hD1
    refine v_aload_n (q := 22) hX dX5_save_21 rfl rfl rfl ?_
    refine w_getR (q := 25) hX fl_X5_16 rfl oX5 hr.2.2.1 dX5_save_22 rfl ?_
    refine v_iload_n (q := 26) hX dX5_save_25 rfl rfl rfl ?_
    refine v_iconst (q := 27) hX dX5_save_26 rfl ?_
    refine w_ist (q := 28) (kk := a) hX (by omega) (by omega) aSav dX5_save_27 rfl ?_
    refine v_aload_n (q := 29) hX dX5_save_28 rfl rfl rfl ?_
    refine w_getR (q := 32) hX fl_X5_7 rfl oX5 hr.1 dX5_save_29 rfl ?_
    refine v_iconst (q := 33) hX dX5_save_32 rfl ?_
    refine w_lld (q := 34) (kk := 0) hX (by omega) (by omega) aNow dX5_save_33 rfl ?_
    refine v_l2i (q := 35) hX dX5_save_34 rfl ?_
    refine v_ireturn hX hRX rfl (by first | rfl | exact bi_nar _) dX5_save_35 rfl ?_
    exact ⟨rfl, rfl, by rw [xu_xw]; rfl⟩
  · exact absurd h7 (by omega)

set_option maxRecDepth 100000 in
set_option maxHeartbeats 4000000 in
theorem c_X5_restore_err {z : Nat} (D : xD) (r : xR) (hr : xRM r) (a : Int) (ha : xI a) (h : a < 0 ∨ 1 < a) : MX 2 mX5_restore [.ref 351, vi a] (356, z) D r (356, z) (xP (vi (-2)) D r) := by
  refine MX.of (by decide +kernel) [some (.ref 351), some (vi a)] rfl (Nat.le_of_ble_eq_true rfl) ?_
  intro γ hX hRX
  refine v_iload_n (q := 1) hX dX5_restore_0 rfl rfl rfl ?_
  refine v_i2l (q := 2) hX ha dX5_restore_1 rfl ?_
  refine v_lconst (q := 3) (e := 0) hX (by decide) dX5_restore_2 rfl ?_
  refine v_lconst (q := 4) (e := 1) hX (by decide) dX5_restore_3 rfl ?_
  refine w_callS (q := 7) hX (c_X5_isIn _ _ _ _ _ ⟨by omega, by omega⟩ ⟨by omega, by omega⟩ ⟨by omega, by omega⟩) rfl kS_X5_isIn rfl (by decide) lk_X5_35 (Nat.le_of_ble_eq_true rfl) dX5_restore_4 rfl ?_
  refine w_ifne (q := 10) (tgt := 13) hX dX5_restore_7 (by decide) rfl (fun h7 => ?_) (fun h7 => ?_)
  · exact absurd h7 (by omega)
  · refine v_bipush (q := 12) hX (by decide) dX5_restore_10 rfl ?_
    refine v_ireturn hX hRX rfl (by first | rfl | exact bi_nar _) dX5_restore_12 rfl ?_
    exact ⟨rfl, rfl, rfl⟩

set_option maxRecDepth 100000 in
set_option maxHeartbeats 4000000 in
theorem c_X5_restore0 {z : Nat} (D : xD) (r : xR) (hr : xRM r) (a : Nat) (h : a < 2) (h0 : D 354 a = 0) : MX 2 mX5_restore [.ref 351, vi a] (356, z) D r (356, z) (xP (vi (-5)) D r) := by
  refine MX.of (by decide +kernel) [some (.ref 351), some (vi a)] rfl (Nat.le_of_ble_eq_true rfl) ?_
  intro γ hX hRX
  refine v_iload_n (q := 1) hX dX5_restore_0 rfl rfl rfl ?_
  refine v_i2l (q := 2) hX ⟨by omega, by omega⟩ dX5_restore_1 rfl ?_
  refine v_lconst (q := 3) (e := 0) hX (by decide) dX5_restore_2 rfl ?_
  refine v_lconst (q := 4) (e := 1) hX (by decide) dX5_restore_3 rfl ?_
  refine w_callS (q := 7) hX (c_X5_isIn _ _ _ _ _ ⟨by omega, by omega⟩ ⟨by omega, by omega⟩ ⟨by omega, by omega⟩) rfl kS_X5_isIn rfl (by decide) lk_X5_35 (Nat.le_of_ble_eq_true rfl) dX5_restore_4 rfl ?_
  refine w_ifne (q := 10) (tgt := 13) hX dX5_restore_7 (by decide) rfl (fun h7 => ?_) (fun h7 => ?_)
  · refine v_aload_n (q := 14) hX dX5_restore_13 rfl rfl rfl ?_
    refine w_getR (q := 17) hX fl_X5_16 rfl oX5 hr.2.2.1 dX5_restore_14 rfl ?_
    refine v_iload_n (q := 18) hX dX5_restore_17 rfl rfl rfl ?_
    refine w_ild (q := 19) (kk := a) hX (by omega) (by omega) aSav dX5_restore_18 rfl ?_
    refine v_if_ne (q := 22) (tgt := 25) hX ⟨by omega, by omega⟩ dX5_restore_19 (by decide) rfl (fun h19 => ?_) (fun h19 => ?_)
    · exact absurd h0 h19
    · refine v_bipush (q := 24) hX (by decide) dX5_restore_22 rfl ?_
      refine v_ireturn hX hRX rfl (by first | rfl | exact bi_nar _) dX5_restore_24 rfl ?_
      exact ⟨rfl, rfl, rfl⟩
  · exact absurd h7 (by omega)

def rsD (D : xD) (a : Nat) : xD := xw (rcD D) 352 (kGet (rcK (D 351) (D 353) (D 352)) (6 + a) (D 352) 378)
set_option maxRecDepth 100000 in
set_option maxHeartbeats 4000000 in
theorem c_X5_restore {z : Nat} (D : xD) (r : xR) (hr : xRM r) (hs0 : 0 ≤ D 351 3 ∧ D 351 3 ≤ 6) (a : Nat) (h : a < 2) (h1 : D 354 a = 1) : MX 2 mX5_restore [.ref 351, vi a] (356, z) D r (356, z) (xEs (vi (kGet (rcK (D 351) (D 353) (D 352)) (6 + a) (D 352) 378 0)) (fun D' => D' = rsD D a) r) := by
  refine MX.of (by decide +kernel) [some (.ref 351), some (vi a)] rfl (Nat.le_of_ble_eq_true rfl) ?_
  intro γ hX hRX
  refine v_iload_n (q := 1) hX dX5_restore_0 rfl rfl rfl ?_
  refine v_i2l (q := 2) hX ⟨by omega, by omega⟩ dX5_restore_1 rfl ?_
  refine v_lconst (q := 3) (e := 0) hX (by decide) dX5_restore_2 rfl ?_
  refine v_lconst (q := 4) (e := 1) hX (by decide) dX5_restore_3 rfl ?_
  refine w_callS (q := 7) hX (c_X5_isIn _ _ _ _ _ ⟨by omega, by omega⟩ ⟨by omega, by omega⟩ ⟨by omega, by omega⟩) rfl kS_X5_isIn rfl (by decide) lk_X5_35 (Nat.le_of_ble_eq_true rfl) dX5_restore_4 rfl ?_
  try simp only [xw_at, xw_xw]
  refine w_ifne (q := 10) (tgt := 13) hX dX5_restore_7 (by decide) rfl (fun h7 => ?_) (fun h7 => ?_)
  · refine v_aload_n (q := 14) hX dX5_restore_13 rfl rfl rfl ?_
    refine w_getR (q := 17) hX fl_X5_16 rfl oX5 hr.2.2.1 dX5_restore_14 rfl ?_
    refine v_iload_n (q := 18) hX dX5_restore_17 rfl rfl rfl ?_
    refine w_ild (q := 19) (kk := a) hX (by omega) (by omega) aSav dX5_restore_18 rfl ?_
    refine v_if_ne (q := 22) (tgt := 25) hX ⟨by omega, by omega⟩ dX5_restore_19 (by decide) rfl (fun h19 => ?_) (fun h19 => ?_)
    · refine v_aload_n (q := 26) hX dX5_restore_25 rfl rfl rfl ?_
      refine w_callVn (q := 29) hX (c_X5_records _ _ hr hs0) rfl kV_X5_records rfl (by decide) lk_X5_56 (by decide) rfl oX5 (Nat.le_of_ble_eq_true rfl) dX5_restore_26 rfl (fun D1 hD1 => ?_)
      subst hD1
      try simp only [xw_at, xw_xw]
      refine v_aload_n (q := 30) hX dX5_restore_29 rfl rfl rfl ?_
      refine v_bipush (q := 32) hX (by decide) dX5_restore_30 rfl ?_
      refine v_iload_n (q := 33) hX dX5_restore_32 rfl rfl rfl ?_
      refine v_iadd (q := 34) hX dX5_restore_33 rfl ?_
      refine w_callVn (q := 37) hX (c_X5_brings _ _ hr ((6 + a)) (by omega)) rfl kV_X5_brings rfl (by decide) lk_X5_53 (by decide) rfl oX5 (Nat.le_of_ble_eq_true rfl) dX5_restore_34 rfl (fun D1 hD1 => ?_)
      subst hD1
      try simp only [xw_at, xw_xw]
      refine v_aload_n (q := 38) hX dX5_restore_37 rfl rfl rfl ?_
      refine w_getR (q := 41) hX fl_X5_7 rfl oX5 hr.1 dX5_restore_38 rfl ?_
      refine v_iconst (q := 42) hX dX5_restore_41 rfl ?_
      refine w_lld (q := 43) (kk := 0) hX (by omega) (by omega) aNow dX5_restore_42 rfl ?_
      try simp only [xw_at]
      refine v_l2i (q := 44) hX dX5_restore_43 rfl ?_
      try simp only [rcD_353, rcD_352]
      refine v_ireturn hX hRX rfl (by first | rfl | exact bi_nar _) dX5_restore_44 rfl ?_
      exact ⟨rfl, rfl, rfl⟩
    · exact absurd h19 (by omega)
  · exact absurd h7 (by omega)

/-! ===== the reference: setting up ===== -/
def leastOf (w : Nat) : Int := if w = 3 then 1 else 0
def mostOf (w : Nat) : Int := if w = 0 then 1000 else if w = 1 then 500 else if w = 2 then 8 else if w = 3 then 6 else if w = 4 then 400 else if w = 5 then 1000 else 100
set_option maxRecDepth 100000 in
set_option maxHeartbeats 4000000 in
theorem c_X5_leastOf {z : Nat} (D : xD) (r : xR) (w : Nat) (hw : w < 9) : MX 0 mX5_leastOf [vi w] (356, z) D r (356, z) (xP (vi (leastOf w)) D r) := by
  refine MX.of (by decide +kernel) [some (vi w)] rfl (Nat.le_of_ble_eq_true rfl) ?_
  intro γ hX hRX
  refine v_iload_n (q := 1) hX dX5_leastOf_0 rfl rfl rfl ?_
  refine v_iconst (q := 2) hX dX5_leastOf_1 rfl ?_
  refine v_icmp_ne (q := 5) (tgt := 9) hX ⟨by omega, by omega⟩ (by decide) dX5_leastOf_2 (by decide) rfl (fun h2 => ?_) (fun h2 => ?_)
  · refine v_iconst (q := 10) hX dX5_leastOf_9 rfl ?_
    refine v_ireturn hX hRX rfl (by first | rfl | exact bi_nar _) dX5_leastOf_10 rfl ?_
    exact ⟨by unfold leastOf; (first | rw [if_pos (by omega)] | rw [if_neg (by omega)]), rfl, rfl⟩
  · refine v_iconst (q := 6) hX dX5_leastOf_5 rfl ?_
    refine v_goto (tgt := 10) hX dX5_leastOf_6 (by decide) ?_
    refine v_ireturn hX hRX rfl (by first | rfl | exact bi_nar _) dX5_leastOf_10 rfl ?_
    exact ⟨by unfold leastOf; (first | rw [if_pos (by omega)] | rw [if_neg (by omega)]), rfl, rfl⟩

set_option maxRecDepth 100000 in
set_option maxHeartbeats 4000000 in
theorem c_X5_mostOf {z : Nat} (D : xD) (r : xR) (w : Nat) (hw : w < 9) : MX 0 mX5_mostOf [vi w] (356, z) D r (356, z) (xP (vi (mostOf w)) D r) := by
  refine MX.of (by decide +kernel) [some (vi w)] rfl (Nat.le_of_ble_eq_true rfl) ?_
  intro γ hX hRX
  refine v_iload_n (q := 1) hX dX5_mostOf_0 rfl rfl rfl ?_
  rcases Nat.lt_or_ge w 6 with h | h
  · match w, h with
    | 0, _ =>
      refine v_tableIn (tgt := 40) hX (by decide) dX5_mostOf_1 (by decide) (by decide) rfl (by decide) ?_
      refine v_sipush (q := 43) hX (by decide) dX5_mostOf_40 rfl ?_
      refine v_ireturn hX hRX rfl (by first | rfl | exact bi_nar _) dX5_mostOf_43 rfl ?_
      exact ⟨rfl, rfl, rfl⟩
    | 1, _ =>
      refine v_tableIn (tgt := 44) hX (by decide) dX5_mostOf_1 (by decide) (by decide) rfl (by decide) ?_
      refine v_sipush (q := 47) hX (by decide) dX5_mostOf_44 rfl ?_
      refine v_ireturn hX hRX rfl (by first | rfl | exact bi_nar _) dX5_mostOf_47 rfl ?_
      exact ⟨rfl, rfl, rfl⟩
    | 2, _ =>
      refine v_tableIn (tgt := 48) hX (by decide) dX5_mostOf_1 (by decide) (by decide) rfl (by decide) ?_
      refine v_bipush (q := 50) hX (by decide) dX5_mostOf_48 rfl ?_
      refine v_ireturn hX hRX rfl (by first | rfl | exact bi_nar _) dX5_mostOf_50 rfl ?_
      exact ⟨rfl, rfl, rfl⟩
    | 3, _ =>
      refine v_tableIn (tgt := 51) hX (by decide) dX5_mostOf_1 (by decide) (by decide) rfl (by decide) ?_
      refine v_bipush (q := 53) hX (by decide) dX5_mostOf_51 rfl ?_
      refine v_ireturn hX hRX rfl (by first | rfl | exact bi_nar _) dX5_mostOf_53 rfl ?_
      exact ⟨rfl, rfl, rfl⟩
    | 4, _ =>
      refine v_tableIn (tgt := 54) hX (by decide) dX5_mostOf_1 (by decide) (by decide) rfl (by decide) ?_
      refine v_sipush (q := 57) hX (by decide) dX5_mostOf_54 rfl ?_
      refine v_ireturn hX hRX rfl (by first | rfl | exact bi_nar _) dX5_mostOf_57 rfl ?_
      exact ⟨rfl, rfl, rfl⟩
    | 5, _ =>
      refine v_tableIn (tgt := 40) hX (by decide) dX5_mostOf_1 (by decide) (by decide) rfl (by decide) ?_
      refine v_sipush (q := 43) hX (by decide) dX5_mostOf_40 rfl ?_
      refine v_ireturn hX hRX rfl (by first | rfl | exact bi_nar _) dX5_mostOf_43 rfl ?_
      exact ⟨rfl, rfl, rfl⟩
  · refine v_tableOut (tgt := 58) hX ⟨by omega, by omega⟩ dX5_mostOf_1 (Or.inr (by omega)) (by decide) ?_
    refine v_bipush (q := 60) hX (by decide) dX5_mostOf_58 rfl ?_
    refine v_ireturn hX hRX rfl (by first | rfl | exact bi_nar _) dX5_mostOf_60 rfl ?_
    exact ⟨by unfold mostOf; rw [if_neg (by omega), if_neg (by omega), if_neg (by omega), if_neg (by omega), if_neg (by omega), if_neg (by omega)], rfl, rfl⟩

theorem lm_I {w : Nat} (hw : w < 9) : (0 ≤ leastOf w ∧ leastOf w ≤ 1) ∧ 0 ≤ mostOf w ∧ mostOf w ≤ 1000 := by
  refine ⟨by unfold leastOf; split <;> omega, ?_⟩
  unfold mostOf
  repeat' split
  all_goals omega
set_option maxRecDepth 100000 in
set_option maxHeartbeats 4000000 in
theorem c_X5_set_err {z : Nat} (D : xD) (r : xR) (hr : xRM r) (a b : Int) (ha : xI a) (hb : xI b) (he : ∀ w : Nat, a = (w : Int) → w < 9 → b < leastOf w ∨ mostOf w < b) : MX 2 mX5_set [.ref 351, vi a, vi b] (356, z) D r (356, z) (xP (vi (-2)) D r) := by
  refine MX.of (by decide +kernel) [some (.ref 351), some (vi a), some (vi b), none] rfl (Nat.le_of_ble_eq_true rfl) ?_
  intro γ hX hRX
  refine v_iload_n (q := 1) hX dX5_set_0 rfl rfl rfl ?_
  refine v_i2l (q := 2) hX ha dX5_set_1 rfl ?_
  refine v_lconst (q := 3) (e := 0) hX (by decide) dX5_set_2 rfl ?_
  refine v_ldc2 (q := 6) (e := 8) hX (by decide) kl_X5_59 dX5_set_3 rfl ?_
  refine w_callS (q := 9) hX (c_X5_isIn _ _ _ _ _ ⟨by omega, by omega⟩ ⟨by omega, by omega⟩ ⟨by omega, by omega⟩) rfl kS_X5_isIn rfl (by decide) lk_X5_35 (Nat.le_of_ble_eq_true rfl) dX5_set_6 rfl ?_
  refine w_ifeq (q := 12) (tgt := 30) hX dX5_set_9 (by decide) rfl (fun h9 => ?_) (fun h9 => ?_)
  · refine v_bipush (q := 32) hX (by decide) dX5_set_30 rfl ?_
    refine v_ireturn hX hRX rfl (by first | rfl | exact bi_nar _) dX5_set_32 rfl ?_
    exact ⟨rfl, rfl, rfl⟩
  · obtain ⟨w, rfl⟩ := Int.eq_ofNat_of_zero_le h9.1
    have hlm := lm_I (w := w) (by omega)
    have he2 := he w rfl (by omega)
    refine v_iload_n (q := 13) hX dX5_set_12 rfl rfl rfl ?_
    refine v_i2l (q := 14) hX hb dX5_set_13 rfl ?_
    refine v_iload_n (q := 15) hX dX5_set_14 rfl rfl rfl ?_
    refine w_callS (q := 18) hX (c_X5_leastOf _ _ w (by omega)) rfl kS_X5_leastOf rfl (by decide) lk_X5_61 (Nat.le_of_ble_eq_true rfl) dX5_set_15 rfl ?_
    refine v_i2l (q := 19) hX ⟨by omega, by omega⟩ dX5_set_18 rfl ?_
    refine v_iload_n (q := 20) hX dX5_set_19 rfl rfl rfl ?_
    refine w_callS (q := 23) hX (c_X5_mostOf _ _ w (by omega)) rfl kS_X5_mostOf rfl (by decide) lk_X5_65 (Nat.le_of_ble_eq_true rfl) dX5_set_20 rfl ?_
    refine v_i2l (q := 24) hX ⟨by omega, by omega⟩ dX5_set_23 rfl ?_
    refine w_callS (q := 27) hX (c_X5_isIn _ _ _ _ _ ⟨by omega, by omega⟩ ⟨by omega, by omega⟩ ⟨by omega, by omega⟩) rfl kS_X5_isIn rfl (by decide) lk_X5_35 (Nat.le_of_ble_eq_true rfl) dX5_set_24 rfl ?_
    refine w_ifne (q := 30) (tgt := 33) hX dX5_set_27 (by decide) rfl (fun h27 => ?_) (fun h27 => ?_)
    · exact absurd h27 (by omega)
    · refine v_bipush (q := 32) hX (by decide) dX5_set_30 rfl ?_
      refine v_ireturn hX hRX rfl (by first | rfl | exact bi_nar _) dX5_set_32 rfl ?_
      exact ⟨rfl, rfl, rfl⟩

def stD (D : xD) (w : Nat) (b : Int) : xD := xw (rcD D) 352 (fu (D 352) (5 + w) b)
set_option maxRecDepth 100000 in
set_option maxHeartbeats 4000000 in
theorem c_X5_set {z : Nat} (D : xD) (r : xR) (hr : xRM r) (hs0 : 0 ≤ D 351 3 ∧ D 351 3 ≤ 6) (w : Nat) (b : Int) (hw : w < 9) (hb : xI b) (he : leastOf w ≤ b ∧ b ≤ mostOf w) : MX 2 mX5_set [.ref 351, vi w, vi b] (356, z) D r (356, z) (xEs (vi (D 352 (5 + w))) (fun D' => D' = stD D w b) r) := by
  refine MX.of (by decide +kernel) [some (.ref 351), some (vi w), some (vi b), none] rfl (Nat.le_of_ble_eq_true rfl) ?_
  intro γ hX hRX
  refine v_iload_n (q := 1) hX dX5_set_0 rfl rfl rfl ?_
  refine v_i2l (q := 2) hX ⟨by omega, by omega⟩ dX5_set_1 rfl ?_
  refine v_lconst (q := 3) (e := 0) hX (by decide) dX5_set_2 rfl ?_
  refine v_ldc2 (q := 6) (e := 8) hX (by decide) kl_X5_59 dX5_set_3 rfl ?_
  refine w_callS (q := 9) hX (c_X5_isIn _ _ _ _ _ ⟨by omega, by omega⟩ ⟨by omega, by omega⟩ ⟨by omega, by omega⟩) rfl kS_X5_isIn rfl (by decide) lk_X5_35 (Nat.le_of_ble_eq_true rfl) dX5_set_6 rfl ?_
  refine w_ifeq (q := 12) (tgt := 30) hX dX5_set_9 (by decide) rfl (fun h9 => ?_) (fun h9 => ?_)
  · exact absurd h9 (by omega)
  · have hlm := lm_I (w := w) (by omega)
    refine v_iload_n (q := 13) hX dX5_set_12 rfl rfl rfl ?_
    refine v_i2l (q := 14) hX hb dX5_set_13 rfl ?_
    refine v_iload_n (q := 15) hX dX5_set_14 rfl rfl rfl ?_
    refine w_callS (q := 18) hX (c_X5_leastOf _ _ w (by omega)) rfl kS_X5_leastOf rfl (by decide) lk_X5_61 (Nat.le_of_ble_eq_true rfl) dX5_set_15 rfl ?_
    refine v_i2l (q := 19) hX ⟨by omega, by omega⟩ dX5_set_18 rfl ?_
    refine v_iload_n (q := 20) hX dX5_set_19 rfl rfl rfl ?_
    refine w_callS (q := 23) hX (c_X5_mostOf _ _ w (by omega)) rfl kS_X5_mostOf rfl (by decide) lk_X5_65 (Nat.le_of_ble_eq_true rfl) dX5_set_20 rfl ?_
    refine v_i2l (q := 24) hX ⟨by omega, by omega⟩ dX5_set_23 rfl ?_
    refine w_callS (q := 27) hX (c_X5_isIn _ _ _ _ _ ⟨by omega, by omega⟩ ⟨by omega, by omega⟩ ⟨by omega, by omega⟩) rfl kS_X5_isIn rfl (by decide) lk_X5_35 (Nat.le_of_ble_eq_true rfl) dX5_set_24 rfl ?_
    refine w_ifne (q := 30) (tgt := 33) hX dX5_set_27 (by decide) rfl (fun h27 => ?_) (fun h27 => ?_)
    · refine v_aload_n (q := 34) hX dX5_set_33 rfl rfl rfl ?_
      refine w_callVn (q := 37) hX (c_X5_records _ _ hr hs0) rfl kV_X5_records rfl (by decide) lk_X5_56 (by decide) rfl oX5 (Nat.le_of_ble_eq_true rfl) dX5_set_34 rfl (fun D1 hD1 => ?_)
      subst hD1
      refine v_aload_n (q := 38) hX dX5_set_37 rfl rfl rfl ?_
      refine v_iload_n (q := 39) hX dX5_set_38 rfl rfl rfl ?_
      refine w_callV (q := 42) hX (c_X5_setting _ _ hr w (by omega) (j := 5 + w) rfl) rfl kV_X5_setting rfl (by decide) lk_X5_41 (by decide) rfl oX5 (Nat.le_of_ble_eq_true rfl) dX5_set_39 rfl ?_
      refine v_l2i (q := 43) hX dX5_set_42 rfl ?_
      refine v_istore_n (q := 44) hX dX5_set_43 rfl (Nat.le_of_ble_eq_true rfl) (Nat.le_of_ble_eq_true rfl) rfl ?_
      dsimp only [xs1, xs2, xclr]
      refine v_aload_n (q := 45) hX dX5_set_44 rfl rfl rfl ?_
      refine w_getR (q := 48) hX fl_X5_7 rfl oX5 hr.1 dX5_set_45 rfl ?_
      refine v_iconst (q := 49) hX dX5_set_48 rfl ?_
      refine v_iload_n (q := 50) hX dX5_set_49 rfl rfl rfl ?_
      refine v_iadd (q := 51) hX dX5_set_50 rfl ?_
      refine v_iload_n (q := 52) hX dX5_set_51 rfl rfl rfl ?_
      refine v_i2l (q := 53) hX hb dX5_set_52 rfl ?_
      refine w_lst (q := 54) (kk := (5 + w)) hX (by omega) (by omega) aNow dX5_set_53 rfl ?_
      refine v_iload_n (q := 55) hX dX5_set_54 rfl rfl rfl ?_
      refine v_ireturn hX hRX rfl (by first | rfl | exact bi_nar _) dX5_set_55 rfl ?_
      exact ⟨rfl, rfl, xu_xw _ _ _ _⟩
    · exact absurd h27 (by omega)

set_option maxRecDepth 100000 in
set_option maxHeartbeats 4000000 in
theorem c_X5_family_no {z : Nat} (D : xD) (r : xR) (hr : xRM r) (a b : Int) (ha : xI a) (hb : xI b) (he : a < 0 ∨ 3 < a) : MX 2 mX5_family [.ref 351, vi a, vi b] (356, z) D r (356, z) (xP (vi (-1)) D r) := by
  refine MX.of (by decide +kernel) [some (.ref 351), some (vi a), some (vi b), none] rfl (Nat.le_of_ble_eq_true rfl) ?_
  intro γ hX hRX
  refine v_iload_n (q := 1) hX dX5_family_0 rfl rfl rfl ?_
  refine v_i2l (q := 2) hX ha dX5_family_1 rfl ?_
  refine v_lconst (q := 3) (e := 0) hX (by decide) dX5_family_2 rfl ?_
  refine v_ldc2 (q := 6) (e := 3) hX (by decide) kl_X5_33 dX5_family_3 rfl ?_
  refine w_callS (q := 9) hX (c_X5_isIn _ _ _ _ _ ⟨by omega, by omega⟩ ⟨by omega, by omega⟩ ⟨by omega, by omega⟩) rfl kS_X5_isIn rfl (by decide) lk_X5_35 (Nat.le_of_ble_eq_true rfl) dX5_family_6 rfl ?_
  refine w_ifne (q := 12) (tgt := 14) hX dX5_family_9 (by decide) rfl (fun h9 => ?_) (fun h9 => ?_)
  · exact absurd h9 (by omega)
  · refine v_iconst (q := 13) hX dX5_family_12 rfl ?_
    refine v_ireturn hX hRX rfl (by first | rfl | exact bi_nar _) dX5_family_13 rfl ?_
    exact ⟨rfl, rfl, rfl⟩

set_option maxRecDepth 100000 in
set_option maxHeartbeats 4000000 in
theorem c_X5_family_bad {z : Nat} (D : xD) (r : xR) (hr : xRM r) (a b : Int) (ha : xI a) (hb : xI b) (he : 0 ≤ a ∧ a ≤ 3) (he2 : b < 0 ∨ 50 < b) : MX 2 mX5_family [.ref 351, vi a, vi b] (356, z) D r (356, z) (xP (vi (-2)) D r) := by
  refine MX.of (by decide +kernel) [some (.ref 351), some (vi a), some (vi b), none] rfl (Nat.le_of_ble_eq_true rfl) ?_
  intro γ hX hRX
  refine v_iload_n (q := 1) hX dX5_family_0 rfl rfl rfl ?_
  refine v_i2l (q := 2) hX ha dX5_family_1 rfl ?_
  refine v_lconst (q := 3) (e := 0) hX (by decide) dX5_family_2 rfl ?_
  refine v_ldc2 (q := 6) (e := 3) hX (by decide) kl_X5_33 dX5_family_3 rfl ?_
  refine w_callS (q := 9) hX (c_X5_isIn _ _ _ _ _ ⟨by omega, by omega⟩ ⟨by omega, by omega⟩ ⟨by omega, by omega⟩) rfl kS_X5_isIn rfl (by decide) lk_X5_35 (Nat.le_of_ble_eq_true rfl) dX5_family_6 rfl ?_
  refine w_ifne (q := 12) (tgt := 14) hX dX5_family_9 (by decide) rfl (fun h9 => ?_) (fun h9 => ?_)
  · refine v_iload_n (q := 15) hX dX5_family_14 rfl rfl rfl ?_
    refine v_i2l (q := 16) hX hb dX5_family_15 rfl ?_
    refine v_lconst (q := 17) (e := 0) hX (by decide) dX5_family_16 rfl ?_
    refine v_ldc2 (q := 20) (e := 50) hX (by decide) kl_X5_29 dX5_family_17 rfl ?_
    refine w_callS (q := 23) hX (c_X5_isIn _ _ _ _ _ ⟨by omega, by omega⟩ ⟨by omega, by omega⟩ ⟨by omega, by omega⟩) rfl kS_X5_isIn rfl (by decide) lk_X5_35 (Nat.le_of_ble_eq_true rfl) dX5_family_20 rfl ?_
    refine w_ifne (q := 26) (tgt := 29) hX dX5_family_23 (by decide) rfl (fun h23 => ?_) (fun h23 => ?_)
    · exact absurd h23 (by omega)
    · refine v_bipush (q := 28) hX (by decide) dX5_family_26 rfl ?_
      refine v_ireturn hX hRX rfl (by first | rfl | exact bi_nar _) dX5_family_28 rfl ?_
      exact ⟨rfl, rfl, rfl⟩
  · exact absurd h9 (by omega)

def fmD (D : xD) (f : Nat) (b : Int) : xD := xw (rcD D) 352 (fu (D 352) (14 + f) b)
set_option maxRecDepth 100000 in
set_option maxHeartbeats 4000000 in
theorem c_X5_family {z : Nat} (D : xD) (r : xR) (hr : xRM r) (hs0 : 0 ≤ D 351 3 ∧ D 351 3 ≤ 6) (f : Nat) (b : Int) (hf : f < 4) (he2 : 0 ≤ b ∧ b ≤ 50) : MX 2 mX5_family [.ref 351, vi f, vi b] (356, z) D r (356, z) (xEs (vi (D 352 (14 + f))) (fun D' => D' = fmD D f b) r) := by
  refine MX.of (by decide +kernel) [some (.ref 351), some (vi f), some (vi b), none] rfl (Nat.le_of_ble_eq_true rfl) ?_
  intro γ hX hRX
  refine v_iload_n (q := 1) hX dX5_family_0 rfl rfl rfl ?_
  refine v_i2l (q := 2) hX ⟨by omega, by omega⟩ dX5_family_1 rfl ?_
  refine v_lconst (q := 3) (e := 0) hX (by decide) dX5_family_2 rfl ?_
  refine v_ldc2 (q := 6) (e := 3) hX (by decide) kl_X5_33 dX5_family_3 rfl ?_
  refine w_callS (q := 9) hX (c_X5_isIn _ _ _ _ _ ⟨by omega, by omega⟩ ⟨by omega, by omega⟩ ⟨by omega, by omega⟩) rfl kS_X5_isIn rfl (by decide) lk_X5_35 (Nat.le_of_ble_eq_true rfl) dX5_family_6 rfl ?_
  refine w_ifne (q := 12) (tgt := 14) hX dX5_family_9 (by decide) rfl (fun h9 => ?_) (fun h9 => ?_)
  · refine v_iload_n (q := 15) hX dX5_family_14 rfl rfl rfl ?_
    refine v_i2l (q := 16) hX ⟨by omega, by omega⟩ dX5_family_15 rfl ?_
    refine v_lconst (q := 17) (e := 0) hX (by decide) dX5_family_16 rfl ?_
    refine v_ldc2 (q := 20) (e := 50) hX (by decide) kl_X5_29 dX5_family_17 rfl ?_
    refine w_callS (q := 23) hX (c_X5_isIn _ _ _ _ _ ⟨by omega, by omega⟩ ⟨by omega, by omega⟩ ⟨by omega, by omega⟩) rfl kS_X5_isIn rfl (by decide) lk_X5_35 (Nat.le_of_ble_eq_true rfl) dX5_family_20 rfl ?_
    refine w_ifne (q := 26) (tgt := 29) hX dX5_family_23 (by decide) rfl (fun h23 => ?_) (fun h23 => ?_)
    · refine v_aload_n (q := 30) hX dX5_family_29 rfl rfl rfl ?_
      refine w_callVn (q := 33) hX (c_X5_records _ _ hr hs0) rfl kV_X5_records rfl (by decide) lk_X5_56 (by decide) rfl oX5 (Nat.le_of_ble_eq_true rfl) dX5_family_30 rfl (fun D1 hD1 => ?_)
      subst hD1
      refine v_aload_n (q := 34) hX dX5_family_33 rfl rfl rfl ?_
      refine w_getR (q := 37) hX fl_X5_7 rfl oX5 hr.1 dX5_family_34 rfl ?_
      refine v_bipush (q := 39) hX (by decide) dX5_family_37 rfl ?_
      refine v_iload_n (q := 40) hX dX5_family_39 rfl rfl rfl ?_
      refine v_iadd (q := 41) hX dX5_family_40 rfl ?_
      refine w_lld (q := 42) (kk := (14 + f)) hX (by omega) (by omega) aNow dX5_family_41 rfl ?_
      refine v_l2i (q := 43) hX dX5_family_42 rfl ?_
      refine v_istore_n (q := 44) hX dX5_family_43 rfl (Nat.le_of_ble_eq_true rfl) (Nat.le_of_ble_eq_true rfl) rfl ?_
      dsimp only [xs1, xs2, xclr]
      refine v_aload_n (q := 45) hX dX5_family_44 rfl rfl rfl ?_
      refine w_getR (q := 48) hX fl_X5_7 rfl oX5 hr.1 dX5_family_45 rfl ?_
      refine v_bipush (q := 50) hX (by decide) dX5_family_48 rfl ?_
      refine v_iload_n (q := 51) hX dX5_family_50 rfl rfl rfl ?_
      refine v_iadd (q := 52) hX dX5_family_51 rfl ?_
      refine v_iload_n (q := 53) hX dX5_family_52 rfl rfl rfl ?_
      refine v_i2l (q := 54) hX ⟨by omega, by omega⟩ dX5_family_53 rfl ?_
      refine w_lst (q := 55) (kk := (14 + f)) hX (by omega) (by omega) aNow dX5_family_54 rfl ?_
      refine v_iload_n (q := 56) hX dX5_family_55 rfl rfl rfl ?_
      refine v_ireturn hX hRX rfl (by first | rfl | exact bi_nar _) dX5_family_56 rfl ?_
      exact ⟨rfl, rfl, xu_xw _ _ _ _⟩
    · exact absurd h23 (by omega)
  · exact absurd h9 (by omega)

def eF (np : Nat) (p w u : Int) : Int := if (0 ≤ p ∧ p < np) ∧ 0 ≤ w ∧ w < 12 then (if 0 ≤ u ∧ u ≤ 1000 then 0 else -2) else -1
def eA (np : Nat) (p u : Int) : Int := if 0 ≤ p ∧ p < np then (if u = -6 ∨ (0 ≤ u ∧ u ≤ 2000) then 0 else -2) else -1
set_option maxRecDepth 100000 in
set_option maxHeartbeats 4000000 in
theorem c_X5_forecastError {z : Nat} (D : xD) (r : xR) (hr : xRM r) {np : Nat} (hn : D 352 1 = (np : Int) ∧ np ≤ 10) (p w u : Int) (hp : xI p) (hw : xI w) (hu : xI u) : MX 2 mX5_forecastError [.ref 351, vi p, vi w, vi u] (356, z) D r (356, z) (xP (vi (eF np p w u)) D r) := by
  refine MX.of (by decide +kernel) [some (.ref 351), some (vi p), some (vi w), some (vi u)] rfl (Nat.le_of_ble_eq_true rfl) ?_
  intro γ hX hRX
  refine v_aload_n (q := 1) hX dX5_forecastError_0 rfl rfl rfl ?_
  refine v_iload_n (q := 2) hX dX5_forecastError_1 rfl rfl rfl ?_
  refine w_callV (q := 5) hX (c_X5_isProduct _ _ hr _ ⟨by omega, by omega⟩ (by omega)) rfl kV_X5_isProduct rfl (by decide) lk_X5_127 (by decide) rfl oX5 (Nat.le_of_ble_eq_true rfl) dX5_forecastError_2 rfl ?_
  refine w_ifeq (q := 8) (tgt := 15) hX dX5_forecastError_5 (by decide) rfl (fun h5 => ?_) (fun h5 => ?_)
  · refine v_iconst (q := 16) hX dX5_forecastError_15 rfl ?_
    refine v_ireturn hX hRX rfl (by first | rfl | exact bi_nar _) dX5_forecastError_16 rfl ?_
    refine ⟨congrArg (fun e => some (vi e)) ?_, rfl, rfl⟩
    unfold eF
    repeat (first | rw [if_pos (by omega)] | rw [if_neg (by omega)])
  · refine v_iload_n (q := 9) hX dX5_forecastError_8 rfl rfl rfl ?_
    refine w_callS (q := 12) hX (c_X5_isWeek _ _ _ ⟨by omega, by omega⟩) rfl kS_X5_isWeek rfl (by decide) lk_X5_131 (Nat.le_of_ble_eq_true rfl) dX5_forecastError_9 rfl ?_
    refine w_ifne (q := 15) (tgt := 17) hX dX5_forecastError_12 (by decide) rfl (fun h12 => ?_) (fun h12 => ?_)
    · refine v_iload_n (q := 18) hX dX5_forecastError_17 rfl rfl rfl ?_
      refine v_i2l (q := 19) hX hu dX5_forecastError_18 rfl ?_
      refine v_lconst (q := 20) (e := 0) hX (by decide) dX5_forecastError_19 rfl ?_
      refine v_ldc2 (q := 23) (e := 1000) hX (by decide) kl_X5_96 dX5_forecastError_20 rfl ?_
      refine w_callS (q := 26) hX (c_X5_isIn _ _ _ _ _ ⟨by omega, by omega⟩ ⟨by omega, by omega⟩ ⟨by omega, by omega⟩) rfl kS_X5_isIn rfl (by decide) lk_X5_35 (Nat.le_of_ble_eq_true rfl) dX5_forecastError_23 rfl ?_
      refine w_ifeq (q := 29) (tgt := 33) hX dX5_forecastError_26 (by decide) rfl (fun h26 => ?_) (fun h26 => ?_)
      · refine v_bipush (q := 35) hX (by decide) dX5_forecastError_33 rfl ?_
        refine v_ireturn hX hRX rfl (by first | rfl | exact bi_nar _) dX5_forecastError_35 rfl ?_
        refine ⟨congrArg (fun e => some (vi e)) ?_, rfl, rfl⟩
        unfold eF
        repeat (first | rw [if_pos (by omega)] | rw [if_neg (by omega)])
      · refine v_iconst (q := 30) hX dX5_forecastError_29 rfl ?_
        refine v_goto (tgt := 35) hX dX5_forecastError_30 (by decide) ?_
        refine v_ireturn hX hRX rfl (by first | rfl | exact bi_nar _) dX5_forecastError_35 rfl ?_
        refine ⟨congrArg (fun e => some (vi e)) ?_, rfl, rfl⟩
        unfold eF
        repeat (first | rw [if_pos (by omega)] | rw [if_neg (by omega)])
    · refine v_iconst (q := 16) hX dX5_forecastError_15 rfl ?_
      refine v_ireturn hX hRX rfl (by first | rfl | exact bi_nar _) dX5_forecastError_16 rfl ?_
      refine ⟨congrArg (fun e => some (vi e)) ?_, rfl, rfl⟩
      unfold eF
      repeat (first | rw [if_pos (by omega)] | rw [if_neg (by omega)])

set_option maxRecDepth 100000 in
set_option maxHeartbeats 4000000 in
theorem c_X5_actualError {z : Nat} (D : xD) (r : xR) (hr : xRM r) {np : Nat} (hn : D 352 1 = (np : Int) ∧ np ≤ 10) (p u : Int) (hp : xI p) (hu : xI u) : MX 2 mX5_actualError [.ref 351, vi p, vi u] (356, z) D r (356, z) (xP (vi (eA np p u)) D r) := by
  refine MX.of (by decide +kernel) [some (.ref 351), some (vi p), some (vi u)] rfl (Nat.le_of_ble_eq_true rfl) ?_
  intro γ hX hRX
  refine v_aload_n (q := 1) hX dX5_actualError_0 rfl rfl rfl ?_
  refine v_iload_n (q := 2) hX dX5_actualError_1 rfl rfl rfl ?_
  refine w_callV (q := 5) hX (c_X5_isProduct _ _ hr _ ⟨by omega, by omega⟩ (by omega)) rfl kV_X5_isProduct rfl (by decide) lk_X5_127 (by decide) rfl oX5 (Nat.le_of_ble_eq_true rfl) dX5_actualError_2 rfl ?_
  refine w_ifne (q := 8) (tgt := 10) hX dX5_actualError_5 (by decide) rfl (fun h5 => ?_) (fun h5 => ?_)
  · refine v_iload_n (q := 11) hX dX5_actualError_10 rfl rfl rfl ?_
    refine v_bipush (q := 13) hX (by decide) dX5_actualError_11 rfl ?_
    refine v_icmp_eq (q := 16) (tgt := 28) hX hu (by decide) dX5_actualError_13 (by decide) rfl (fun h13 => ?_) (fun h13 => ?_)
    · refine v_iconst (q := 29) hX dX5_actualError_28 rfl ?_
      refine v_goto (tgt := 34) hX dX5_actualError_29 (by decide) ?_
      refine v_ireturn hX hRX rfl (by first | rfl | exact bi_nar _) dX5_actualError_34 rfl ?_
      refine ⟨congrArg (fun e => some (vi e)) ?_, rfl, rfl⟩
      unfold eA
      repeat (first | rw [if_pos (by omega)] | rw [if_neg (by omega)])
    · refine v_iload_n (q := 17) hX dX5_actualError_16 rfl rfl rfl ?_
      refine v_i2l (q := 18) hX hu dX5_actualError_17 rfl ?_
      refine v_lconst (q := 19) (e := 0) hX (by decide) dX5_actualError_18 rfl ?_
      refine v_ldc2 (q := 22) (e := 2000) hX (by decide) kl_X5_141 dX5_actualError_19 rfl ?_
      refine w_callS (q := 25) hX (c_X5_isIn _ _ _ _ _ ⟨by omega, by omega⟩ ⟨by omega, by omega⟩ ⟨by omega, by omega⟩) rfl kS_X5_isIn rfl (by decide) lk_X5_35 (Nat.le_of_ble_eq_true rfl) dX5_actualError_22 rfl ?_
      refine w_ifeq (q := 28) (tgt := 32) hX dX5_actualError_25 (by decide) rfl (fun h25 => ?_) (fun h25 => ?_)
      · refine v_bipush (q := 34) hX (by decide) dX5_actualError_32 rfl ?_
        refine v_ireturn hX hRX rfl (by first | rfl | exact bi_nar _) dX5_actualError_34 rfl ?_
        refine ⟨congrArg (fun e => some (vi e)) ?_, rfl, rfl⟩
        unfold eA
        repeat (first | rw [if_pos (by omega)] | rw [if_neg (by omega)])
      · refine v_iconst (q := 29) hX dX5_actualError_28 rfl ?_
        refine v_goto (tgt := 34) hX dX5_actualError_29 (by decide) ?_
        refine v_ireturn hX hRX rfl (by first | rfl | exact bi_nar _) dX5_actualError_34 rfl ?_
        refine ⟨congrArg (fun e => some (vi e)) ?_, rfl, rfl⟩
        unfold eA
        repeat (first | rw [if_pos (by omega)] | rw [if_neg (by omega)])
  · refine v_iconst (q := 9) hX dX5_actualError_8 rfl ?_
    refine v_ireturn hX hRX rfl (by first | rfl | exact bi_nar _) dX5_actualError_9 rfl ?_
    refine ⟨congrArg (fun e => some (vi e)) ?_, rfl, rfl⟩
    unfold eA
    repeat (first | rw [if_pos (by omega)] | rw [if_neg (by omega)])

set_option maxRecDepth 100000 in
set_option maxHeartbeats 4000000 in
theorem c_X5_forecasts {z : Nat} (D : xD) (r : xR) (hr : xRM r) (p w : Nat) (u : Int) (hp : p < 10) (hw : w < 12) (hu : xI u) : MX 1 mX5_forecasts [.ref 351, vi p, vi w, vi u] (356, z) D r (356, z) (xEs (vi (pF (D 352) p (12 + w))) (fun D' => D' = xw D 352 (fu (D 352) (18 + 36 * p + (12 + w)) u)) r) := by
  refine MX.of (by decide +kernel) [some (.ref 351), some (vi p), some (vi w), some (vi u), none] rfl (Nat.le_of_ble_eq_true rfl) ?_
  intro γ hX hRX
  refine v_aload_n (q := 1) hX dX5_forecasts_0 rfl rfl rfl ?_
  refine v_iload_n (q := 2) hX dX5_forecasts_1 rfl rfl rfl ?_
  refine v_bipush (q := 4) hX (by decide) dX5_forecasts_2 rfl ?_
  refine v_iload_n (q := 5) hX dX5_forecasts_4 rfl rfl rfl ?_
  refine v_iadd (q := 6) hX dX5_forecasts_5 rfl ?_
  refine w_callV (q := 9) hX (c_X5_ofP _ _ hr (p) ((12 + w)) (by omega)) rfl kV_X5_ofP rfl (by decide) lk_X5_78 (by decide) rfl oX5 (Nat.le_of_ble_eq_true rfl) dX5_forecasts_6 rfl ?_
  refine v_l2i (q := 10) hX dX5_forecasts_9 rfl ?_
  refine v_istore (q := 12) hX dX5_forecasts_10 (Nat.le_of_ble_eq_true rfl) (Nat.le_of_ble_eq_true rfl) rfl ?_
  dsimp only [xs1, xs2, xclr]
  refine v_aload_n (q := 13) hX dX5_forecasts_12 rfl rfl rfl ?_
  refine v_iload_n (q := 14) hX dX5_forecasts_13 rfl rfl rfl ?_
  refine v_bipush (q := 16) hX (by decide) dX5_forecasts_14 rfl ?_
  refine v_iload_n (q := 17) hX dX5_forecasts_16 rfl rfl rfl ?_
  refine v_iadd (q := 18) hX dX5_forecasts_17 rfl ?_
  refine v_iload_n (q := 19) hX dX5_forecasts_18 rfl rfl rfl ?_
  refine v_i2l (q := 20) hX hu dX5_forecasts_19 rfl ?_
  refine w_callVn (q := 23) hX (c_X5_becomes _ _ hr (p) ((12 + w)) _ (by omega)) rfl kV_X5_becomes rfl (by decide) lk_X5_72 (by decide) rfl oX5 (Nat.le_of_ble_eq_true rfl) dX5_forecasts_20 rfl (fun D1 hD1 => ?_)
  subst hD1
  refine v_iload (q := 25) hX dX5_forecasts_23 rfl rfl ?_
  refine v_ireturn hX hRX rfl (by first | rfl | exact bi_nar _) dX5_forecasts_25 rfl ?_
  exact ⟨rfl, rfl, rfl⟩

set_option maxRecDepth 100000 in
set_option maxHeartbeats 4000000 in
theorem c_X5_plansLots {z : Nat} (D : xD) (r : xR) (hr : xRM r) (p w : Nat) (u : Int) (hp : p < 10) (hw : w < 12) (hu : xI u) : MX 1 mX5_plansLots [.ref 351, vi p, vi w, vi u] (356, z) D r (356, z) (xEs (vi (pF (D 352) p (24 + w))) (fun D' => D' = xw D 352 (fu (D 352) (18 + 36 * p + (24 + w)) u)) r) := by
  refine MX.of (by decide +kernel) [some (.ref 351), some (vi p), some (vi w), some (vi u), none] rfl (Nat.le_of_ble_eq_true rfl) ?_
  intro γ hX hRX
  refine v_aload_n (q := 1) hX dX5_plansLots_0 rfl rfl rfl ?_
  refine v_iload_n (q := 2) hX dX5_plansLots_1 rfl rfl rfl ?_
  refine v_bipush (q := 4) hX (by decide) dX5_plansLots_2 rfl ?_
  refine v_iload_n (q := 5) hX dX5_plansLots_4 rfl rfl rfl ?_
  refine v_iadd (q := 6) hX dX5_plansLots_5 rfl ?_
  refine w_callV (q := 9) hX (c_X5_ofP _ _ hr (p) ((24 + w)) (by omega)) rfl kV_X5_ofP rfl (by decide) lk_X5_78 (by decide) rfl oX5 (Nat.le_of_ble_eq_true rfl) dX5_plansLots_6 rfl ?_
  refine v_l2i (q := 10) hX dX5_plansLots_9 rfl ?_
  refine v_istore (q := 12) hX dX5_plansLots_10 (Nat.le_of_ble_eq_true rfl) (Nat.le_of_ble_eq_true rfl) rfl ?_
  dsimp only [xs1, xs2, xclr]
  refine v_aload_n (q := 13) hX dX5_plansLots_12 rfl rfl rfl ?_
  refine v_iload_n (q := 14) hX dX5_plansLots_13 rfl rfl rfl ?_
  refine v_bipush (q := 16) hX (by decide) dX5_plansLots_14 rfl ?_
  refine v_iload_n (q := 17) hX dX5_plansLots_16 rfl rfl rfl ?_
  refine v_iadd (q := 18) hX dX5_plansLots_17 rfl ?_
  refine v_iload_n (q := 19) hX dX5_plansLots_18 rfl rfl rfl ?_
  refine v_i2l (q := 20) hX hu dX5_plansLots_19 rfl ?_
  refine w_callVn (q := 23) hX (c_X5_becomes _ _ hr (p) ((24 + w)) _ (by omega)) rfl kV_X5_becomes rfl (by decide) lk_X5_72 (by decide) rfl oX5 (Nat.le_of_ble_eq_true rfl) dX5_plansLots_20 rfl (fun D1 hD1 => ?_)
  subst hD1
  refine v_iload (q := 25) hX dX5_plansLots_23 rfl rfl ?_
  refine v_ireturn hX hRX rfl (by first | rfl | exact bi_nar _) dX5_plansLots_25 rfl ?_
  exact ⟨rfl, rfl, rfl⟩

set_option maxRecDepth 100000 in
set_option maxHeartbeats 4000000 in
theorem c_X5_tells {z : Nat} (D : xD) (r : xR) (hr : xRM r) (p : Nat) (u : Int) (hp : p < 10) (hu : xI u) : MX 1 mX5_tells [.ref 351, vi p, vi u] (356, z) D r (356, z) (xEs (vi (pF (D 352) p 7)) (fun D' => D' = xw D 352 (fu (D 352) (18 + 36 * p + 7) u)) r) := by
  refine MX.of (by decide +kernel) [some (.ref 351), some (vi p), some (vi u), none] rfl (Nat.le_of_ble_eq_true rfl) ?_
  intro γ hX hRX
  refine v_aload_n (q := 1) hX dX5_tells_0 rfl rfl rfl ?_
  refine v_iload_n (q := 2) hX dX5_tells_1 rfl rfl rfl ?_
  refine v_bipush (q := 4) hX (by decide) dX5_tells_2 rfl ?_
  refine w_callV (q := 7) hX (c_X5_ofP _ _ hr (p) (7) (by omega)) rfl kV_X5_ofP rfl (by decide) lk_X5_78 (by decide) rfl oX5 (Nat.le_of_ble_eq_true rfl) dX5_tells_4 rfl ?_
  refine v_l2i (q := 8) hX dX5_tells_7 rfl ?_
  refine v_istore_n (q := 9) hX dX5_tells_8 rfl (Nat.le_of_ble_eq_true rfl) (Nat.le_of_ble_eq_true rfl) rfl ?_
  dsimp only [xs1, xs2, xclr]
  refine v_aload_n (q := 10) hX dX5_tells_9 rfl rfl rfl ?_
  refine v_iload_n (q := 11) hX dX5_tells_10 rfl rfl rfl ?_
  refine v_bipush (q := 13) hX (by decide) dX5_tells_11 rfl ?_
  refine v_iload_n (q := 14) hX dX5_tells_13 rfl rfl rfl ?_
  refine v_i2l (q := 15) hX hu dX5_tells_14 rfl ?_
  refine w_callVn (q := 18) hX (c_X5_becomes _ _ hr (p) (7) _ (by omega)) rfl kV_X5_becomes rfl (by decide) lk_X5_72 (by decide) rfl oX5 (Nat.le_of_ble_eq_true rfl) dX5_tells_15 rfl (fun D1 hD1 => ?_)
  subst hD1
  refine v_iload_n (q := 19) hX dX5_tells_18 rfl rfl rfl ?_
  refine v_ireturn hX hRX rfl (by first | rfl | exact bi_nar _) dX5_tells_19 rfl ?_
  exact ⟨rfl, rfl, rfl⟩

def nSet (N : Nat → Int) (p w : Nat) (u : Int) : Nat → Int := fu N (18 + 36 * p + (24 + w)) u
def eL (N : Nat → Int) (np : Nat) (p w u : Int) : Int := if (0 ≤ p ∧ p < np) ∧ 0 ≤ w ∧ w < 12 then (if 0 ≤ u ∧ u ≤ 1000 then
    (if w < N 7 ∨ (N 5 + N 6 < nHours (nSet N p.toNat w.toNat u) np w.toNat ∧ nHours N np w.toNat < nHours (nSet N p.toNat w.toNat u) np w.toNat) then -5 else 0) else -2) else -1
theorem nSet_back (N : Nat → Int) (p w : Nat) (u : Int) : fu (nSet N p w u) (18 + 36 * p + (24 + w)) (pF N p (24 + w)) = N := by
  unfold nSet
  rw [fu_fu]
  funext i
  unfold fu
  split
  · rename_i h; subst h; rfl
  · rfl
set_option maxRecDepth 100000 in
set_option maxHeartbeats 4000000 in
theorem c_X5_lotsError {z : Nat} (D : xD) (r : xR) (hr : xRM r) {B : Int} {np : Nat} (hO : nOk B np (D 352)) (p w u : Int) (hp : xI p) (hw : xI w) (hu : xI u) : MX 4 mX5_lotsError [.ref 351, vi p, vi w, vi u] (356, z) D r (356, z) (xP (vi (eL (D 352) np p w u)) D r) := by
  refine MX.of (by decide +kernel) [some (.ref 351), some (vi p), some (vi w), some (vi u), none, none, none, none, none, none] rfl (Nat.le_of_ble_eq_true rfl) ?_
  intro γ hX hRX
  have hn := hO.np
  have hs := hO.2.2.2.1
  refine v_aload_n (q := 1) hX dX5_lotsError_0 rfl rfl rfl ?_
  refine v_iload_n (q := 2) hX dX5_lotsError_1 rfl rfl rfl ?_
  refine w_callV (q := 5) hX (c_X5_isProduct _ _ hr _ ⟨by omega, by omega⟩ (by omega)) rfl kV_X5_isProduct rfl (by decide) lk_X5_127 (by decide) rfl oX5 (Nat.le_of_ble_eq_true rfl) dX5_lotsError_2 rfl ?_
  try simp only [xw_at, xw_xw]
  refine w_ifeq (q := 8) (tgt := 15) hX dX5_lotsError_5 (by decide) rfl (fun h5 => ?_) (fun h5 => ?_)
  · refine v_iconst (q := 16) hX dX5_lotsError_15 rfl ?_
    refine v_ireturn hX hRX rfl (by first | rfl | exact bi_nar _) dX5_lotsError_16 rfl ?_
    refine ⟨congrArg (fun e => some (vi e)) ?_, rfl, rfl⟩
    unfold eL
    try simp only [Int.toNat_natCast]
    repeat (first | rw [if_pos (by omega)] | rw [if_neg (by omega)])
  · refine v_iload_n (q := 9) hX dX5_lotsError_8 rfl rfl rfl ?_
    refine w_callS (q := 12) hX (c_X5_isWeek _ _ _ ⟨by omega, by omega⟩) rfl kS_X5_isWeek rfl (by decide) lk_X5_131 (Nat.le_of_ble_eq_true rfl) dX5_lotsError_9 rfl ?_
    try simp only [xw_at, xw_xw]
    refine w_ifne (q := 15) (tgt := 17) hX dX5_lotsError_12 (by decide) rfl (fun h12 => ?_) (fun h12 => ?_)
    · refine v_iload_n (q := 18) hX dX5_lotsError_17 rfl rfl rfl ?_
      refine v_i2l (q := 19) hX hu dX5_lotsError_18 rfl ?_
      refine v_lconst (q := 20) (e := 0) hX (by decide) dX5_lotsError_19 rfl ?_
      refine v_ldc2 (q := 23) (e := 1000) hX (by decide) kl_X5_96 dX5_lotsError_20 rfl ?_
      refine w_callS (q := 26) hX (c_X5_isIn _ _ _ _ _ ⟨by omega, by omega⟩ ⟨by omega, by omega⟩ ⟨by omega, by omega⟩) rfl kS_X5_isIn rfl (by decide) lk_X5_35 (Nat.le_of_ble_eq_true rfl) dX5_lotsError_23 rfl ?_
      try simp only [xw_at, xw_xw]
      refine w_ifne (q := 29) (tgt := 32) hX dX5_lotsError_26 (by decide) rfl (fun h26 => ?_) (fun h26 => ?_)
      · obtain ⟨p, rfl⟩ := Int.eq_ofNat_of_zero_le (show 0 ≤ p by omega)
        obtain ⟨w, rfl⟩ := Int.eq_ofNat_of_zero_le (show 0 ≤ w by omega)
        have hO1 : nOk B np (nSet (D 352) p w u) := hO.put (by omega) (by omega) h26
        have hh1 := nHours_le hO (w := w) (by omega)
        have hh2 := nHours_le hO1 (w := w) (by omega)
        refine v_aload_n (q := 33) hX dX5_lotsError_32 rfl rfl rfl ?_
        refine v_iload_n (q := 34) hX dX5_lotsError_33 rfl rfl rfl ?_
        refine w_callV (q := 37) hX (c_X5_hoursOf _ _ hr hO w (by omega)) rfl kV_X5_hoursOf rfl (by decide) lk_X5_89 (by decide) rfl oX5 (Nat.le_of_ble_eq_true rfl) dX5_lotsError_34 rfl ?_
        try simp only [xw_at, xw_xw]
        refine v_lstore (q := 39) hX dX5_lotsError_37 (Nat.le_of_ble_eq_true rfl) (Nat.le_of_ble_eq_true rfl) rfl ?_
        dsimp only [xs1, xs2, xclr]
        refine v_aload_n (q := 40) hX dX5_lotsError_39 rfl rfl rfl ?_
        refine v_iload_n (q := 41) hX dX5_lotsError_40 rfl rfl rfl ?_
        refine v_bipush (q := 43) hX (by decide) dX5_lotsError_41 rfl ?_
        refine v_iload_n (q := 44) hX dX5_lotsError_43 rfl rfl rfl ?_
        refine v_iadd (q := 45) hX dX5_lotsError_44 rfl ?_
        refine w_callV (q := 48) hX (c_X5_ofP _ _ hr (p) ((24 + w)) (by omega)) rfl kV_X5_ofP rfl (by decide) lk_X5_78 (by decide) rfl oX5 (Nat.le_of_ble_eq_true rfl) dX5_lotsError_45 rfl ?_
        try simp only [xw_at, xw_xw]
        refine v_lstore (q := 50) hX dX5_lotsError_48 (Nat.le_of_ble_eq_true rfl) (Nat.le_of_ble_eq_true rfl) rfl ?_
        dsimp only [xs1, xs2, xclr]
        refine v_aload_n (q := 51) hX dX5_lotsError_50 rfl rfl rfl ?_
        refine v_iload_n (q := 52) hX dX5_lotsError_51 rfl rfl rfl ?_
        refine v_bipush (q := 54) hX (by decide) dX5_lotsError_52 rfl ?_
        refine v_iload_n (q := 55) hX dX5_lotsError_54 rfl rfl rfl ?_
        refine v_iadd (q := 56) hX dX5_lotsError_55 rfl ?_
        refine v_iload_n (q := 57) hX dX5_lotsError_56 rfl rfl rfl ?_
        refine v_i2l (q := 58) hX hu dX5_lotsError_57 rfl ?_
        refine w_callVn (q := 61) hX (c_X5_becomes _ _ hr (p) ((24 + w)) _ (by omega)) rfl kV_X5_becomes rfl (by decide) lk_X5_72 (by decide) rfl oX5 (Nat.le_of_ble_eq_true rfl) dX5_lotsError_58 rfl (fun D1 hD1 => ?_)
        subst hD1
        try simp only [xw_at, xw_xw]
        refine v_aload_n (q := 62) hX dX5_lotsError_61 rfl rfl rfl ?_
        refine v_iload_n (q := 63) hX dX5_lotsError_62 rfl rfl rfl ?_
        refine w_callV (q := 66) hX (c_X5_hoursOf _ _ hr hO1 w (by omega)) rfl kV_X5_hoursOf rfl (by decide) lk_X5_89 (by decide) rfl oX5 (Nat.le_of_ble_eq_true rfl) dX5_lotsError_63 rfl ?_
        try simp only [xw_at, xw_xw]
        rw [show fu (D 352) (18 + 36 * p + (24 + w)) u = nSet (D 352) p w u from rfl]
        refine v_lstore (q := 68) hX dX5_lotsError_66 (Nat.le_of_ble_eq_true rfl) (Nat.le_of_ble_eq_true rfl) rfl ?_
        dsimp only [xs1, xs2, xclr]
        refine v_aload_n (q := 69) hX dX5_lotsError_68 rfl rfl rfl ?_
        refine v_iload_n (q := 70) hX dX5_lotsError_69 rfl rfl rfl ?_
        refine v_bipush (q := 72) hX (by decide) dX5_lotsError_70 rfl ?_
        refine v_iload_n (q := 73) hX dX5_lotsError_72 rfl rfl rfl ?_
        refine v_iadd (q := 74) hX dX5_lotsError_73 rfl ?_
        refine v_lload (q := 76) hX dX5_lotsError_74 rfl rfl ?_
        refine w_callVn (q := 79) hX (c_X5_becomes _ _ hr (p) ((24 + w)) _ (by omega)) rfl kV_X5_becomes rfl (by decide) lk_X5_72 (by decide) rfl oX5 (Nat.le_of_ble_eq_true rfl) dX5_lotsError_76 rfl (fun D1 hD1 => ?_)
        subst hD1
        try simp only [xw_at, xw_xw]
        rw [nSet_back, xw_self]
        refine v_iload_n (q := 80) hX dX5_lotsError_79 rfl rfl rfl ?_
        refine v_aload_n (q := 81) hX dX5_lotsError_80 rfl rfl rfl ?_
        refine w_callV (q := 84) hX (c_X5_fence _ _ hr) rfl kV_X5_fence rfl (by decide) lk_X5_114 (by decide) rfl oX5 (Nat.le_of_ble_eq_true rfl) dX5_lotsError_81 rfl ?_
        try simp only [xw_at, xw_xw]
        refine v_icmp_lt (q := 87) (tgt := 105) hX ⟨by omega, by omega⟩ ⟨by omega, by omega⟩ dX5_lotsError_84 (by decide) rfl (fun h84 => ?_) (fun h84 => ?_)
        · refine v_bipush (q := 107) hX (by decide) dX5_lotsError_105 rfl ?_
          refine v_goto (tgt := 111) hX dX5_lotsError_107 (by decide) ?_
          refine v_ireturn hX hRX rfl (by first | rfl | exact bi_nar _) dX5_lotsError_111 rfl ?_
          refine ⟨congrArg (fun e => some (vi e)) ?_, rfl, rfl⟩
          unfold eL
          try simp only [Int.toNat_natCast]
          repeat (first | rw [if_pos (by omega)] | rw [if_neg (by omega)])
        · refine v_lload (q := 89) hX dX5_lotsError_87 rfl rfl ?_
          refine v_aload_n (q := 90) hX dX5_lotsError_89 rfl rfl rfl ?_
          refine w_callV (q := 93) hX (c_X5_mostHours _ _ hr) rfl kV_X5_mostHours rfl (by decide) lk_X5_92 (by decide) rfl oX5 (Nat.le_of_ble_eq_true rfl) dX5_lotsError_90 rfl ?_
          try simp only [xw_at, xw_xw]
          refine v_lcmp_le (q := 97) (tgt := 110) hX ⟨by omega, by omega⟩ ⟨by omega, by omega⟩ dX5_lotsError_93 dX5_lotsError_94 (by decide) rfl (fun h93 => ?_) (fun h93 => ?_)
          · refine v_iconst (q := 111) hX dX5_lotsError_110 rfl ?_
            refine v_ireturn hX hRX rfl (by first | rfl | exact bi_nar _) dX5_lotsError_111 rfl ?_
            refine ⟨congrArg (fun e => some (vi e)) ?_, rfl, rfl⟩
            unfold eL
            try simp only [Int.toNat_natCast]
            repeat (first | rw [if_pos (by omega)] | rw [if_neg (by omega)])
          · refine v_lload (q := 99) hX dX5_lotsError_97 rfl rfl ?_
            refine v_lload (q := 101) hX dX5_lotsError_99 rfl rfl ?_
            refine v_lcmp_le (q := 105) (tgt := 110) hX ⟨by omega, by omega⟩ ⟨by omega, by omega⟩ dX5_lotsError_101 dX5_lotsError_102 (by decide) rfl (fun h101 => ?_) (fun h101 => ?_)
            · refine v_iconst (q := 111) hX dX5_lotsError_110 rfl ?_
              refine v_ireturn hX hRX rfl (by first | rfl | exact bi_nar _) dX5_lotsError_111 rfl ?_
              refine ⟨congrArg (fun e => some (vi e)) ?_, rfl, rfl⟩
              unfold eL
              try simp only [Int.toNat_natCast]
              repeat (first | rw [if_pos (by omega)] | rw [if_neg (by omega)])
            · refine v_bipush (q := 107) hX (by decide) dX5_lotsError_105 rfl ?_
              refine v_goto (tgt := 111) hX dX5_lotsError_107 (by decide) ?_
              refine v_ireturn hX hRX rfl (by first | rfl | exact bi_nar _) dX5_lotsError_111 rfl ?_
              refine ⟨congrArg (fun e => some (vi e)) ?_, rfl, rfl⟩
              unfold eL
              try simp only [Int.toNat_natCast]
              repeat (first | rw [if_pos (by omega)] | rw [if_neg (by omega)])
      · refine v_bipush (q := 31) hX (by decide) dX5_lotsError_29 rfl ?_
        refine v_ireturn hX hRX rfl (by first | rfl | exact bi_nar _) dX5_lotsError_31 rfl ?_
        refine ⟨congrArg (fun e => some (vi e)) ?_, rfl, rfl⟩
        unfold eL
        try simp only [Int.toNat_natCast]
        repeat (first | rw [if_pos (by omega)] | rw [if_neg (by omega)])
    · refine v_iconst (q := 16) hX dX5_lotsError_15 rfl ?_
      refine v_ireturn hX hRX rfl (by first | rfl | exact bi_nar _) dX5_lotsError_16 rfl ?_
      refine ⟨congrArg (fun e => some (vi e)) ?_, rfl, rfl⟩
      unfold eL
      try simp only [Int.toNat_natCast]
      repeat (first | rw [if_pos (by omega)] | rw [if_neg (by omega)])

theorem eF_le (np : Nat) (p w u : Int) : -2 ≤ eF np p w u ∧ eF np p w u ≤ 0 := by unfold eF; repeat' split <;> omega
theorem eA_le (np : Nat) (p u : Int) : -2 ≤ eA np p u ∧ eA np p u ≤ 0 := by unfold eA; repeat' split <;> omega
theorem eL_le (N : Nat → Int) (np : Nat) (p w u : Int) : -5 ≤ eL N np p w u ∧ eL N np p w u ≤ 0 := by unfold eL; repeat' split <;> omega
def fcD (D : xD) (p w : Nat) (u : Int) : xD := xw (rcD D) 352 (fu (D 352) (18 + 36 * p + (12 + w)) u)
def acD (D : xD) (p : Nat) (u : Int) : xD := xw (rcD D) 352 (fu (D 352) (18 + 36 * p + 7) u)
def loD (D : xD) (p w : Nat) (u : Int) : xD := xw (rcD D) 352 (nSet (D 352) p w u)
set_option maxRecDepth 100000 in
set_option maxHeartbeats 4000000 in
theorem c_X5_forecast_err {z : Nat} (D : xD) (r : xR) (hr : xRM r) {np : Nat} (hn : D 352 1 = (np : Int) ∧ np ≤ 10) (p w u : Int) (hp : xI p) (hw : xI w) (hu : xI u) (he : eF np p w u ≠ 0) : MX 3 mX5_forecast [.ref 351, vi p, vi w, vi u] (356, z) D r (356, z) (xP (vi (eF np p w u)) D r) := by
  refine MX.of (by decide +kernel) [some (.ref 351), some (vi p), some (vi w), some (vi u), none] rfl (Nat.le_of_ble_eq_true rfl) ?_
  intro γ hX hRX
  have hle := eF_le np p w u
  refine v_aload_n (q := 1) hX dX5_forecast_0 rfl rfl rfl ?_
  refine v_iload_n (q := 2) hX dX5_forecast_1 rfl rfl rfl ?_
  refine v_iload_n (q := 3) hX dX5_forecast_2 rfl rfl rfl ?_
  refine v_iload_n (q := 4) hX dX5_forecast_3 rfl rfl rfl ?_
  refine w_callV (q := 7) hX (c_X5_forecastError _ _ hr hn _ _ _ ⟨by omega, by omega⟩ ⟨by omega, by omega⟩ ⟨by omega, by omega⟩) rfl kV_X5_forecastError rfl (by decide) lk_X5_134 (by decide) rfl oX5 (Nat.le_of_ble_eq_true rfl) dX5_forecast_4 rfl ?_
  refine v_istore (q := 9) hX dX5_forecast_7 (Nat.le_of_ble_eq_true rfl) (Nat.le_of_ble_eq_true rfl) rfl ?_
  dsimp only [xs1, xs2, xclr]
  refine v_iload (q := 11) hX dX5_forecast_9 rfl rfl ?_
  refine v_if_eq (q := 14) (tgt := 17) hX ⟨by omega, by omega⟩ dX5_forecast_11 (by decide) rfl (fun h11 => ?_) (fun h11 => ?_)
  · exact absurd h11 he
  · refine v_iload (q := 16) hX dX5_forecast_14 rfl rfl ?_
    refine v_ireturn hX hRX rfl (by first | rfl | exact bi_nar _) dX5_forecast_16 rfl ?_
    exact ⟨rfl, rfl, rfl⟩

set_option maxRecDepth 100000 in
set_option maxHeartbeats 4000000 in
theorem c_X5_forecast {z : Nat} (D : xD) (r : xR) (hr : xRM r) {np : Nat} (hn : D 352 1 = (np : Int) ∧ np ≤ 10) (hs0 : 0 ≤ D 351 3 ∧ D 351 3 ≤ 6) (p w : Nat) (u : Int) (hp : p < np) (hw : w < 12) (hu : xI u) (he : eF np p w u = 0) : MX 3 mX5_forecast [.ref 351, vi p, vi w, vi u] (356, z) D r (356, z) (xEs (vi (pF (D 352) p (12 + w))) (fun D' => D' = fcD D p w u) r) := by
  refine MX.of (by decide +kernel) [some (.ref 351), some (vi p), some (vi w), some (vi u), none] rfl (Nat.le_of_ble_eq_true rfl) ?_
  intro γ hX hRX
  have hle := eF_le np p w u
  refine v_aload_n (q := 1) hX dX5_forecast_0 rfl rfl rfl ?_
  refine v_iload_n (q := 2) hX dX5_forecast_1 rfl rfl rfl ?_
  refine v_iload_n (q := 3) hX dX5_forecast_2 rfl rfl rfl ?_
  refine v_iload_n (q := 4) hX dX5_forecast_3 rfl rfl rfl ?_
  refine w_callV (q := 7) hX (c_X5_forecastError _ _ hr hn _ _ _ ⟨by omega, by omega⟩ ⟨by omega, by omega⟩ ⟨by omega, by omega⟩) rfl kV_X5_forecastError rfl (by decide) lk_X5_134 (by decide) rfl oX5 (Nat.le_of_ble_eq_true rfl) dX5_forecast_4 rfl ?_
  refine v_istore (q := 9) hX dX5_forecast_7 (Nat.le_of_ble_eq_true rfl) (Nat.le_of_ble_eq_true rfl) rfl ?_
  dsimp only [xs1, xs2, xclr]
  refine v_iload (q := 11) hX dX5_forecast_9 rfl rfl ?_
  refine v_if_eq (q := 14) (tgt := 17) hX ⟨by omega, by omega⟩ dX5_forecast_11 (by decide) rfl (fun h11 => ?_) (fun h11 => ?_)
  · refine v_aload_n (q := 18) hX dX5_forecast_17 rfl rfl rfl ?_
    refine w_callVn (q := 21) hX (c_X5_records _ _ hr hs0) rfl kV_X5_records rfl (by decide) lk_X5_56 (by decide) rfl oX5 (Nat.le_of_ble_eq_true rfl) dX5_forecast_18 rfl (fun D1 hD1 => ?_)
    subst hD1
    refine v_aload_n (q := 22) hX dX5_forecast_21 rfl rfl rfl ?_
    refine v_iload_n (q := 23) hX dX5_forecast_22 rfl rfl rfl ?_
    refine v_iload_n (q := 24) hX dX5_forecast_23 rfl rfl rfl ?_
    refine v_iload_n (q := 25) hX dX5_forecast_24 rfl rfl rfl ?_
    refine w_callVe (q := 28) hX (c_X5_forecasts _ _ hr p w u (by omega) (by omega) (by assumption)) rfl kV_X5_forecasts rfl (by decide) lk_X5_138 (by decide) rfl oX5 (Nat.le_of_ble_eq_true rfl) dX5_forecast_25 rfl (fun D1 hD1 => ?_)
    subst hD1
    refine v_ireturn hX hRX rfl (by first | rfl | exact bi_nar _) dX5_forecast_28 rfl ?_
    exact ⟨rfl, rfl, rfl⟩
  · exact absurd he h11

set_option maxRecDepth 100000 in
set_option maxHeartbeats 4000000 in
theorem c_X5_lots_err {z : Nat} (D : xD) (r : xR) (hr : xRM r) {B : Int} {np : Nat} (hO : nOk B np (D 352)) (p w u : Int) (hp : xI p) (hw : xI w) (hu : xI u) (he : eL (D 352) np p w u ≠ 0) : MX 5 mX5_lots [.ref 351, vi p, vi w, vi u] (356, z) D r (356, z) (xP (vi (eL (D 352) np p w u)) D r) := by
  refine MX.of (by decide +kernel) [some (.ref 351), some (vi p), some (vi w), some (vi u), none] rfl (Nat.le_of_ble_eq_true rfl) ?_
  intro γ hX hRX
  have hn := hO.np
  have hle := eL_le (D 352) np p w u
  refine v_aload_n (q := 1) hX dX5_lots_0 rfl rfl rfl ?_
  refine v_iload_n (q := 2) hX dX5_lots_1 rfl rfl rfl ?_
  refine v_iload_n (q := 3) hX dX5_lots_2 rfl rfl rfl ?_
  refine v_iload_n (q := 4) hX dX5_lots_3 rfl rfl rfl ?_
  refine w_callV (q := 7) hX (c_X5_lotsError _ _ hr hO _ _ _ ⟨by omega, by omega⟩ ⟨by omega, by omega⟩ ⟨by omega, by omega⟩) rfl kV_X5_lotsError rfl (by decide) lk_X5_149 (by decide) rfl oX5 (Nat.le_of_ble_eq_true rfl) dX5_lots_4 rfl ?_
  refine v_istore (q := 9) hX dX5_lots_7 (Nat.le_of_ble_eq_true rfl) (Nat.le_of_ble_eq_true rfl) rfl ?_
  dsimp only [xs1, xs2, xclr]
  refine v_iload (q := 11) hX dX5_lots_9 rfl rfl ?_
  refine v_if_eq (q := 14) (tgt := 17) hX ⟨by omega, by omega⟩ dX5_lots_11 (by decide) rfl (fun h11 => ?_) (fun h11 => ?_)
  · exact absurd h11 he
  · refine v_iload (q := 16) hX dX5_lots_14 rfl rfl ?_
    refine v_ireturn hX hRX rfl (by first | rfl | exact bi_nar _) dX5_lots_16 rfl ?_
    exact ⟨rfl, rfl, rfl⟩

set_option maxRecDepth 100000 in
set_option maxHeartbeats 4000000 in
theorem c_X5_lots {z : Nat} (D : xD) (r : xR) (hr : xRM r) {B : Int} {np : Nat} (hO : nOk B np (D 352)) (hs0 : 0 ≤ D 351 3 ∧ D 351 3 ≤ 6) (p w : Nat) (u : Int) (hp : p < np) (hw : w < 12) (hu : xI u) (he : eL (D 352) np p w u = 0) : MX 5 mX5_lots [.ref 351, vi p, vi w, vi u] (356, z) D r (356, z) (xEs (vi (pF (D 352) p (24 + w))) (fun D' => D' = loD D p w u) r) := by
  refine MX.of (by decide +kernel) [some (.ref 351), some (vi p), some (vi w), some (vi u), none] rfl (Nat.le_of_ble_eq_true rfl) ?_
  intro γ hX hRX
  have hn := hO.np
  have hle := eL_le (D 352) np p w u
  refine v_aload_n (q := 1) hX dX5_lots_0 rfl rfl rfl ?_
  refine v_iload_n (q := 2) hX dX5_lots_1 rfl rfl rfl ?_
  refine v_iload_n (q := 3) hX dX5_lots_2 rfl rfl rfl ?_
  refine v_iload_n (q := 4) hX dX5_lots_3 rfl rfl rfl ?_
  refine w_callV (q := 7) hX (c_X5_lotsError _ _ hr hO _ _ _ ⟨by omega, by omega⟩ ⟨by omega, by omega⟩ ⟨by omega, by omega⟩) rfl kV_X5_lotsError rfl (by decide) lk_X5_149 (by decide) rfl oX5 (Nat.le_of_ble_eq_true rfl) dX5_lots_4 rfl ?_
  refine v_istore (q := 9) hX dX5_lots_7 (Nat.le_of_ble_eq_true rfl) (Nat.le_of_ble_eq_true rfl) rfl ?_
  dsimp only [xs1, xs2, xclr]
  refine v_iload (q := 11) hX dX5_lots_9 rfl rfl ?_
  refine v_if_eq (q := 14) (tgt := 17) hX ⟨by omega, by omega⟩ dX5_lots_11 (by decide) rfl (fun h11 => ?_) (fun h11 => ?_)
  · refine v_aload_n (q := 18) hX dX5_lots_17 rfl rfl rfl ?_
    refine w_callVn (q := 21) hX (c_X5_records _ _ hr hs0) rfl kV_X5_records rfl (by decide) lk_X5_56 (by decide) rfl oX5 (Nat.le_of_ble_eq_true rfl) dX5_lots_18 rfl (fun D1 hD1 => ?_)
    subst hD1
    refine v_aload_n (q := 22) hX dX5_lots_21 rfl rfl rfl ?_
    refine v_iload_n (q := 23) hX dX5_lots_22 rfl rfl rfl ?_
    refine v_iload_n (q := 24) hX dX5_lots_23 rfl rfl rfl ?_
    refine v_iload_n (q := 25) hX dX5_lots_24 rfl rfl rfl ?_
    refine w_callVe (q := 28) hX (c_X5_plansLots _ _ hr p w u (by omega) (by omega) (by assumption)) rfl kV_X5_plansLots rfl (by decide) lk_X5_152 (by decide) rfl oX5 (Nat.le_of_ble_eq_true rfl) dX5_lots_25 rfl (fun D1 hD1 => ?_)
    subst hD1
    refine v_ireturn hX hRX rfl (by first | rfl | exact bi_nar _) dX5_lots_28 rfl ?_
    exact ⟨rfl, rfl, rfl⟩
  · exact absurd he h11

set_option maxRecDepth 100000 in
set_option maxHeartbeats 4000000 in
theorem c_X5_actual_err {z : Nat} (D : xD) (r : xR) (hr : xRM r) {np : Nat} (hn : D 352 1 = (np : Int) ∧ np ≤ 10) (p u : Int) (hp : xI p) (hu : xI u) (he : eA np p u ≠ 0) : MX 3 mX5_actual [.ref 351, vi p, vi u] (356, z) D r (356, z) (xP (vi (eA np p u)) D r) := by
  refine MX.of (by decide +kernel) [some (.ref 351), some (vi p), some (vi u), none] rfl (Nat.le_of_ble_eq_true rfl) ?_
  intro γ hX hRX
  have hle := eA_le np p u
  refine v_aload_n (q := 1) hX dX5_actual_0 rfl rfl rfl ?_
  refine v_iload_n (q := 2) hX dX5_actual_1 rfl rfl rfl ?_
  refine v_iload_n (q := 3) hX dX5_actual_2 rfl rfl rfl ?_
  refine w_callV (q := 6) hX (c_X5_actualError _ _ hr hn _ _ ⟨by omega, by omega⟩ ⟨by omega, by omega⟩) rfl kV_X5_actualError rfl (by decide) lk_X5_143 (by decide) rfl oX5 (Nat.le_of_ble_eq_true rfl) dX5_actual_3 rfl ?_
  refine v_istore_n (q := 7) hX dX5_actual_6 rfl (Nat.le_of_ble_eq_true rfl) (Nat.le_of_ble_eq_true rfl) rfl ?_
  dsimp only [xs1, xs2, xclr]
  refine v_iload_n (q := 8) hX dX5_actual_7 rfl rfl rfl ?_
  refine v_if_eq (q := 11) (tgt := 13) hX ⟨by omega, by omega⟩ dX5_actual_8 (by decide) rfl (fun h8 => ?_) (fun h8 => ?_)
  · exact absurd h8 he
  · refine v_iload_n (q := 12) hX dX5_actual_11 rfl rfl rfl ?_
    refine v_ireturn hX hRX rfl (by first | rfl | exact bi_nar _) dX5_actual_12 rfl ?_
    exact ⟨rfl, rfl, rfl⟩

set_option maxRecDepth 100000 in
set_option maxHeartbeats 4000000 in
theorem c_X5_actual {z : Nat} (D : xD) (r : xR) (hr : xRM r) {np : Nat} (hn : D 352 1 = (np : Int) ∧ np ≤ 10) (hs0 : 0 ≤ D 351 3 ∧ D 351 3 ≤ 6) (p : Nat) (u : Int) (hp : p < np) (hu : xI u) (he : eA np p u = 0) : MX 3 mX5_actual [.ref 351, vi p, vi u] (356, z) D r (356, z) (xEs (vi (pF (D 352) p 7)) (fun D' => D' = acD D p u) r) := by
  refine MX.of (by decide +kernel) [some (.ref 351), some (vi p), some (vi u), none] rfl (Nat.le_of_ble_eq_true rfl) ?_
  intro γ hX hRX
  have hle := eA_le np p u
  refine v_aload_n (q := 1) hX dX5_actual_0 rfl rfl rfl ?_
  refine v_iload_n (q := 2) hX dX5_actual_1 rfl rfl rfl ?_
  refine v_iload_n (q := 3) hX dX5_actual_2 rfl rfl rfl ?_
  refine w_callV (q := 6) hX (c_X5_actualError _ _ hr hn _ _ ⟨by omega, by omega⟩ ⟨by omega, by omega⟩) rfl kV_X5_actualError rfl (by decide) lk_X5_143 (by decide) rfl oX5 (Nat.le_of_ble_eq_true rfl) dX5_actual_3 rfl ?_
  refine v_istore_n (q := 7) hX dX5_actual_6 rfl (Nat.le_of_ble_eq_true rfl) (Nat.le_of_ble_eq_true rfl) rfl ?_
  dsimp only [xs1, xs2, xclr]
  refine v_iload_n (q := 8) hX dX5_actual_7 rfl rfl rfl ?_
  refine v_if_eq (q := 11) (tgt := 13) hX ⟨by omega, by omega⟩ dX5_actual_8 (by decide) rfl (fun h8 => ?_) (fun h8 => ?_)
  · refine v_aload_n (q := 14) hX dX5_actual_13 rfl rfl rfl ?_
    refine w_callVn (q := 17) hX (c_X5_records _ _ hr hs0) rfl kV_X5_records rfl (by decide) lk_X5_56 (by decide) rfl oX5 (Nat.le_of_ble_eq_true rfl) dX5_actual_14 rfl (fun D1 hD1 => ?_)
    subst hD1
    refine v_aload_n (q := 18) hX dX5_actual_17 rfl rfl rfl ?_
    refine v_iload_n (q := 19) hX dX5_actual_18 rfl rfl rfl ?_
    refine v_iload_n (q := 20) hX dX5_actual_19 rfl rfl rfl ?_
    refine w_callVe (q := 23) hX (c_X5_tells _ _ hr p u (by omega) (by assumption)) rfl kV_X5_tells rfl (by decide) lk_X5_146 (by decide) rfl oX5 (Nat.le_of_ble_eq_true rfl) dX5_actual_20 rfl (fun D1 hD1 => ?_)
    subst hD1
    refine v_ireturn hX hRX rfl (by first | rfl | exact bi_nar _) dX5_actual_23 rfl ?_
    exact ⟨rfl, rfl, rfl⟩
  · exact absurd he h8

