set_option maxRecDepth 100000 in
set_option maxHeartbeats 4000000 in
theorem c_X5_hoursOf {z : Nat} (D : xD) (r : xR) (hr : xRM r) {B : Int} {np : Nat} (hO : nOk B np (D 352)) (w : Nat) (hw : w < 12) : MX 3 mX5_hoursOf [.ref 351, vi w] (356, z) D r (356, z) (xP (vl (nHours (D 352) np w)) D r) := by
  refine MX.of (by decide +kernel) [some (.ref 351), some (vi w), none, none, none, none] rfl (Nat.le_of_ble_eq_true rfl) ?_
  intro γ hX hRX
  have hn := hO.np
  have hm := nMask_lt hO w np (Nat.le_refl _)
  have F : ∀ f, f ≤ 4 → xV γ 77 [some (.ref 351), some (vi w), some (vl (nHrs (D 352) w np + nFh (D 352) (nMask (D 352) w np) f)), none, some (vi (nMask (D 352) w np : Nat)), some (vi (f : Nat))] [] (356, z) D r := by
    refine xup 4 (fun f hf ih => ?_)
    refine v_iload (q := 79) hX dX5_hoursOf_77 rfl rfl ?_
    refine v_iconst (q := 80) hX dX5_hoursOf_79 rfl ?_
    refine v_icmp_ge (q := 83) (tgt := 117) hX ⟨by omega, by omega⟩ (by decide) dX5_hoursOf_80 (by decide) rfl (fun h80 => ?_) (fun h80 => ?_)
    · refine v_lload_n (q := 118) hX dX5_hoursOf_117 rfl rfl rfl ?_
      refine v_lreturn hX hRX rfl dX5_hoursOf_118 rfl ?_
      rw [show f = 4 by omega]
      exact ⟨rfl, rfl, rfl⟩
    · refine v_lload_n (q := 84) hX dX5_hoursOf_83 rfl rfl rfl ?_
      refine v_iload (q := 86) hX dX5_hoursOf_84 rfl rfl ?_
      refine v_iload (q := 88) hX dX5_hoursOf_86 rfl rfl ?_
      refine v_ishr (q := 89) hX (_) (bshr4 _ hm _ (by omega)) dX5_hoursOf_88 rfl ?_
      refine v_iconst (q := 90) hX dX5_hoursOf_89 rfl ?_
      refine v_iand (q := 91) hX (_) (band1 _ (Nat.lt_of_le_of_lt (Nat.shiftRight_le _ _) hm)) dX5_hoursOf_90 rfl ?_
      refine v_iconst (q := 92) hX dX5_hoursOf_91 rfl ?_
      refine v_icmp_ne (q := 95) (tgt := 108) hX ⟨by omega, by omega⟩ (by decide) dX5_hoursOf_92 (by decide) rfl (fun h92 => ?_) (fun h92 => ?_)
      · refine v_lconst (q := 109) (e := 0) hX (by decide) dX5_hoursOf_108 rfl ?_
        refine v_ladd (q := 110) hX dX5_hoursOf_109 rfl ?_
        refine v_lstore_n (q := 111) hX dX5_hoursOf_110 rfl (Nat.le_of_ble_eq_true rfl) (Nat.le_of_ble_eq_true rfl) rfl ?_
        dsimp only [xs1, xs2, xclr]
        refine v_iinc (q := 114) hX dX5_hoursOf_111 rfl (Nat.le_of_ble_eq_true rfl) (Nat.le_of_ble_eq_true rfl) rfl ?_
        dsimp only [xs1, xs2, xclr]
        refine v_goto (tgt := 77) hX dX5_hoursOf_114 (by decide) ?_
        have e1 := ih (by omega)
        simp only [nFh] at e1
        first | rw [if_pos (by omega)] at e1 | rw [if_neg (by omega)] at e1
        rw [← Int.add_assoc] at e1
        exact e1
      · refine v_aload_n (q := 96) hX dX5_hoursOf_95 rfl rfl rfl ?_
        refine w_getR (q := 99) hX fl_X5_7 rfl oX5 hr.1 dX5_hoursOf_96 rfl ?_
        refine v_bipush (q := 101) hX (by decide) dX5_hoursOf_99 rfl ?_
        refine v_iload (q := 103) hX dX5_hoursOf_101 rfl rfl ?_
        refine v_iadd (q := 104) hX dX5_hoursOf_103 rfl ?_
        refine w_lld (q := 105) (kk := (14 + f)) hX (by omega) (by omega) aNow dX5_hoursOf_104 rfl ?_
        refine v_goto (tgt := 109) hX dX5_hoursOf_105 (by decide) ?_
        refine v_ladd (q := 110) hX dX5_hoursOf_109 rfl ?_
        refine v_lstore_n (q := 111) hX dX5_hoursOf_110 rfl (Nat.le_of_ble_eq_true rfl) (Nat.le_of_ble_eq_true rfl) rfl ?_
        dsimp only [xs1, xs2, xclr]
        refine v_iinc (q := 114) hX dX5_hoursOf_111 rfl (Nat.le_of_ble_eq_true rfl) (Nat.le_of_ble_eq_true rfl) rfl ?_
        dsimp only [xs1, xs2, xclr]
        refine v_goto (tgt := 77) hX dX5_hoursOf_114 (by decide) ?_
        have e1 := ih (by omega)
        simp only [nFh] at e1
        first | rw [if_pos (by omega)] at e1 | rw [if_neg (by omega)] at e1
        rw [← Int.add_assoc] at e1
        exact e1
  have K : xV γ 67 [some (.ref 351), some (vi w), some (vl (nHrs (D 352) w np)), none, some (vi (np : Nat)), none] [] (356, z) D r := by
    refine v_aload_n (q := 68) hX dX5_hoursOf_67 rfl rfl rfl ?_
    refine v_iload_n (q := 69) hX dX5_hoursOf_68 rfl rfl rfl ?_
    refine w_callV (q := 72) hX (c_X5_familiesIn _ _ hr hO (w) (by omega)) rfl kV_X5_familiesIn rfl (by decide) lk_X5_86 (by decide) rfl oX5 (Nat.le_of_ble_eq_true rfl) dX5_hoursOf_69 rfl ?_
    refine v_istore (q := 74) hX dX5_hoursOf_72 (Nat.le_of_ble_eq_true rfl) (Nat.le_of_ble_eq_true rfl) rfl ?_
    dsimp only [xs1, xs2, xclr]
    refine v_iconst (q := 75) hX dX5_hoursOf_74 rfl ?_
    refine v_istore (q := 77) hX dX5_hoursOf_75 (Nat.le_of_ble_eq_true rfl) (Nat.le_of_ble_eq_true rfl) rfl ?_
    dsimp only [xs1, xs2, xclr]
    have e1 := F 0 (Nat.zero_le _)
    simp only [nFh, Int.add_zero] at e1
    exact e1
  have L : ∀ k, k ≤ np → xV γ 5 [some (.ref 351), some (vi w), some (vl (nHrs (D 352) w k)), none, some (vi (k : Nat)), none] [] (356, z) D r := by
    refine xup np (fun k hk ih => ?_)
    have hn := hO.np
    refine v_iload (q := 7) hX dX5_hoursOf_5 rfl rfl ?_
    refine v_i2l (q := 8) hX ⟨by omega, by omega⟩ dX5_hoursOf_7 rfl ?_
    refine v_aload_n (q := 9) hX dX5_hoursOf_8 rfl rfl rfl ?_
    refine w_getR (q := 12) hX fl_X5_7 rfl oX5 hr.1 dX5_hoursOf_9 rfl ?_
    refine v_iconst (q := 13) hX dX5_hoursOf_12 rfl ?_
    refine w_lld (q := 14) (kk := 1) hX (by omega) (by omega) aNow dX5_hoursOf_13 rfl ?_
    refine v_lcmp_ge (q := 18) (tgt := 67) hX ⟨by omega, by omega⟩ ⟨by omega, by omega⟩ dX5_hoursOf_14 dX5_hoursOf_15 (by decide) rfl (fun h14 => ?_) (fun h14 => ?_)
    · rw [show k = np by omega]
      exact K
    · refine v_lload_n (q := 19) hX dX5_hoursOf_18 rfl rfl rfl ?_
      refine v_aload_n (q := 20) hX dX5_hoursOf_19 rfl rfl rfl ?_
      refine v_iload (q := 22) hX dX5_hoursOf_20 rfl rfl ?_
      refine v_iload_n (q := 23) hX dX5_hoursOf_22 rfl rfl rfl ?_
      refine w_callV (q := 26) hX (c_X5_isMade _ _ hr hO (k) (w) (by omega) (by omega)) rfl kV_X5_isMade rfl (by decide) lk_X5_82 (by decide) rfl oX5 (Nat.le_of_ble_eq_true rfl) dX5_hoursOf_23 rfl ?_
      refine w_ifeq (q := 29) (tgt := 58) hX dX5_hoursOf_26 (by decide) rfl (fun h26 => ?_) (fun h26 => ?_)
      · refine v_lconst (q := 59) (e := 0) hX (by decide) dX5_hoursOf_58 rfl ?_
        refine v_ladd (q := 60) hX dX5_hoursOf_59 rfl ?_
        refine v_lstore_n (q := 61) hX dX5_hoursOf_60 rfl (Nat.le_of_ble_eq_true rfl) (Nat.le_of_ble_eq_true rfl) rfl ?_
        dsimp only [xs1, xs2, xclr]
        refine v_iinc (q := 64) hX dX5_hoursOf_61 rfl (Nat.le_of_ble_eq_true rfl) (Nat.le_of_ble_eq_true rfl) rfl ?_
        dsimp only [xs1, xs2, xclr]
        refine v_goto (tgt := 5) hX dX5_hoursOf_64 (by decide) ?_
        have e1 := ih (by omega)
        simp only [nHrs, h26, if_true, if_false] at e1
        exact e1
      · refine v_aload_n (q := 30) hX dX5_hoursOf_29 rfl rfl rfl ?_
        refine v_iload (q := 32) hX dX5_hoursOf_30 rfl rfl ?_
        refine v_iconst (q := 33) hX dX5_hoursOf_32 rfl ?_
        refine w_callV (q := 36) hX (c_X5_ofP _ _ hr (k) (3) (by omega)) rfl kV_X5_ofP rfl (by decide) lk_X5_78 (by decide) rfl oX5 (Nat.le_of_ble_eq_true rfl) dX5_hoursOf_33 rfl ?_
        refine v_aload_n (q := 37) hX dX5_hoursOf_36 rfl rfl rfl ?_
        refine v_iload (q := 39) hX dX5_hoursOf_37 rfl rfl ?_
        refine v_bipush (q := 41) hX (by decide) dX5_hoursOf_39 rfl ?_
        refine v_iload_n (q := 42) hX dX5_hoursOf_41 rfl rfl rfl ?_
        refine v_iadd (q := 43) hX dX5_hoursOf_42 rfl ?_
        refine w_callV (q := 46) hX (c_X5_ofP _ _ hr (k) ((24 + w)) (by omega)) rfl kV_X5_ofP rfl (by decide) lk_X5_78 (by decide) rfl oX5 (Nat.le_of_ble_eq_true rfl) dX5_hoursOf_43 rfl ?_
        refine v_aload_n (q := 47) hX dX5_hoursOf_46 rfl rfl rfl ?_
        refine v_iload (q := 49) hX dX5_hoursOf_47 rfl rfl ?_
        refine v_iconst (q := 50) hX dX5_hoursOf_49 rfl ?_
        refine w_callV (q := 53) hX (c_X5_ofP _ _ hr (k) (2) (by omega)) rfl kV_X5_ofP rfl (by decide) lk_X5_78 (by decide) rfl oX5 (Nat.le_of_ble_eq_true rfl) dX5_hoursOf_50 rfl ?_
        refine v_lmul (q := 54) hX dX5_hoursOf_53 rfl ?_
        refine v_ladd (q := 55) hX dX5_hoursOf_54 rfl ?_
        refine v_goto (tgt := 59) hX dX5_hoursOf_55 (by decide) ?_
        refine v_ladd (q := 60) hX dX5_hoursOf_59 rfl ?_
        refine v_lstore_n (q := 61) hX dX5_hoursOf_60 rfl (Nat.le_of_ble_eq_true rfl) (Nat.le_of_ble_eq_true rfl) rfl ?_
        dsimp only [xs1, xs2, xclr]
        refine v_iinc (q := 64) hX dX5_hoursOf_61 rfl (Nat.le_of_ble_eq_true rfl) (Nat.le_of_ble_eq_true rfl) rfl ?_
        dsimp only [xs1, xs2, xclr]
        refine v_goto (tgt := 5) hX dX5_hoursOf_64 (by decide) ?_
        have e1 := ih (by omega)
        simp only [nHrs, h26, if_true, if_false] at e1
        exact e1
  refine v_lconst (q := 1) (e := 0) hX (by decide) dX5_hoursOf_0 rfl ?_
  refine v_lstore_n (q := 2) hX dX5_hoursOf_1 rfl (Nat.le_of_ble_eq_true rfl) (Nat.le_of_ble_eq_true rfl) rfl ?_
  dsimp only [xs1, xs2, xclr]
  refine v_iconst (q := 3) hX dX5_hoursOf_2 rfl ?_
  refine v_istore (q := 5) hX dX5_hoursOf_3 (Nat.le_of_ble_eq_true rfl) (Nat.le_of_ble_eq_true rfl) rfl ?_
  dsimp only [xs1, xs2, xclr]
  exact L 0 (Nat.zero_le _)

set_option maxRecDepth 100000 in
set_option maxHeartbeats 4000000 in
theorem c_X5_setupsOf {z : Nat} (D : xD) (r : xR) (hr : xRM r) {B : Int} {np : Nat} (hO : nOk B np (D 352)) (w : Nat) (hw : w < 12) : MX 3 mX5_setupsOf [.ref 351, vi w] (356, z) D r (356, z) (xP (vi (nSetups (D 352) np w)) D r) := by
  refine MX.of (by decide +kernel) [some (.ref 351), some (vi w), none, none, none] rfl (Nat.le_of_ble_eq_true rfl) ?_
  intro γ hX hRX
  have hn := hO.np
  have hm := nMask_lt hO w np (Nat.le_refl _)
  have F : ∀ f, f ≤ 4 → xV γ 48 [some (.ref 351), some (vi w), some (vi (nMade (D 352) w np + ((nBits (nMask (D 352) w np) f : Nat) : Int))), some (vi (nMask (D 352) w np : Nat)), some (vi (f : Nat))] [] (356, z) D r := by
    refine xup 4 (fun f hf ih => ?_)
    refine v_iload (q := 50) hX dX5_setupsOf_48 rfl rfl ?_
    refine v_iconst (q := 51) hX dX5_setupsOf_50 rfl ?_
    refine v_icmp_ge (q := 54) (tgt := 69) hX ⟨by omega, by omega⟩ (by decide) dX5_setupsOf_51 (by decide) rfl (fun h51 => ?_) (fun h51 => ?_)
    · refine v_iload_n (q := 70) hX dX5_setupsOf_69 rfl rfl rfl ?_
      refine v_ireturn hX hRX rfl (by first | rfl | exact bi_nar _) dX5_setupsOf_70 rfl ?_
      rw [show f = 4 by omega]
      exact ⟨rfl, rfl, rfl⟩
    · refine v_iload_n (q := 55) hX dX5_setupsOf_54 rfl rfl rfl ?_
      refine v_iload_n (q := 56) hX dX5_setupsOf_55 rfl rfl rfl ?_
      refine v_iload (q := 58) hX dX5_setupsOf_56 rfl rfl ?_
      refine v_ishr (q := 59) hX (_) (bshr4 _ hm _ (by omega)) dX5_setupsOf_58 rfl ?_
      refine v_iconst (q := 60) hX dX5_setupsOf_59 rfl ?_
      refine v_iand (q := 61) hX (_) (band1 _ (Nat.lt_of_le_of_lt (Nat.shiftRight_le _ _) hm)) dX5_setupsOf_60 rfl ?_
      refine v_iadd (q := 62) hX dX5_setupsOf_61 rfl ?_
      refine v_istore_n (q := 63) hX dX5_setupsOf_62 rfl (Nat.le_of_ble_eq_true rfl) (Nat.le_of_ble_eq_true rfl) rfl ?_
      dsimp only [xs1, xs2, xclr]
      refine v_iinc (q := 66) hX dX5_setupsOf_63 rfl (Nat.le_of_ble_eq_true rfl) (Nat.le_of_ble_eq_true rfl) rfl ?_
      dsimp only [xs1, xs2, xclr]
      refine v_goto (tgt := 48) hX dX5_setupsOf_66 (by decide) ?_
      have e1 := ih (by omega)
      simp only [nBits, Int.natCast_add] at e1
      rw [← Int.add_assoc] at e1
      exact e1
  have K : xV γ 39 [some (.ref 351), some (vi w), some (vi (nMade (D 352) w np)), some (vi (np : Nat)), none] [] (356, z) D r := by
    refine v_aload_n (q := 40) hX dX5_setupsOf_39 rfl rfl rfl ?_
    refine v_iload_n (q := 41) hX dX5_setupsOf_40 rfl rfl rfl ?_
    refine w_callV (q := 44) hX (c_X5_familiesIn _ _ hr hO (w) (by omega)) rfl kV_X5_familiesIn rfl (by decide) lk_X5_86 (by decide) rfl oX5 (Nat.le_of_ble_eq_true rfl) dX5_setupsOf_41 rfl ?_
    refine v_istore_n (q := 45) hX dX5_setupsOf_44 rfl (Nat.le_of_ble_eq_true rfl) (Nat.le_of_ble_eq_true rfl) rfl ?_
    dsimp only [xs1, xs2, xclr]
    refine v_iconst (q := 46) hX dX5_setupsOf_45 rfl ?_
    refine v_istore (q := 48) hX dX5_setupsOf_46 (Nat.le_of_ble_eq_true rfl) (Nat.le_of_ble_eq_true rfl) rfl ?_
    dsimp only [xs1, xs2, xclr]
    have e1 := F 0 (Nat.zero_le _)
    simp only [nBits, Int.natCast_zero, Int.add_zero] at e1
    exact e1
  have L : ∀ k, k ≤ np → xV γ 4 [some (.ref 351), some (vi w), some (vi (nMade (D 352) w k)), some (vi (k : Nat)), none] [] (356, z) D r := by
    refine xup np (fun k hk ih => ?_)
    have hn := hO.np
    refine v_iload_n (q := 5) hX dX5_setupsOf_4 rfl rfl rfl ?_
    refine v_i2l (q := 6) hX ⟨by omega, by omega⟩ dX5_setupsOf_5 rfl ?_
    refine v_aload_n (q := 7) hX dX5_setupsOf_6 rfl rfl rfl ?_
    refine w_getR (q := 10) hX fl_X5_7 rfl oX5 hr.1 dX5_setupsOf_7 rfl ?_
    refine v_iconst (q := 11) hX dX5_setupsOf_10 rfl ?_
    refine w_lld (q := 12) (kk := 1) hX (by omega) (by omega) aNow dX5_setupsOf_11 rfl ?_
    refine v_lcmp_ge (q := 16) (tgt := 39) hX ⟨by omega, by omega⟩ ⟨by omega, by omega⟩ dX5_setupsOf_12 dX5_setupsOf_13 (by decide) rfl (fun h12 => ?_) (fun h12 => ?_)
    · rw [show k = np by omega]
      exact K
    · refine v_iload_n (q := 17) hX dX5_setupsOf_16 rfl rfl rfl ?_
      refine v_aload_n (q := 18) hX dX5_setupsOf_17 rfl rfl rfl ?_
      refine v_iload_n (q := 19) hX dX5_setupsOf_18 rfl rfl rfl ?_
      refine v_iload_n (q := 20) hX dX5_setupsOf_19 rfl rfl rfl ?_
      refine w_callV (q := 23) hX (c_X5_isMade _ _ hr hO (k) (w) (by omega) (by omega)) rfl kV_X5_isMade rfl (by decide) lk_X5_82 (by decide) rfl oX5 (Nat.le_of_ble_eq_true rfl) dX5_setupsOf_20 rfl ?_
      refine w_ifeq (q := 26) (tgt := 30) hX dX5_setupsOf_23 (by decide) rfl (fun h23 => ?_) (fun h23 => ?_)
      · refine v_iconst (q := 31) hX dX5_setupsOf_30 rfl ?_
        refine v_iadd (q := 32) hX dX5_setupsOf_31 rfl ?_
        refine v_istore_n (q := 33) hX dX5_setupsOf_32 rfl (Nat.le_of_ble_eq_true rfl) (Nat.le_of_ble_eq_true rfl) rfl ?_
        dsimp only [xs1, xs2, xclr]
        refine v_iinc (q := 36) hX dX5_setupsOf_33 rfl (Nat.le_of_ble_eq_true rfl) (Nat.le_of_ble_eq_true rfl) rfl ?_
        dsimp only [xs1, xs2, xclr]
        refine v_goto (tgt := 4) hX dX5_setupsOf_36 (by decide) ?_
        have e1 := ih (by omega)
        simp only [nMade, h23, if_true, if_false] at e1
        exact e1
      · refine v_iconst (q := 27) hX dX5_setupsOf_26 rfl ?_
        refine v_goto (tgt := 31) hX dX5_setupsOf_27 (by decide) ?_
        refine v_iadd (q := 32) hX dX5_setupsOf_31 rfl ?_
        refine v_istore_n (q := 33) hX dX5_setupsOf_32 rfl (Nat.le_of_ble_eq_true rfl) (Nat.le_of_ble_eq_true rfl) rfl ?_
        dsimp only [xs1, xs2, xclr]
        refine v_iinc (q := 36) hX dX5_setupsOf_33 rfl (Nat.le_of_ble_eq_true rfl) (Nat.le_of_ble_eq_true rfl) rfl ?_
        dsimp only [xs1, xs2, xclr]
        refine v_goto (tgt := 4) hX dX5_setupsOf_36 (by decide) ?_
        have e1 := ih (by omega)
        simp only [nMade, h23, if_true, if_false] at e1
        exact e1
  refine v_iconst (q := 1) hX dX5_setupsOf_0 rfl ?_
  refine v_istore_n (q := 2) hX dX5_setupsOf_1 rfl (Nat.le_of_ble_eq_true rfl) (Nat.le_of_ble_eq_true rfl) rfl ?_
  dsimp only [xs1, xs2, xclr]
  refine v_iconst (q := 3) hX dX5_setupsOf_2 rfl ?_
  refine v_istore_n (q := 4) hX dX5_setupsOf_3 rfl (Nat.le_of_ble_eq_true rfl) (Nat.le_of_ble_eq_true rfl) rfl ?_
  dsimp only [xs1, xs2, xclr]
  exact L 0 (Nat.zero_le _)

def nOver (N : Nat → Int) (np w : Nat) : Int := if 0 < nHours N np w - N 5 then nHours N np w - N 5 else 0
set_option maxRecDepth 100000 in
set_option maxHeartbeats 4000000 in
theorem c_X5_overtimeOf {z : Nat} (D : xD) (r : xR) (hr : xRM r) {B : Int} {np : Nat} (hO : nOk B np (D 352)) (w : Nat) (hw : w < 12) : MX 4 mX5_overtimeOf [.ref 351, vi w] (356, z) D r (356, z) (xP (vl (nOver (D 352) np w)) D r) := by
  refine MX.of (by decide +kernel) [some (.ref 351), some (vi w), none, none] rfl (Nat.le_of_ble_eq_true rfl) ?_
  intro γ hX hRX
  have hh := nHours_le hO hw
  have hs := hO.2.2.2.1
  refine v_aload_n (q := 1) hX dX5_overtimeOf_0 rfl rfl rfl ?_
  refine v_iload_n (q := 2) hX dX5_overtimeOf_1 rfl rfl rfl ?_
  refine w_callV (q := 5) hX (c_X5_hoursOf _ _ hr hO (w) (by omega)) rfl kV_X5_hoursOf rfl (by decide) lk_X5_89 (by decide) rfl oX5 (Nat.le_of_ble_eq_true rfl) dX5_overtimeOf_2 rfl ?_
  refine v_aload_n (q := 6) hX dX5_overtimeOf_5 rfl rfl rfl ?_
  refine v_iconst (q := 7) hX dX5_overtimeOf_6 rfl ?_
  refine w_callV (q := 10) hX (c_X5_setting _ _ hr 0 (by omega) (j := 5) rfl) rfl kV_X5_setting rfl (by decide) lk_X5_41 (by decide) rfl oX5 (Nat.le_of_ble_eq_true rfl) dX5_overtimeOf_7 rfl ?_
  refine v_lsub (q := 11) hX dX5_overtimeOf_10 rfl ?_
  refine v_lstore_n (q := 12) hX dX5_overtimeOf_11 rfl (Nat.le_of_ble_eq_true rfl) (Nat.le_of_ble_eq_true rfl) rfl ?_
  dsimp only [xs1, xs2, xclr]
  refine v_lload_n (q := 13) hX dX5_overtimeOf_12 rfl rfl rfl ?_
  refine v_lconst (q := 14) (e := 0) hX (by decide) dX5_overtimeOf_13 rfl ?_
  refine v_lcmp_le (q := 18) (tgt := 22) hX ⟨by omega, by omega⟩ ⟨by omega, by omega⟩ dX5_overtimeOf_14 dX5_overtimeOf_15 (by decide) rfl (fun h14 => ?_) (fun h14 => ?_)
  · refine v_lconst (q := 23) (e := 0) hX (by decide) dX5_overtimeOf_22 rfl ?_
    refine v_lreturn hX hRX rfl dX5_overtimeOf_23 rfl ?_
    exact ⟨by unfold nOver; first | rw [if_pos (by omega)] | rw [if_neg (by omega)], rfl, rfl⟩
  · refine v_lload_n (q := 19) hX dX5_overtimeOf_18 rfl rfl rfl ?_
    refine v_goto (tgt := 23) hX dX5_overtimeOf_19 (by decide) ?_
    refine v_lreturn hX hRX rfl dX5_overtimeOf_23 rfl ?_
    exact ⟨by unfold nOver; first | rw [if_pos (by omega)] | rw [if_neg (by omega)], rfl, rfl⟩

set_option maxRecDepth 100000 in
set_option maxHeartbeats 4000000 in
theorem c_X5_mostHours {z : Nat} (D : xD) (r : xR) (hr : xRM r) : MX 1 mX5_mostHours [.ref 351] (356, z) D r (356, z) (xP (vl (D 352 5 + D 352 6)) D r) := by
  refine MX.of (by decide +kernel) [some (.ref 351)] rfl (Nat.le_of_ble_eq_true rfl) ?_
  intro γ hX hRX
  refine v_aload_n (q := 1) hX dX5_mostHours_0 rfl rfl rfl ?_
  refine v_iconst (q := 2) hX dX5_mostHours_1 rfl ?_
  refine w_callV (q := 5) hX (c_X5_setting _ _ hr 0 (by omega) (j := 5) rfl) rfl kV_X5_setting rfl (by decide) lk_X5_41 (by decide) rfl oX5 (Nat.le_of_ble_eq_true rfl) dX5_mostHours_2 rfl ?_
  refine v_aload_n (q := 6) hX dX5_mostHours_5 rfl rfl rfl ?_
  refine v_iconst (q := 7) hX dX5_mostHours_6 rfl ?_
  refine w_callV (q := 10) hX (c_X5_setting _ _ hr 1 (by omega) (j := 6) rfl) rfl kV_X5_setting rfl (by decide) lk_X5_41 (by decide) rfl oX5 (Nat.le_of_ble_eq_true rfl) dX5_mostHours_7 rfl ?_
  refine v_ladd (q := 11) hX dX5_mostHours_10 rfl ?_
  refine v_lreturn hX hRX rfl dX5_mostHours_11 rfl ?_
  exact ⟨rfl, rfl, rfl⟩

/-- stock less backlog, and what the first k weeks bring -/
def nPj (N : Nat → Int) (p : Nat) : Nat → Int
  | 0 => pF N p 4 - pF N p 5
  | k + 1 => nPj N p k + (pF N p (24 + k) * pF N p 1 - pF N p (12 + k))
theorem nPj_le {B : Int} {np : Nat} {N : Nat → Int} (h : nOk B np N) {p : Nat} (hp : p < np) : ∀ k, k ≤ 12 → -B - 1000 * k ≤ nPj N p k ∧ nPj N p k ≤ B + 100000 * k := by
  intro k
  obtain ⟨-, h1, -, -, h4, h5, -⟩ := h.2.2.2.2.2 p hp
  induction k with
  | zero => intro _; unfold nPj; omega
  | succ k ih =>
    intro hk
    have e := ih (by omega)
    have h2 := h.lots hp (k := k) (by omega)
    have h3 := h.fc hp (k := k) (by omega)
    have h6 : 0 ≤ pF N p (24 + k) * pF N p 1 := Int.mul_nonneg h2.1 (by omega)
    have h7 : pF N p (24 + k) * pF N p 1 ≤ 1000 * 100 := Int.mul_le_mul h2.2 h1.2 (by omega) (by omega)
    unfold nPj
    omega
def nCov (N : Nat → Int) (p : Nat) : Int := pF N p 6 * N 9 / 100
theorem nCov_le {B : Int} {np : Nat} {N : Nat → Int} (h : nOk B np N) {p : Nat} (hp : p < np) : (0 ≤ pF N p 6 * N 9 ∧ pF N p 6 * N 9 ≤ 800000) ∧ 0 ≤ nCov N p ∧ nCov N p ≤ 8000 := by
  obtain ⟨-, -, -, -, -, -, h6, -⟩ := h.2.2.2.2.2 p hp
  have h9 := h.2.2.2.1.2.2.2.2.1
  have h1 : 0 ≤ pF N p 6 * N 9 := Int.mul_nonneg h6.1 h9.1
  have h2 : pF N p 6 * N 9 ≤ 2000 * 400 := Int.mul_le_mul h6.2 h9.2 h9.1 (by omega)
  unfold nCov
  omega
set_option maxRecDepth 100000 in
set_option maxHeartbeats 4000000 in
theorem c_X5_project {z : Nat} (D : xD) (r : xR) (hr : xRM r) {B : Int} {np : Nat} (hO : nOk B np (D 352)) (p w : Nat) (hp : p < np) (hw : w < 12) : MX 1 mX5_project [.ref 351, vi p, vi w] (356, z) D r (356, z) (xP (vl (nPj (D 352) p (w + 1))) D r) := by
  refine MX.of (by decide +kernel) [some (.ref 351), some (vi p), some (vi w), none, none, none] rfl (Nat.le_of_ble_eq_true rfl) ?_
  intro γ hX hRX
  have hn := hO.np
  have L : ∀ k, k ≤ (w + 1) → xV γ 17 [some (.ref 351), some (vi p), some (vi w), some (vl (nPj (D 352) p k)), none, some (vi (k : Nat))] [] (356, z) D r := by
    refine xup (w + 1) (fun k hk ih => ?_)
    refine v_iload (q := 19) hX dX5_project_17 rfl rfl ?_
    refine v_iload_n (q := 20) hX dX5_project_19 rfl rfl rfl ?_
    refine v_icmp_gt (q := 23) (tgt := 60) hX ⟨by omega, by omega⟩ ⟨by omega, by omega⟩ dX5_project_20 (by decide) rfl (fun h20 => ?_) (fun h20 => ?_)
    · refine v_lload_n (q := 61) hX dX5_project_60 rfl rfl rfl ?_
      refine v_lreturn hX hRX rfl dX5_project_61 rfl ?_
      rw [show k = w + 1 by omega]
      exact ⟨rfl, rfl, rfl⟩
    · refine v_lload_n (q := 24) hX dX5_project_23 rfl rfl rfl ?_
      refine v_aload_n (q := 25) hX dX5_project_24 rfl rfl rfl ?_
      refine v_iload_n (q := 26) hX dX5_project_25 rfl rfl rfl ?_
      refine v_bipush (q := 28) hX (by decide) dX5_project_26 rfl ?_
      refine v_iload (q := 30) hX dX5_project_28 rfl rfl ?_
      refine v_iadd (q := 31) hX dX5_project_30 rfl ?_
      refine w_callV (q := 34) hX (c_X5_ofP _ _ hr (p) ((24 + k)) (by omega)) rfl kV_X5_ofP rfl (by decide) lk_X5_78 (by decide) rfl oX5 (Nat.le_of_ble_eq_true rfl) dX5_project_31 rfl ?_
      refine v_aload_n (q := 35) hX dX5_project_34 rfl rfl rfl ?_
      refine v_iload_n (q := 36) hX dX5_project_35 rfl rfl rfl ?_
      refine v_iconst (q := 37) hX dX5_project_36 rfl ?_
      refine w_callV (q := 40) hX (c_X5_ofP _ _ hr (p) (1) (by omega)) rfl kV_X5_ofP rfl (by decide) lk_X5_78 (by decide) rfl oX5 (Nat.le_of_ble_eq_true rfl) dX5_project_37 rfl ?_
      refine v_lmul (q := 41) hX dX5_project_40 rfl ?_
      refine v_aload_n (q := 42) hX dX5_project_41 rfl rfl rfl ?_
      refine v_iload_n (q := 43) hX dX5_project_42 rfl rfl rfl ?_
      refine v_bipush (q := 45) hX (by decide) dX5_project_43 rfl ?_
      refine v_iload (q := 47) hX dX5_project_45 rfl rfl ?_
      refine v_iadd (q := 48) hX dX5_project_47 rfl ?_
      refine w_callV (q := 51) hX (c_X5_ofP _ _ hr (p) ((12 + k)) (by omega)) rfl kV_X5_ofP rfl (by decide) lk_X5_78 (by decide) rfl oX5 (Nat.le_of_ble_eq_true rfl) dX5_project_48 rfl ?_
      refine v_lsub (q := 52) hX dX5_project_51 rfl ?_
      refine v_ladd (q := 53) hX dX5_project_52 rfl ?_
      refine v_lstore_n (q := 54) hX dX5_project_53 rfl (Nat.le_of_ble_eq_true rfl) (Nat.le_of_ble_eq_true rfl) rfl ?_
      dsimp only [xs1, xs2, xclr]
      refine v_iinc (q := 57) hX dX5_project_54 rfl (Nat.le_of_ble_eq_true rfl) (Nat.le_of_ble_eq_true rfl) rfl ?_
      dsimp only [xs1, xs2, xclr]
      refine v_goto (tgt := 17) hX dX5_project_57 (by decide) ?_
      exact ih (by omega)
  refine v_aload_n (q := 1) hX dX5_project_0 rfl rfl rfl ?_
  refine v_iload_n (q := 2) hX dX5_project_1 rfl rfl rfl ?_
  refine v_iconst (q := 3) hX dX5_project_2 rfl ?_
  refine w_callV (q := 6) hX (c_X5_ofP _ _ hr (p) (4) (by omega)) rfl kV_X5_ofP rfl (by decide) lk_X5_78 (by decide) rfl oX5 (Nat.le_of_ble_eq_true rfl) dX5_project_3 rfl ?_
  refine v_aload_n (q := 7) hX dX5_project_6 rfl rfl rfl ?_
  refine v_iload_n (q := 8) hX dX5_project_7 rfl rfl rfl ?_
  refine v_iconst (q := 9) hX dX5_project_8 rfl ?_
  refine w_callV (q := 12) hX (c_X5_ofP _ _ hr (p) (5) (by omega)) rfl kV_X5_ofP rfl (by decide) lk_X5_78 (by decide) rfl oX5 (Nat.le_of_ble_eq_true rfl) dX5_project_9 rfl ?_
  refine v_lsub (q := 13) hX dX5_project_12 rfl ?_
  refine v_lstore_n (q := 14) hX dX5_project_13 rfl (Nat.le_of_ble_eq_true rfl) (Nat.le_of_ble_eq_true rfl) rfl ?_
  dsimp only [xs1, xs2, xclr]
  refine v_iconst (q := 15) hX dX5_project_14 rfl ?_
  refine v_istore (q := 17) hX dX5_project_15 (Nat.le_of_ble_eq_true rfl) (Nat.le_of_ble_eq_true rfl) rfl ?_
  dsimp only [xs1, xs2, xclr]
  exact L 0 (Nat.zero_le _)

set_option maxRecDepth 100000 in
set_option maxHeartbeats 4000000 in
theorem c_X5_cover {z : Nat} (D : xD) (r : xR) (hr : xRM r) {B : Int} {np : Nat} (hO : nOk B np (D 352)) (p : Nat) (hp : p < np) : MX 1 mX5_cover [.ref 351, vi p] (356, z) D r (356, z) (xP (vl (nCov (D 352) p)) D r) := by
  refine MX.of (by decide +kernel) [some (.ref 351), some (vi p)] rfl (Nat.le_of_ble_eq_true rfl) ?_
  intro γ hX hRX
  have hn := hO.np
  have hc := nCov_le hO hp
  refine v_aload_n (q := 1) hX dX5_cover_0 rfl rfl rfl ?_
  refine v_iload_n (q := 2) hX dX5_cover_1 rfl rfl rfl ?_
  refine v_bipush (q := 4) hX (by decide) dX5_cover_2 rfl ?_
  refine w_callV (q := 7) hX (c_X5_ofP _ _ hr (p) (6) (by omega)) rfl kV_X5_ofP rfl (by decide) lk_X5_78 (by decide) rfl oX5 (Nat.le_of_ble_eq_true rfl) dX5_cover_4 rfl ?_
  refine v_aload_n (q := 8) hX dX5_cover_7 rfl rfl rfl ?_
  refine v_iconst (q := 9) hX dX5_cover_8 rfl ?_
  refine w_callV (q := 12) hX (c_X5_setting _ _ hr 4 (by omega) (j := 9) rfl) rfl kV_X5_setting rfl (by decide) lk_X5_41 (by decide) rfl oX5 (Nat.le_of_ble_eq_true rfl) dX5_cover_9 rfl ?_
  refine v_lmul (q := 13) hX dX5_cover_12 rfl ?_
  refine v_ldc2 (q := 16) (e := 100) hX (by decide) kl_X5_23 dX5_cover_13 rfl ?_
  refine v_ldiv (q := 17) hX hc.1.1 ⟨by omega, by omega⟩ (by omega) (by decide) dX5_cover_16 rfl ?_
  refine v_lreturn hX hRX rfl dX5_cover_17 rfl ?_
  exact ⟨rfl, rfl, rfl⟩

/-- the hours that are left for one more lot, its setups taken off -/
def nLeft (N : Nat → Int) (np p w : Nat) : Int := N 5 + N 6 - nHours N np w - (if 0 < pF N p (24 + w) then 0 else pF N p 3 + (if nMask N w np >>> (pF N p 0).toNat % 2 = 1 then 0 else N (14 + (pF N p 0).toNat)))
def nRoom (N : Nat → Int) (np p w : Nat) : Int :=
  if (if 0 < nLeft N np p w then nLeft N np p w / pF N p 2 else 0) < 1000 - pF N p (24 + w) then (if 0 < nLeft N np p w then nLeft N np p w / pF N p 2 else 0) else 1000 - pF N p (24 + w)
theorem nLeft_le {B : Int} {np : Nat} {N : Nat → Int} (h : nOk B np N) {p w : Nat} (hp : p < np) (hw : w < 12) : -500600 ≤ nLeft N np p w ∧ nLeft N np p w ≤ 1500 := by
  have h1 := nHours_le h hw
  have hs := h.2.2.2.1
  obtain ⟨f, hf1, hf2, hf3⟩ := h.fam hp
  obtain ⟨-, -, -, h3, -⟩ := h.2.2.2.2.2 p hp
  have h4 := h.2.2.2.2.1 f hf2
  unfold nLeft
  rw [hf3]
  split
  · omega
  · split <;> omega
theorem div_le_self' {a b : Int} (ha : 0 ≤ a) (hb : 1 ≤ b) : 0 ≤ a / b ∧ a / b ≤ a := ⟨Int.ediv_nonneg ha (by omega), Int.ediv_le_self b ha⟩
set_option maxRecDepth 100000 in
set_option maxHeartbeats 4000000 in
theorem c_X5_room {z : Nat} (D : xD) (r : xR) (hr : xRM r) {B : Int} {np : Nat} (hO : nOk B np (D 352)) (p w : Nat) (hp : p < np) (hw : w < 12) : MX 4 mX5_room [.ref 351, vi p, vi w] (356, z) D r (356, z) (xP (vl (nRoom (D 352) np p w)) D r) := by
  refine MX.of (by decide +kernel) [some (.ref 351), some (vi p), some (vi w), none, none, none, none, none, none] rfl (Nat.le_of_ble_eq_true rfl) ?_
  intro γ hX hRX
  have hn := hO.np
  have hh := nHours_le hO hw
  have hs := hO.2.2.2.1
  have hll := nLeft_le hO hp hw
  have hlo := hO.lots hp hw
  obtain ⟨f, hf1, hf2, hf3⟩ := hO.fam hp
  obtain ⟨-, -, hp2, hp3, -⟩ := hO.2.2.2.2.2 p hp
  have hfh := hO.2.2.2.2.1 f hf2
  have hm := nMask_lt hO w np (Nat.le_refl _)
  have K : xV γ 67 [some (.ref 351), some (vi p), some (vi w), some (vl (nLeft (D 352) np p w)), none, none, none, none, none] [] (356, z) D r := by
    refine v_lload_n (q := 68) hX dX5_room_67 rfl rfl rfl ?_
    refine v_lconst (q := 69) (e := 0) hX (by decide) dX5_room_68 rfl ?_
    refine v_lcmp_le (q := 73) (tgt := 84) hX ⟨by omega, by omega⟩ (by decide) dX5_room_69 dX5_room_70 (by decide) rfl (fun h69 => ?_) (fun h69 => ?_)
    · refine v_lconst (q := 85) (e := 0) hX (by decide) dX5_room_84 rfl ?_
      first | have hdv := div_le_self' (a := nLeft (D 352) np p w) (b := pF (D 352) p 2) (by omega) (by omega) | skip
      refine v_lstore (q := 87) hX dX5_room_85 (Nat.le_of_ble_eq_true rfl) (Nat.le_of_ble_eq_true rfl) rfl ?_
      dsimp only [xs1, xs2, xclr]
      refine v_ldc2 (q := 90) (e := 1000) hX (by decide) kl_X5_96 dX5_room_87 rfl ?_
      refine v_aload_n (q := 91) hX dX5_room_90 rfl rfl rfl ?_
      refine v_iload_n (q := 92) hX dX5_room_91 rfl rfl rfl ?_
      refine v_bipush (q := 94) hX (by decide) dX5_room_92 rfl ?_
      refine v_iload_n (q := 95) hX dX5_room_94 rfl rfl rfl ?_
      refine v_iadd (q := 96) hX dX5_room_95 rfl ?_
      refine w_callV (q := 99) hX (c_X5_ofP _ _ hr (p) ((24 + w)) (by omega)) rfl kV_X5_ofP rfl (by decide) lk_X5_78 (by decide) rfl oX5 (Nat.le_of_ble_eq_true rfl) dX5_room_96 rfl ?_
      refine v_lsub (q := 100) hX dX5_room_99 rfl ?_
      refine v_lstore (q := 102) hX dX5_room_100 (Nat.le_of_ble_eq_true rfl) (Nat.le_of_ble_eq_true rfl) rfl ?_
      dsimp only [xs1, xs2, xclr]
      refine v_lload (q := 104) hX dX5_room_102 rfl rfl ?_
      refine v_lload (q := 106) hX dX5_room_104 rfl rfl ?_
      refine v_lcmp_ge (q := 110) (tgt := 115) hX ⟨by omega, by omega⟩ ⟨by omega, by omega⟩ dX5_room_106 dX5_room_107 (by decide) rfl (fun h106 => ?_) (fun h106 => ?_)
      · refine v_lload (q := 117) hX dX5_room_115 rfl rfl ?_
        refine v_lreturn hX hRX rfl dX5_room_117 rfl ?_
        exact ⟨by unfold nRoom; (first | rw [if_pos h69] | rw [if_neg (Int.not_lt.mpr h69)]); (first | rw [if_pos (by omega)] | rw [if_neg (by omega)]), rfl, rfl⟩
      · refine v_lload (q := 112) hX dX5_room_110 rfl rfl ?_
        refine v_goto (tgt := 117) hX dX5_room_112 (by decide) ?_
        refine v_lreturn hX hRX rfl dX5_room_117 rfl ?_
        exact ⟨by unfold nRoom; (first | rw [if_pos h69] | rw [if_neg (Int.not_lt.mpr h69)]); (first | rw [if_pos (by omega)] | rw [if_neg (by omega)]), rfl, rfl⟩
    · refine v_lload_n (q := 74) hX dX5_room_73 rfl rfl rfl ?_
      refine v_aload_n (q := 75) hX dX5_room_74 rfl rfl rfl ?_
      refine v_iload_n (q := 76) hX dX5_room_75 rfl rfl rfl ?_
      refine v_iconst (q := 77) hX dX5_room_76 rfl ?_
      refine w_callV (q := 80) hX (c_X5_ofP _ _ hr (p) (2) (by omega)) rfl kV_X5_ofP rfl (by decide) lk_X5_78 (by decide) rfl oX5 (Nat.le_of_ble_eq_true rfl) dX5_room_77 rfl ?_
      refine v_ldiv (q := 81) hX (by omega) ⟨by omega, by omega⟩ (by omega) ⟨by omega, by omega⟩ dX5_room_80 rfl ?_
      refine v_goto (tgt := 85) hX dX5_room_81 (by decide) ?_
      first | have hdv := div_le_self' (a := nLeft (D 352) np p w) (b := pF (D 352) p 2) (by omega) (by omega) | skip
      refine v_lstore (q := 87) hX dX5_room_85 (Nat.le_of_ble_eq_true rfl) (Nat.le_of_ble_eq_true rfl) rfl ?_
      dsimp only [xs1, xs2, xclr]
      refine v_ldc2 (q := 90) (e := 1000) hX (by decide) kl_X5_96 dX5_room_87 rfl ?_
      refine v_aload_n (q := 91) hX dX5_room_90 rfl rfl rfl ?_
      refine v_iload_n (q := 92) hX dX5_room_91 rfl rfl rfl ?_
      refine v_bipush (q := 94) hX (by decide) dX5_room_92 rfl ?_
      refine v_iload_n (q := 95) hX dX5_room_94 rfl rfl rfl ?_
      refine v_iadd (q := 96) hX dX5_room_95 rfl ?_
      refine w_callV (q := 99) hX (c_X5_ofP _ _ hr (p) ((24 + w)) (by omega)) rfl kV_X5_ofP rfl (by decide) lk_X5_78 (by decide) rfl oX5 (Nat.le_of_ble_eq_true rfl) dX5_room_96 rfl ?_
      refine v_lsub (q := 100) hX dX5_room_99 rfl ?_
      refine v_lstore (q := 102) hX dX5_room_100 (Nat.le_of_ble_eq_true rfl) (Nat.le_of_ble_eq_true rfl) rfl ?_
      dsimp only [xs1, xs2, xclr]
      refine v_lload (q := 104) hX dX5_room_102 rfl rfl ?_
      refine v_lload (q := 106) hX dX5_room_104 rfl rfl ?_
      refine v_lcmp_ge (q := 110) (tgt := 115) hX ⟨by omega, by omega⟩ ⟨by omega, by omega⟩ dX5_room_106 dX5_room_107 (by decide) rfl (fun h106 => ?_) (fun h106 => ?_)
      · refine v_lload (q := 117) hX dX5_room_115 rfl rfl ?_
        refine v_lreturn hX hRX rfl dX5_room_117 rfl ?_
        exact ⟨by unfold nRoom; (first | rw [if_pos h69] | rw [if_neg (Int.not_lt.mpr h69)]); (first | rw [if_pos (by omega)] | rw [if_neg (by omega)]), rfl, rfl⟩
      · refine v_lload (q := 112) hX dX5_room_110 rfl rfl ?_
        refine v_goto (tgt := 117) hX dX5_room_112 (by decide) ?_
        refine v_lreturn hX hRX rfl dX5_room_117 rfl ?_
        exact ⟨by unfold nRoom; (first | rw [if_pos h69] | rw [if_neg (Int.not_lt.mpr h69)]); (first | rw [if_pos (by omega)] | rw [if_neg (by omega)]), rfl, rfl⟩
  refine v_aload_n (q := 1) hX dX5_room_0 rfl rfl rfl ?_
  refine w_callV (q := 4) hX (c_X5_mostHours _ _ hr) rfl kV_X5_mostHours rfl (by decide) lk_X5_92 (by decide) rfl oX5 (Nat.le_of_ble_eq_true rfl) dX5_room_1 rfl ?_
  refine v_aload_n (q := 5) hX dX5_room_4 rfl rfl rfl ?_
  refine v_iload_n (q := 6) hX dX5_room_5 rfl rfl rfl ?_
  refine w_callV (q := 9) hX (c_X5_hoursOf _ _ hr hO (w) (by omega)) rfl kV_X5_hoursOf rfl (by decide) lk_X5_89 (by decide) rfl oX5 (Nat.le_of_ble_eq_true rfl) dX5_room_6 rfl ?_
  refine v_lsub (q := 10) hX dX5_room_9 rfl ?_
  refine v_lstore_n (q := 11) hX dX5_room_10 rfl (Nat.le_of_ble_eq_true rfl) (Nat.le_of_ble_eq_true rfl) rfl ?_
  dsimp only [xs1, xs2, xclr]
  refine v_aload_n (q := 12) hX dX5_room_11 rfl rfl rfl ?_
  refine v_iload_n (q := 13) hX dX5_room_12 rfl rfl rfl ?_
  refine v_iload_n (q := 14) hX dX5_room_13 rfl rfl rfl ?_
  refine w_callV (q := 17) hX (c_X5_isMade _ _ hr hO (p) (w) (by omega) (by omega)) rfl kV_X5_isMade rfl (by decide) lk_X5_82 (by decide) rfl oX5 (Nat.le_of_ble_eq_true rfl) dX5_room_14 rfl ?_
  refine w_ifne (q := 20) (tgt := 67) hX dX5_room_17 (by decide) rfl (fun h17 => ?_) (fun h17 => ?_)
  · refine xVw (pl' := [some (.ref 351), some (vi p), some (vi w), some (vl (nLeft (D 352) np p w)), none, none, none, none, none]) ?_ K
    simp only [xle, and_true, true_and]
    rw [nLeft, hf3]
    first | rw [if_pos (by omega)] | rw [if_neg (by omega)]
    first | rw [if_pos (by omega)] | rw [if_neg (by omega)] | skip
    try rw [Int.sub_zero]
  · refine v_aload_n (q := 21) hX dX5_room_20 rfl rfl rfl ?_
    refine v_iload_n (q := 22) hX dX5_room_21 rfl rfl rfl ?_
    refine v_iconst (q := 23) hX dX5_room_22 rfl ?_
    refine w_callV (q := 26) hX (c_X5_ofP _ _ hr (p) (0) (by omega)) rfl kV_X5_ofP rfl (by decide) lk_X5_78 (by decide) rfl oX5 (Nat.le_of_ble_eq_true rfl) dX5_room_23 rfl ?_
    refine v_l2i (q := 27) hX dX5_room_26 rfl ?_
    rw [hf1]
    refine v_istore (q := 29) hX dX5_room_27 (Nat.le_of_ble_eq_true rfl) (Nat.le_of_ble_eq_true rfl) rfl ?_
    dsimp only [xs1, xs2, xclr]
    refine v_lload_n (q := 30) hX dX5_room_29 rfl rfl rfl ?_
    refine v_aload_n (q := 31) hX dX5_room_30 rfl rfl rfl ?_
    refine v_iload_n (q := 32) hX dX5_room_31 rfl rfl rfl ?_
    refine v_iconst (q := 33) hX dX5_room_32 rfl ?_
    refine w_callV (q := 36) hX (c_X5_ofP _ _ hr (p) (3) (by omega)) rfl kV_X5_ofP rfl (by decide) lk_X5_78 (by decide) rfl oX5 (Nat.le_of_ble_eq_true rfl) dX5_room_33 rfl ?_
    refine v_aload_n (q := 37) hX dX5_room_36 rfl rfl rfl ?_
    refine v_iload_n (q := 38) hX dX5_room_37 rfl rfl rfl ?_
    refine w_callV (q := 41) hX (c_X5_familiesIn _ _ hr hO (w) (by omega)) rfl kV_X5_familiesIn rfl (by decide) lk_X5_86 (by decide) rfl oX5 (Nat.le_of_ble_eq_true rfl) dX5_room_38 rfl ?_
    refine v_iload (q := 43) hX dX5_room_41 rfl rfl ?_
    refine v_ishr (q := 44) hX (_) (bshr4 _ hm _ hf2) dX5_room_43 rfl ?_
    refine v_iconst (q := 45) hX dX5_room_44 rfl ?_
    refine v_iand (q := 46) hX (_) (band1 _ (Nat.lt_of_le_of_lt (Nat.shiftRight_le _ _) hm)) dX5_room_45 rfl ?_
    refine v_iconst (q := 47) hX dX5_room_46 rfl ?_
    refine v_icmp_ne (q := 50) (tgt := 54) hX ⟨by omega, by omega⟩ (by decide) dX5_room_47 (by decide) rfl (fun h47 => ?_) (fun h47 => ?_)
    · refine v_aload_n (q := 55) hX dX5_room_54 rfl rfl rfl ?_
      refine w_getR (q := 58) hX fl_X5_7 rfl oX5 hr.1 dX5_room_55 rfl ?_
      refine v_bipush (q := 60) hX (by decide) dX5_room_58 rfl ?_
      refine v_iload (q := 62) hX dX5_room_60 rfl rfl ?_
      refine v_iadd (q := 63) hX dX5_room_62 rfl ?_
      refine w_lld (q := 64) (kk := (14 + f)) hX (by omega) (by omega) aNow dX5_room_63 rfl ?_
      refine v_ladd (q := 65) hX dX5_room_64 rfl ?_
      refine v_lsub (q := 66) hX dX5_room_65 rfl ?_
      refine v_lstore_n (q := 67) hX dX5_room_66 rfl (Nat.le_of_ble_eq_true rfl) (Nat.le_of_ble_eq_true rfl) rfl ?_
      dsimp only [xs1, xs2, xclr]
      refine xVw (pl' := [some (.ref 351), some (vi p), some (vi w), some (vl (nLeft (D 352) np p w)), none, none, none, none, none]) ?_ K
      simp only [xle, and_true, true_and]
      rw [nLeft, hf3]
      first | rw [if_pos (by omega)] | rw [if_neg (by omega)]
      first | rw [if_pos (by omega)] | rw [if_neg (by omega)] | skip
      try rw [Int.sub_zero]
    · refine v_lconst (q := 51) (e := 0) hX (by decide) dX5_room_50 rfl ?_
      refine v_goto (tgt := 64) hX dX5_room_51 (by decide) ?_
      refine v_ladd (q := 65) hX dX5_room_64 rfl ?_
      refine v_lsub (q := 66) hX dX5_room_65 rfl ?_
      refine v_lstore_n (q := 67) hX dX5_room_66 rfl (Nat.le_of_ble_eq_true rfl) (Nat.le_of_ble_eq_true rfl) rfl ?_
      dsimp only [xs1, xs2, xclr]
      refine xVw (pl' := [some (.ref 351), some (vi p), some (vi w), some (vl (nLeft (D 352) np p w)), none, none, none, none, none]) ?_ K
      simp only [xle, and_true, true_and]
      rw [nLeft, hf3]
      first | rw [if_pos (by omega)] | rw [if_neg (by omega)]
      first | rw [if_pos (by omega)] | rw [if_neg (by omega)] | skip
      try rw [Int.sub_zero]

