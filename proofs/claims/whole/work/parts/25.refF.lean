/-! ===== acts ===== -/
abbrev tA : Type := Int × Int × Int × Int
/-- the error of an act, 0: it is done -/
def actE (N : Nat → Int) (np : Nat) (a : tA) : Int := if a.1 = 102 then eF np a.2.1 a.2.2.1 a.2.2.2 else if a.1 = 97 then eA np a.2.1 a.2.2.2 else if a.1 = 108 then eL N np a.2.1 a.2.2.1 a.2.2.2 else if a.1 = 110 then (if 1 ≤ a.2.1 ∧ a.2.1 ≤ 30 then 0 else -2) else 0
def actN (N : Nat → Int) (np f : Nat) (a : tA) : Nat → Int := if a.1 = 102 then fu N (18 + 36 * a.2.1.toNat + (12 + a.2.2.1.toNat)) a.2.2.2 else if a.1 = 97 then fu N (18 + 36 * a.2.1.toNat + 7) a.2.2.2 else if a.1 = 108 then nSet N a.2.1.toNat a.2.2.1.toNat a.2.2.2 else if a.1 = 110 then nPs np f a.2.1.toNat N else nPlan np f N
/-- an act's numbers are such as texts hold -/
def actI (a : tA) : Prop := (0 ≤ a.2.1 ∧ a.2.1 ≤ 9999) ∧ (0 ≤ a.2.2.1 ∧ a.2.2.1 ≤ 9999) ∧ 0 ≤ a.2.2.2 ∧ a.2.2.2 ≤ 9999
theorem tNums_v (T : Nat → Int) (n p : Nat) (w : Bool) : (0 ≤ (tNums T n p w).2.1.1 ∧ (tNums T n p w).2.1.1 ≤ 9999) ∧ (0 ≤ (tNums T n p w).2.1.2.1 ∧ (tNums T n p w).2.1.2.1 ≤ 9999) ∧ 0 ≤ (tNums T n p w).2.1.2.2 ∧ (tNums T n p w).2.1.2.2 ≤ 9999 := by
  unfold tNums
  have a := tSig_v T n (p + 1) 64
  have b := tSig_v T n (tSig T n (p + 1) 64).2.2 42
  have c := tSig_v T n (p + 1) 42
  split
  · split
    · split
      · exact ⟨by dsimp only; omega, a, b⟩
      · exact ⟨by dsimp only; omega, by dsimp only; omega, by dsimp only; omega⟩
    · exact ⟨by dsimp only; omega, by dsimp only; omega, c⟩
  · exact ⟨by dsimp only; omega, by dsimp only; omega, by dsimp only; omega⟩
theorem tAct_v (T : Nat → Int) (n p : Nat) : actI (tAct T n p).2.1 := by
  have z : (0 : Int) ≤ 0 ∧ (0 : Int) ≤ 9999 := by decide
  unfold tAct actI
  have a := tNum_v T n (p + 1)
  have b := tNums_v T n (p + 1) (decide (tCh T n p ≠ 97))
  split
  · exact ⟨a, z, z⟩
  · split
    · exact ⟨z, z, z⟩
    · split
      · exact b
      · exact ⟨z, z, z⟩
theorem tAct_k (T : Nat → Int) (n p : Nat) (h : (tAct T n p).1 = true) : (tAct T n p).2.1.1 = 102 ∨ (tAct T n p).2.1.1 = 97 ∨ (tAct T n p).2.1.1 = 108 ∨ (tAct T n p).2.1.1 = 110 ∨ (tAct T n p).2.1.1 = 112 := by
  unfold tAct at h ⊢
  split
  · exact Or.inr (Or.inr (Or.inr (Or.inl rfl)))
  · rename_i h1
    rw [if_neg h1] at h
    split
    · exact Or.inr (Or.inr (Or.inr (Or.inr rfl)))
    · rename_i h2
      rw [if_neg h2] at h
      split
      · rename_i h3
        show tCh T n p = 102 ∨ tCh T n p = 97 ∨ tCh T n p = 108 ∨ _
        rcases h3 with h3 | h3 | h3
        · exact Or.inl h3
        · exact Or.inr (Or.inl h3)
        · exact Or.inr (Or.inr (Or.inl h3))
      · rename_i h3
        rw [if_neg h3] at h
        cases h
theorem eF_0 {np : Nat} {p w u : Int} (h : eF np p w u = 0) : (0 ≤ p ∧ p < np) ∧ (0 ≤ w ∧ w < 12) ∧ 0 ≤ u ∧ u ≤ 1000 := by
  unfold eF at h
  split at h
  · rename_i h1
    split at h
    · rename_i h2; exact ⟨h1.1, h1.2, h2⟩
    · omega
  · omega
theorem eA_0 {np : Nat} {p u : Int} (h : eA np p u = 0) : (0 ≤ p ∧ p < np) ∧ (u = -6 ∨ (0 ≤ u ∧ u ≤ 2000)) := by
  unfold eA at h
  split at h
  · rename_i h1
    split at h
    · rename_i h2; exact ⟨h1, h2⟩
    · omega
  · omega
theorem eL_0 {N : Nat → Int} {np : Nat} {p w u : Int} (h : eL N np p w u = 0) : (0 ≤ p ∧ p < np) ∧ (0 ≤ w ∧ w < 12) ∧ 0 ≤ u ∧ u ≤ 1000 := by
  unfold eL at h
  split at h
  · rename_i h1
    split at h
    · rename_i h2; exact ⟨h1.1, h1.2, h2⟩
    · omega
  · omega
theorem actN_V {B : Int} {np f : Nat} {N : Nat → Int} {a : tA} (h : nV B np N) (hf : f ≤ 8) (hB : B + 100000 ≤ 2100000000) (he : actE N np a = 0) : nV (B + 100000) np (actN N np f a) := by
  have hm := h.mono (B' := B + 100000) (by omega) hB
  unfold actE at he
  unfold actN
  by_cases h1 : a.1 = 102
  · rw [if_pos h1] at he ⊢
    obtain ⟨a1, a2, a3⟩ := eF_0 he
    exact hm.fcs (by omega) (by omega) a3
  rw [if_neg h1] at he ⊢
  by_cases h2 : a.1 = 97
  · rw [if_pos h2] at he ⊢
    obtain ⟨a1, a2⟩ := eA_0 he
    exact hm.told (by omega) a2
  rw [if_neg h2] at he ⊢
  by_cases h3 : a.1 = 108
  · rw [if_pos h3] at he ⊢
    obtain ⟨a1, a2, a3⟩ := eL_0 he
    exact h.lots hB (by omega) (by omega) a3
  rw [if_neg h3] at he ⊢
  by_cases h4 : a.1 = 110
  · rw [if_pos h4] at he ⊢
    have h5 : 1 ≤ a.2.1 ∧ a.2.1 ≤ 30 := by
      apply Classical.byContradiction
      intro h6
      rw [if_neg h6] at he
      omega
    exact (nPs_I hf a.2.1.toNat N h (by omega)).mono (by omega) hB
  · rw [if_neg h4]
    exact nPlan_I hm hf
theorem actN_hd {np f : Nat} {N : Nat → Int} (a : tA) {i : Nat} (hi : i = 1 ∨ (5 ≤ i ∧ i < 18)) : actN N np f a i = N i := by
  unfold actN nSet
  repeat' split
  · exact fu_ne _ _ _ (by omega)
  · exact fu_ne _ _ _ (by omega)
  · exact fu_ne _ _ _ (by omega)
  · exact nPs_hd np f hi _ _
  · exact nPlan_hd np f _ (by omega)
theorem actE_le (N : Nat → Int) (np : Nat) (a : tA) : -5 ≤ actE N np a ∧ actE N np a ≤ 0 := by
  unfold actE
  have x1 := eF_le np a.2.1 a.2.2.1 a.2.2.2
  have x2 := eA_le np a.2.1 a.2.2.2
  have x3 := eL_le N np a.2.1 a.2.2.1 a.2.2.2
  repeat' split
  all_goals omega
set_option maxRecDepth 100000 in
set_option maxHeartbeats 4000000 in
theorem c_X5_acts_err {z : Nat} (D : xD) (r : xR) (hr : xRM r) {B : Int} {np : Nat} (hV : nV B np (D 352)) (hB : B + 100000 ≤ 2100000000) (f : Nat) (hf1 : D 352 7 = (f : Int)) (hf2 : f ≤ 8) (a : tA) (hk : a.1 = 102 ∨ a.1 = 97 ∨ a.1 = 108 ∨ a.1 = 110 ∨ a.1 = 112) (hi : actI a) (hrd : rdOk (D 351) a) (he : actE (D 352) np a ≠ 0) : MX 9 mX5_acts [.ref 351] (356, z) D r (356, z) (xP (vi (actE (D 352) np a)) D r) := by
  refine MX.of (by decide +kernel) [some (.ref 351), none, none] rfl (Nat.le_of_ble_eq_true rfl) ?_
  intro γ hX hRX
  obtain ⟨i1, i2, i3⟩ := hi
  obtain ⟨r7, r110, r3, r10⟩ := hrd
  have hn := hV.1.np
  have hO := hV.1
  rcases hk with hk0 | hk0 | hk0 | hk0 | hk0
  · rw [actE, if_pos hk0] at he
    have hle := eF_le np a.2.1 a.2.2.1 a.2.2.2
    refine v_iconst (q := 1) hX dX5_acts_0 rfl ?_
    refine v_istore_n (q := 2) hX dX5_acts_1 rfl (Nat.le_of_ble_eq_true rfl) (Nat.le_of_ble_eq_true rfl) rfl ?_
    dsimp only [xs1, xs2, xclr]
    refine v_aload_n (q := 3) hX dX5_acts_2 rfl rfl rfl ?_
    refine w_getI (q := 6) hX fl_X5_230 rfl oX5 dX5_acts_3 rfl ?_
    refine v_bipush (q := 8) hX (by decide) dX5_acts_6 rfl ?_
    refine v_icmp_ne (q := 11) (tgt := 58) hX ⟨by rw [r7]; omega, by rw [r7]; omega⟩ (by decide) dX5_acts_8 (by decide) rfl (fun h8 => ?_) (fun h8 => ?_)
    · exact absurd (r7.trans hk0) h8
    · refine v_aload_n (q := 12) hX dX5_acts_11 rfl rfl rfl ?_
      refine v_aload_n (q := 13) hX dX5_acts_12 rfl rfl rfl ?_
      refine w_getI (q := 16) hX fl_X5_218 rfl oX5 dX5_acts_13 rfl ?_
      refine v_aload_n (q := 17) hX dX5_acts_16 rfl rfl rfl ?_
      refine w_getI (q := 20) hX fl_X5_224 rfl oX5 dX5_acts_17 rfl ?_
      refine v_aload_n (q := 21) hX dX5_acts_20 rfl rfl rfl ?_
      refine w_getI (q := 24) hX fl_X5_227 rfl oX5 dX5_acts_21 rfl ?_
      rw [(r3 (Or.inl hk0)).1, (r3 (Or.inl hk0)).2, r10 (Or.inl hk0)]
      refine w_callV (q := 27) hX (c_X5_forecastError _ _ hr hn a.2.1 a.2.2.1 a.2.2.2 ⟨by omega, by omega⟩ ⟨by omega, by omega⟩ ⟨by omega, by omega⟩) rfl kV_X5_forecastError rfl (by decide) lk_X5_134 (by decide) rfl oX5 (Nat.le_of_ble_eq_true rfl) dX5_acts_24 rfl ?_
      refine v_istore_n (q := 28) hX dX5_acts_27 rfl (Nat.le_of_ble_eq_true rfl) (Nat.le_of_ble_eq_true rfl) rfl ?_
      dsimp only [xs1, xs2, xclr]
      refine v_iload_n (q := 29) hX dX5_acts_28 rfl rfl rfl ?_
      refine v_iload_n (q := 30) hX dX5_acts_29 rfl rfl rfl ?_
      refine v_if_eq (q := 33) (tgt := 37) hX ⟨by omega, by omega⟩ dX5_acts_30 (by decide) rfl (fun h30 => ?_) (fun h30 => ?_)
      · exact absurd h30 he
      · refine v_iconst (q := 34) hX dX5_acts_33 rfl ?_
        refine v_goto (tgt := 53) hX dX5_acts_34 (by decide) ?_
        refine v_iadd (q := 54) hX dX5_acts_53 rfl ?_
        refine v_istore_n (q := 55) hX dX5_acts_54 rfl (Nat.le_of_ble_eq_true rfl) (Nat.le_of_ble_eq_true rfl) rfl ?_
        dsimp only [xs1, xs2, xclr]
        refine v_goto (tgt := 221) hX dX5_acts_55 (by decide) ?_
        refine v_iload_n (q := 222) hX dX5_acts_221 rfl rfl rfl ?_
        refine v_ireturn hX hRX rfl (by first | rfl | exact bi_nar _) dX5_acts_222 rfl ?_
        refine ⟨congrArg (fun e => some (vi e)) ?_, rfl, rfl⟩
        rw [actE, if_pos hk0]
  · rw [actE, if_neg (show ¬ a.1 = 102 by omega), if_pos hk0] at he
    have hle := eA_le np a.2.1 a.2.2.2
    refine v_iconst (q := 1) hX dX5_acts_0 rfl ?_
    refine v_istore_n (q := 2) hX dX5_acts_1 rfl (Nat.le_of_ble_eq_true rfl) (Nat.le_of_ble_eq_true rfl) rfl ?_
    dsimp only [xs1, xs2, xclr]
    refine v_aload_n (q := 3) hX dX5_acts_2 rfl rfl rfl ?_
    refine w_getI (q := 6) hX fl_X5_230 rfl oX5 dX5_acts_3 rfl ?_
    refine v_bipush (q := 8) hX (by decide) dX5_acts_6 rfl ?_
    refine v_icmp_ne (q := 11) (tgt := 58) hX ⟨by rw [r7]; omega, by rw [r7]; omega⟩ (by decide) dX5_acts_8 (by decide) rfl (fun h8 => ?_) (fun h8 => ?_)
    · refine v_aload_n (q := 59) hX dX5_acts_58 rfl rfl rfl ?_
      refine w_getI (q := 62) hX fl_X5_230 rfl oX5 dX5_acts_59 rfl ?_
      refine v_bipush (q := 64) hX (by decide) dX5_acts_62 rfl ?_
      refine v_icmp_ne (q := 67) (tgt := 106) hX ⟨by rw [r7]; omega, by rw [r7]; omega⟩ (by decide) dX5_acts_64 (by decide) rfl (fun h64 => ?_) (fun h64 => ?_)
      · exact absurd (r7.trans hk0) h64
      · refine v_aload_n (q := 68) hX dX5_acts_67 rfl rfl rfl ?_
        refine v_aload_n (q := 69) hX dX5_acts_68 rfl rfl rfl ?_
        refine w_getI (q := 72) hX fl_X5_218 rfl oX5 dX5_acts_69 rfl ?_
        refine v_aload_n (q := 73) hX dX5_acts_72 rfl rfl rfl ?_
        refine w_getI (q := 76) hX fl_X5_227 rfl oX5 dX5_acts_73 rfl ?_
        rw [(r3 (Or.inr (Or.inl hk0))).1, (r3 (Or.inr (Or.inl hk0))).2]
        refine w_callV (q := 79) hX (c_X5_actualError _ _ hr hn a.2.1 a.2.2.2 ⟨by omega, by omega⟩ ⟨by omega, by omega⟩) rfl kV_X5_actualError rfl (by decide) lk_X5_143 (by decide) rfl oX5 (Nat.le_of_ble_eq_true rfl) dX5_acts_76 rfl ?_
        refine v_istore_n (q := 80) hX dX5_acts_79 rfl (Nat.le_of_ble_eq_true rfl) (Nat.le_of_ble_eq_true rfl) rfl ?_
        dsimp only [xs1, xs2, xclr]
        refine v_iload_n (q := 81) hX dX5_acts_80 rfl rfl rfl ?_
        refine v_iload_n (q := 82) hX dX5_acts_81 rfl rfl rfl ?_
        refine v_if_eq (q := 85) (tgt := 89) hX ⟨by omega, by omega⟩ dX5_acts_82 (by decide) rfl (fun h82 => ?_) (fun h82 => ?_)
        · exact absurd h82 he
        · refine v_iconst (q := 86) hX dX5_acts_85 rfl ?_
          refine v_goto (tgt := 101) hX dX5_acts_86 (by decide) ?_
          refine v_iadd (q := 102) hX dX5_acts_101 rfl ?_
          refine v_istore_n (q := 103) hX dX5_acts_102 rfl (Nat.le_of_ble_eq_true rfl) (Nat.le_of_ble_eq_true rfl) rfl ?_
          dsimp only [xs1, xs2, xclr]
          refine v_goto (tgt := 221) hX dX5_acts_103 (by decide) ?_
          refine v_iload_n (q := 222) hX dX5_acts_221 rfl rfl rfl ?_
          refine v_ireturn hX hRX rfl (by first | rfl | exact bi_nar _) dX5_acts_222 rfl ?_
          refine ⟨congrArg (fun e => some (vi e)) ?_, rfl, rfl⟩
          rw [actE, if_neg (show ¬ a.1 = 102 by omega), if_pos hk0]
    · exact absurd h8 (by rw [r7]; omega)
  · rw [actE, if_neg (show ¬ a.1 = 102 by omega), if_neg (show ¬ a.1 = 97 by omega), if_pos hk0] at he
    have hle := eL_le (D 352) np a.2.1 a.2.2.1 a.2.2.2
    refine v_iconst (q := 1) hX dX5_acts_0 rfl ?_
    refine v_istore_n (q := 2) hX dX5_acts_1 rfl (Nat.le_of_ble_eq_true rfl) (Nat.le_of_ble_eq_true rfl) rfl ?_
    dsimp only [xs1, xs2, xclr]
    refine v_aload_n (q := 3) hX dX5_acts_2 rfl rfl rfl ?_
    refine w_getI (q := 6) hX fl_X5_230 rfl oX5 dX5_acts_3 rfl ?_
    refine v_bipush (q := 8) hX (by decide) dX5_acts_6 rfl ?_
    refine v_icmp_ne (q := 11) (tgt := 58) hX ⟨by rw [r7]; omega, by rw [r7]; omega⟩ (by decide) dX5_acts_8 (by decide) rfl (fun h8 => ?_) (fun h8 => ?_)
    · refine v_aload_n (q := 59) hX dX5_acts_58 rfl rfl rfl ?_
      refine w_getI (q := 62) hX fl_X5_230 rfl oX5 dX5_acts_59 rfl ?_
      refine v_bipush (q := 64) hX (by decide) dX5_acts_62 rfl ?_
      refine v_icmp_ne (q := 67) (tgt := 106) hX ⟨by rw [r7]; omega, by rw [r7]; omega⟩ (by decide) dX5_acts_64 (by decide) rfl (fun h64 => ?_) (fun h64 => ?_)
      · refine v_aload_n (q := 107) hX dX5_acts_106 rfl rfl rfl ?_
        refine w_getI (q := 110) hX fl_X5_230 rfl oX5 dX5_acts_107 rfl ?_
        refine v_bipush (q := 112) hX (by decide) dX5_acts_110 rfl ?_
        refine v_icmp_ne (q := 115) (tgt := 162) hX ⟨by rw [r7]; omega, by rw [r7]; omega⟩ (by decide) dX5_acts_112 (by decide) rfl (fun h112 => ?_) (fun h112 => ?_)
        · exact absurd (r7.trans hk0) h112
        · refine v_aload_n (q := 116) hX dX5_acts_115 rfl rfl rfl ?_
          refine v_aload_n (q := 117) hX dX5_acts_116 rfl rfl rfl ?_
          refine w_getI (q := 120) hX fl_X5_218 rfl oX5 dX5_acts_117 rfl ?_
          refine v_aload_n (q := 121) hX dX5_acts_120 rfl rfl rfl ?_
          refine w_getI (q := 124) hX fl_X5_224 rfl oX5 dX5_acts_121 rfl ?_
          refine v_aload_n (q := 125) hX dX5_acts_124 rfl rfl rfl ?_
          refine w_getI (q := 128) hX fl_X5_227 rfl oX5 dX5_acts_125 rfl ?_
          rw [(r3 (Or.inr (Or.inr hk0))).1, (r3 (Or.inr (Or.inr hk0))).2, r10 (Or.inr hk0)]
          refine w_callV (q := 131) hX (c_X5_lotsError _ _ hr hO a.2.1 a.2.2.1 a.2.2.2 ⟨by omega, by omega⟩ ⟨by omega, by omega⟩ ⟨by omega, by omega⟩) rfl kV_X5_lotsError rfl (by decide) lk_X5_149 (by decide) rfl oX5 (Nat.le_of_ble_eq_true rfl) dX5_acts_128 rfl ?_
          refine v_istore_n (q := 132) hX dX5_acts_131 rfl (Nat.le_of_ble_eq_true rfl) (Nat.le_of_ble_eq_true rfl) rfl ?_
          dsimp only [xs1, xs2, xclr]
          refine v_iload_n (q := 133) hX dX5_acts_132 rfl rfl rfl ?_
          refine v_iload_n (q := 134) hX dX5_acts_133 rfl rfl rfl ?_
          refine v_if_eq (q := 137) (tgt := 141) hX ⟨by omega, by omega⟩ dX5_acts_134 (by decide) rfl (fun h134 => ?_) (fun h134 => ?_)
          · exact absurd h134 he
          · refine v_iconst (q := 138) hX dX5_acts_137 rfl ?_
            refine v_goto (tgt := 157) hX dX5_acts_138 (by decide) ?_
            refine v_iadd (q := 158) hX dX5_acts_157 rfl ?_
            refine v_istore_n (q := 159) hX dX5_acts_158 rfl (Nat.le_of_ble_eq_true rfl) (Nat.le_of_ble_eq_true rfl) rfl ?_
            dsimp only [xs1, xs2, xclr]
            refine v_goto (tgt := 221) hX dX5_acts_159 (by decide) ?_
            refine v_iload_n (q := 222) hX dX5_acts_221 rfl rfl rfl ?_
            refine v_ireturn hX hRX rfl (by first | rfl | exact bi_nar _) dX5_acts_222 rfl ?_
            refine ⟨congrArg (fun e => some (vi e)) ?_, rfl, rfl⟩
            rw [actE, if_neg (show ¬ a.1 = 102 by omega), if_neg (show ¬ a.1 = 97 by omega), if_pos hk0]
      · exact absurd h64 (by rw [r7]; omega)
    · exact absurd h8 (by rw [r7]; omega)
  · rw [actE, if_neg (show ¬ a.1 = 102 by omega), if_neg (show ¬ a.1 = 97 by omega), if_neg (show ¬ a.1 = 108 by omega), if_pos hk0] at he
    refine v_iconst (q := 1) hX dX5_acts_0 rfl ?_
    refine v_istore_n (q := 2) hX dX5_acts_1 rfl (Nat.le_of_ble_eq_true rfl) (Nat.le_of_ble_eq_true rfl) rfl ?_
    dsimp only [xs1, xs2, xclr]
    refine v_aload_n (q := 3) hX dX5_acts_2 rfl rfl rfl ?_
    refine w_getI (q := 6) hX fl_X5_230 rfl oX5 dX5_acts_3 rfl ?_
    refine v_bipush (q := 8) hX (by decide) dX5_acts_6 rfl ?_
    refine v_icmp_ne (q := 11) (tgt := 58) hX ⟨by rw [r7]; omega, by rw [r7]; omega⟩ (by decide) dX5_acts_8 (by decide) rfl (fun h8 => ?_) (fun h8 => ?_)
    · refine v_aload_n (q := 59) hX dX5_acts_58 rfl rfl rfl ?_
      refine w_getI (q := 62) hX fl_X5_230 rfl oX5 dX5_acts_59 rfl ?_
      refine v_bipush (q := 64) hX (by decide) dX5_acts_62 rfl ?_
      refine v_icmp_ne (q := 67) (tgt := 106) hX ⟨by rw [r7]; omega, by rw [r7]; omega⟩ (by decide) dX5_acts_64 (by decide) rfl (fun h64 => ?_) (fun h64 => ?_)
      · refine v_aload_n (q := 107) hX dX5_acts_106 rfl rfl rfl ?_
        refine w_getI (q := 110) hX fl_X5_230 rfl oX5 dX5_acts_107 rfl ?_
        refine v_bipush (q := 112) hX (by decide) dX5_acts_110 rfl ?_
        refine v_icmp_ne (q := 115) (tgt := 162) hX ⟨by rw [r7]; omega, by rw [r7]; omega⟩ (by decide) dX5_acts_112 (by decide) rfl (fun h112 => ?_) (fun h112 => ?_)
        · refine v_aload_n (q := 163) hX dX5_acts_162 rfl rfl rfl ?_
          refine w_getI (q := 166) hX fl_X5_230 rfl oX5 dX5_acts_163 rfl ?_
          refine v_bipush (q := 168) hX (by decide) dX5_acts_166 rfl ?_
          refine v_icmp_ne (q := 171) (tgt := 215) hX ⟨by rw [r7]; omega, by rw [r7]; omega⟩ (by decide) dX5_acts_168 (by decide) rfl (fun h168 => ?_) (fun h168 => ?_)
          · exact absurd (r7.trans hk0) h168
          · refine v_aload_n (q := 172) hX dX5_acts_171 rfl rfl rfl ?_
            refine w_getI (q := 175) hX fl_X5_218 rfl oX5 dX5_acts_172 rfl ?_
            rw [r110 hk0]
            refine v_i2l (q := 176) hX ⟨by omega, by omega⟩ dX5_acts_175 rfl ?_
            refine v_lconst (q := 177) (e := 1) hX (by decide) dX5_acts_176 rfl ?_
            refine v_ldc2 (q := 180) (e := 30) hX (by decide) kl_X5_175 dX5_acts_177 rfl ?_
            refine w_callS (q := 183) hX (c_X5_isIn _ _ _ _ _ ⟨by omega, by omega⟩ ⟨by omega, by omega⟩ ⟨by omega, by omega⟩) rfl kS_X5_isIn rfl (by decide) lk_X5_35 (Nat.le_of_ble_eq_true rfl) dX5_acts_180 rfl ?_
            refine w_ifeq (q := 186) (tgt := 190) hX dX5_acts_183 (by decide) rfl (fun h183 => ?_) (fun h183 => ?_)
            · refine v_bipush (q := 192) hX (by decide) dX5_acts_190 rfl ?_
              refine v_istore_n (q := 193) hX dX5_acts_192 rfl (Nat.le_of_ble_eq_true rfl) (Nat.le_of_ble_eq_true rfl) rfl ?_
              dsimp only [xs1, xs2, xclr]
              refine v_iload_n (q := 194) hX dX5_acts_193 rfl rfl rfl ?_
              refine v_iload_n (q := 195) hX dX5_acts_194 rfl rfl rfl ?_
              refine v_if_eq (q := 198) (tgt := 202) hX (by decide) dX5_acts_195 (by decide) rfl (fun h195 => ?_) (fun h195 => ?_)
              · exact absurd h195 (by decide)
              · refine v_iconst (q := 199) hX dX5_acts_198 rfl ?_
                refine v_goto (tgt := 210) hX dX5_acts_199 (by decide) ?_
                refine v_iadd (q := 211) hX dX5_acts_210 rfl ?_
                refine v_istore_n (q := 212) hX dX5_acts_211 rfl (Nat.le_of_ble_eq_true rfl) (Nat.le_of_ble_eq_true rfl) rfl ?_
                dsimp only [xs1, xs2, xclr]
                refine v_goto (tgt := 221) hX dX5_acts_212 (by decide) ?_
                refine v_iload_n (q := 222) hX dX5_acts_221 rfl rfl rfl ?_
                refine v_ireturn hX hRX rfl (by first | rfl | exact bi_nar _) dX5_acts_222 rfl ?_
                refine ⟨congrArg (fun e => some (vi e)) ?_, rfl, rfl⟩
                rw [actE, if_neg (show ¬ a.1 = 102 by omega), if_neg (show ¬ a.1 = 97 by omega), if_neg (show ¬ a.1 = 108 by omega), if_pos hk0]
                rw [if_neg h183]
            · exact absurd (if_pos h183) he
        · exact absurd h112 (by rw [r7]; omega)
      · exact absurd h64 (by rw [r7]; omega)
    · exact absurd h8 (by rw [r7]; omega)
  · exact absurd (by rw [actE, if_neg (show ¬ a.1 = 102 by omega), if_neg (show ¬ a.1 = 97 by omega), if_neg (show ¬ a.1 = 108 by omega), if_neg (show ¬ a.1 = 110 by omega)]) he


set_option maxRecDepth 100000 in
set_option maxHeartbeats 4000000 in
theorem c_X5_acts {z : Nat} (D : xD) (r : xR) (hr : xRM r) {B : Int} {np : Nat} (hV : nV B np (D 352)) (hB : B + 100000 ≤ 2100000000) (f : Nat) (hf1 : D 352 7 = (f : Int)) (hf2 : f ≤ 8) (a : tA) (hk : a.1 = 102 ∨ a.1 = 97 ∨ a.1 = 108 ∨ a.1 = 110 ∨ a.1 = 112) (hi : actI a) (hrd : rdOk (D 351) a) (he : actE (D 352) np a = 0) : MX 9 mX5_acts [.ref 351] (356, z) D r (356, z) (xEs (vi 0) (fun D' => D' = xw D 352 (actN (D 352) np f a)) r) := by
  refine MX.of (by decide +kernel) [some (.ref 351), none, none] rfl (Nat.le_of_ble_eq_true rfl) ?_
  intro γ hX hRX
  obtain ⟨i1, i2, i3⟩ := hi
  obtain ⟨r7, r110, r3, r10⟩ := hrd
  have hn := hV.1.np
  have hO := hV.1
  rcases hk with hk0 | hk0 | hk0 | hk0 | hk0
  · rw [actE, if_pos hk0] at he
    have hle := eF_le np a.2.1 a.2.2.1 a.2.2.2
    refine v_iconst (q := 1) hX dX5_acts_0 rfl ?_
    refine v_istore_n (q := 2) hX dX5_acts_1 rfl (Nat.le_of_ble_eq_true rfl) (Nat.le_of_ble_eq_true rfl) rfl ?_
    dsimp only [xs1, xs2, xclr]
    refine v_aload_n (q := 3) hX dX5_acts_2 rfl rfl rfl ?_
    refine w_getI (q := 6) hX fl_X5_230 rfl oX5 dX5_acts_3 rfl ?_
    refine v_bipush (q := 8) hX (by decide) dX5_acts_6 rfl ?_
    refine v_icmp_ne (q := 11) (tgt := 58) hX ⟨by rw [r7]; omega, by rw [r7]; omega⟩ (by decide) dX5_acts_8 (by decide) rfl (fun h8 => ?_) (fun h8 => ?_)
    · exact absurd (r7.trans hk0) h8
    · refine v_aload_n (q := 12) hX dX5_acts_11 rfl rfl rfl ?_
      refine v_aload_n (q := 13) hX dX5_acts_12 rfl rfl rfl ?_
      refine w_getI (q := 16) hX fl_X5_218 rfl oX5 dX5_acts_13 rfl ?_
      refine v_aload_n (q := 17) hX dX5_acts_16 rfl rfl rfl ?_
      refine w_getI (q := 20) hX fl_X5_224 rfl oX5 dX5_acts_17 rfl ?_
      refine v_aload_n (q := 21) hX dX5_acts_20 rfl rfl rfl ?_
      refine w_getI (q := 24) hX fl_X5_227 rfl oX5 dX5_acts_21 rfl ?_
      rw [(r3 (Or.inl hk0)).1, (r3 (Or.inl hk0)).2, r10 (Or.inl hk0)]
      refine w_callV (q := 27) hX (c_X5_forecastError _ _ hr hn a.2.1 a.2.2.1 a.2.2.2 ⟨by omega, by omega⟩ ⟨by omega, by omega⟩ ⟨by omega, by omega⟩) rfl kV_X5_forecastError rfl (by decide) lk_X5_134 (by decide) rfl oX5 (Nat.le_of_ble_eq_true rfl) dX5_acts_24 rfl ?_
      refine v_istore_n (q := 28) hX dX5_acts_27 rfl (Nat.le_of_ble_eq_true rfl) (Nat.le_of_ble_eq_true rfl) rfl ?_
      dsimp only [xs1, xs2, xclr]
      refine v_iload_n (q := 29) hX dX5_acts_28 rfl rfl rfl ?_
      refine v_iload_n (q := 30) hX dX5_acts_29 rfl rfl rfl ?_
      refine v_if_eq (q := 33) (tgt := 37) hX ⟨by omega, by omega⟩ dX5_acts_30 (by decide) rfl (fun h30 => ?_) (fun h30 => ?_)
      · refine v_aload_n (q := 38) hX dX5_acts_37 rfl rfl rfl ?_
        refine v_aload_n (q := 39) hX dX5_acts_38 rfl rfl rfl ?_
        refine w_getI (q := 42) hX fl_X5_218 rfl oX5 dX5_acts_39 rfl ?_
        refine v_aload_n (q := 43) hX dX5_acts_42 rfl rfl rfl ?_
        refine w_getI (q := 46) hX fl_X5_224 rfl oX5 dX5_acts_43 rfl ?_
        refine v_aload_n (q := 47) hX dX5_acts_46 rfl rfl rfl ?_
        refine w_getI (q := 50) hX fl_X5_227 rfl oX5 dX5_acts_47 rfl ?_
        obtain ⟨a1, a2, a3⟩ := eF_0 he
        rw [(r3 (Or.inl hk0)).1, (r3 (Or.inl hk0)).2, r10 (Or.inl hk0), show vi a.2.1 = vi (a.2.1.toNat : Nat) by rw [Int.toNat_of_nonneg a1.1], show vi a.2.2.1 = vi (a.2.2.1.toNat : Nat) by rw [Int.toNat_of_nonneg a2.1]]
        refine w_callVe (q := 53) hX (c_X5_forecasts _ _ hr a.2.1.toNat a.2.2.1.toNat a.2.2.2 (by omega) (by omega) ⟨by omega, by omega⟩) rfl kV_X5_forecasts rfl (by decide) lk_X5_138 (by decide) rfl oX5 (Nat.le_of_ble_eq_true rfl) dX5_acts_50 rfl (fun D1 hD1 => ?_)
        subst hD1
        refine v_iadd (q := 54) hX dX5_acts_53 rfl ?_
        refine v_istore_n (q := 55) hX dX5_acts_54 rfl (Nat.le_of_ble_eq_true rfl) (Nat.le_of_ble_eq_true rfl) rfl ?_
        dsimp only [xs1, xs2, xclr]
        refine v_goto (tgt := 221) hX dX5_acts_55 (by decide) ?_
        refine v_iload_n (q := 222) hX dX5_acts_221 rfl rfl rfl ?_
        refine v_ireturn hX hRX rfl (by first | rfl | exact bi_nar _) dX5_acts_222 rfl ?_
        refine ⟨congrArg (fun e => some (vi e)) ?_, rfl, ?_⟩
        · exact he
        · rw [actN, if_pos hk0]
      · exact absurd he h30
  · rw [actE, if_neg (show ¬ a.1 = 102 by omega), if_pos hk0] at he
    have hle := eA_le np a.2.1 a.2.2.2
    refine v_iconst (q := 1) hX dX5_acts_0 rfl ?_
    refine v_istore_n (q := 2) hX dX5_acts_1 rfl (Nat.le_of_ble_eq_true rfl) (Nat.le_of_ble_eq_true rfl) rfl ?_
    dsimp only [xs1, xs2, xclr]
    refine v_aload_n (q := 3) hX dX5_acts_2 rfl rfl rfl ?_
    refine w_getI (q := 6) hX fl_X5_230 rfl oX5 dX5_acts_3 rfl ?_
    refine v_bipush (q := 8) hX (by decide) dX5_acts_6 rfl ?_
    refine v_icmp_ne (q := 11) (tgt := 58) hX ⟨by rw [r7]; omega, by rw [r7]; omega⟩ (by decide) dX5_acts_8 (by decide) rfl (fun h8 => ?_) (fun h8 => ?_)
    · refine v_aload_n (q := 59) hX dX5_acts_58 rfl rfl rfl ?_
      refine w_getI (q := 62) hX fl_X5_230 rfl oX5 dX5_acts_59 rfl ?_
      refine v_bipush (q := 64) hX (by decide) dX5_acts_62 rfl ?_
      refine v_icmp_ne (q := 67) (tgt := 106) hX ⟨by rw [r7]; omega, by rw [r7]; omega⟩ (by decide) dX5_acts_64 (by decide) rfl (fun h64 => ?_) (fun h64 => ?_)
      · exact absurd (r7.trans hk0) h64
      · refine v_aload_n (q := 68) hX dX5_acts_67 rfl rfl rfl ?_
        refine v_aload_n (q := 69) hX dX5_acts_68 rfl rfl rfl ?_
        refine w_getI (q := 72) hX fl_X5_218 rfl oX5 dX5_acts_69 rfl ?_
        refine v_aload_n (q := 73) hX dX5_acts_72 rfl rfl rfl ?_
        refine w_getI (q := 76) hX fl_X5_227 rfl oX5 dX5_acts_73 rfl ?_
        rw [(r3 (Or.inr (Or.inl hk0))).1, (r3 (Or.inr (Or.inl hk0))).2]
        refine w_callV (q := 79) hX (c_X5_actualError _ _ hr hn a.2.1 a.2.2.2 ⟨by omega, by omega⟩ ⟨by omega, by omega⟩) rfl kV_X5_actualError rfl (by decide) lk_X5_143 (by decide) rfl oX5 (Nat.le_of_ble_eq_true rfl) dX5_acts_76 rfl ?_
        refine v_istore_n (q := 80) hX dX5_acts_79 rfl (Nat.le_of_ble_eq_true rfl) (Nat.le_of_ble_eq_true rfl) rfl ?_
        dsimp only [xs1, xs2, xclr]
        refine v_iload_n (q := 81) hX dX5_acts_80 rfl rfl rfl ?_
        refine v_iload_n (q := 82) hX dX5_acts_81 rfl rfl rfl ?_
        refine v_if_eq (q := 85) (tgt := 89) hX ⟨by omega, by omega⟩ dX5_acts_82 (by decide) rfl (fun h82 => ?_) (fun h82 => ?_)
        · refine v_aload_n (q := 90) hX dX5_acts_89 rfl rfl rfl ?_
          refine v_aload_n (q := 91) hX dX5_acts_90 rfl rfl rfl ?_
          refine w_getI (q := 94) hX fl_X5_218 rfl oX5 dX5_acts_91 rfl ?_
          refine v_aload_n (q := 95) hX dX5_acts_94 rfl rfl rfl ?_
          refine w_getI (q := 98) hX fl_X5_227 rfl oX5 dX5_acts_95 rfl ?_
          obtain ⟨a1, a3⟩ := eA_0 he
          rw [(r3 (Or.inr (Or.inl hk0))).1, (r3 (Or.inr (Or.inl hk0))).2, show vi a.2.1 = vi (a.2.1.toNat : Nat) by rw [Int.toNat_of_nonneg a1.1]]
          refine w_callVe (q := 101) hX (c_X5_tells _ _ hr a.2.1.toNat a.2.2.2 (by omega) ⟨by omega, by omega⟩) rfl kV_X5_tells rfl (by decide) lk_X5_146 (by decide) rfl oX5 (Nat.le_of_ble_eq_true rfl) dX5_acts_98 rfl (fun D1 hD1 => ?_)
          subst hD1
          refine v_iadd (q := 102) hX dX5_acts_101 rfl ?_
          refine v_istore_n (q := 103) hX dX5_acts_102 rfl (Nat.le_of_ble_eq_true rfl) (Nat.le_of_ble_eq_true rfl) rfl ?_
          dsimp only [xs1, xs2, xclr]
          refine v_goto (tgt := 221) hX dX5_acts_103 (by decide) ?_
          refine v_iload_n (q := 222) hX dX5_acts_221 rfl rfl rfl ?_
          refine v_ireturn hX hRX rfl (by first | rfl | exact bi_nar _) dX5_acts_222 rfl ?_
          refine ⟨congrArg (fun e => some (vi e)) ?_, rfl, ?_⟩
          · exact he
          · rw [actN, if_neg (show ¬ a.1 = 102 by omega), if_pos hk0]
        · exact absurd he h82
    · exact absurd h8 (by rw [r7]; omega)
  · rw [actE, if_neg (show ¬ a.1 = 102 by omega), if_neg (show ¬ a.1 = 97 by omega), if_pos hk0] at he
    have hle := eL_le (D 352) np a.2.1 a.2.2.1 a.2.2.2
    refine v_iconst (q := 1) hX dX5_acts_0 rfl ?_
    refine v_istore_n (q := 2) hX dX5_acts_1 rfl (Nat.le_of_ble_eq_true rfl) (Nat.le_of_ble_eq_true rfl) rfl ?_
    dsimp only [xs1, xs2, xclr]
    refine v_aload_n (q := 3) hX dX5_acts_2 rfl rfl rfl ?_
    refine w_getI (q := 6) hX fl_X5_230 rfl oX5 dX5_acts_3 rfl ?_
    refine v_bipush (q := 8) hX (by decide) dX5_acts_6 rfl ?_
    refine v_icmp_ne (q := 11) (tgt := 58) hX ⟨by rw [r7]; omega, by rw [r7]; omega⟩ (by decide) dX5_acts_8 (by decide) rfl (fun h8 => ?_) (fun h8 => ?_)
    · refine v_aload_n (q := 59) hX dX5_acts_58 rfl rfl rfl ?_
      refine w_getI (q := 62) hX fl_X5_230 rfl oX5 dX5_acts_59 rfl ?_
      refine v_bipush (q := 64) hX (by decide) dX5_acts_62 rfl ?_
      refine v_icmp_ne (q := 67) (tgt := 106) hX ⟨by rw [r7]; omega, by rw [r7]; omega⟩ (by decide) dX5_acts_64 (by decide) rfl (fun h64 => ?_) (fun h64 => ?_)
      · refine v_aload_n (q := 107) hX dX5_acts_106 rfl rfl rfl ?_
        refine w_getI (q := 110) hX fl_X5_230 rfl oX5 dX5_acts_107 rfl ?_
        refine v_bipush (q := 112) hX (by decide) dX5_acts_110 rfl ?_
        refine v_icmp_ne (q := 115) (tgt := 162) hX ⟨by rw [r7]; omega, by rw [r7]; omega⟩ (by decide) dX5_acts_112 (by decide) rfl (fun h112 => ?_) (fun h112 => ?_)
        · exact absurd (r7.trans hk0) h112
        · refine v_aload_n (q := 116) hX dX5_acts_115 rfl rfl rfl ?_
          refine v_aload_n (q := 117) hX dX5_acts_116 rfl rfl rfl ?_
          refine w_getI (q := 120) hX fl_X5_218 rfl oX5 dX5_acts_117 rfl ?_
          refine v_aload_n (q := 121) hX dX5_acts_120 rfl rfl rfl ?_
          refine w_getI (q := 124) hX fl_X5_224 rfl oX5 dX5_acts_121 rfl ?_
          refine v_aload_n (q := 125) hX dX5_acts_124 rfl rfl rfl ?_
          refine w_getI (q := 128) hX fl_X5_227 rfl oX5 dX5_acts_125 rfl ?_
          rw [(r3 (Or.inr (Or.inr hk0))).1, (r3 (Or.inr (Or.inr hk0))).2, r10 (Or.inr hk0)]
          refine w_callV (q := 131) hX (c_X5_lotsError _ _ hr hO a.2.1 a.2.2.1 a.2.2.2 ⟨by omega, by omega⟩ ⟨by omega, by omega⟩ ⟨by omega, by omega⟩) rfl kV_X5_lotsError rfl (by decide) lk_X5_149 (by decide) rfl oX5 (Nat.le_of_ble_eq_true rfl) dX5_acts_128 rfl ?_
          refine v_istore_n (q := 132) hX dX5_acts_131 rfl (Nat.le_of_ble_eq_true rfl) (Nat.le_of_ble_eq_true rfl) rfl ?_
          dsimp only [xs1, xs2, xclr]
          refine v_iload_n (q := 133) hX dX5_acts_132 rfl rfl rfl ?_
          refine v_iload_n (q := 134) hX dX5_acts_133 rfl rfl rfl ?_
          refine v_if_eq (q := 137) (tgt := 141) hX ⟨by omega, by omega⟩ dX5_acts_134 (by decide) rfl (fun h134 => ?_) (fun h134 => ?_)
          · refine v_aload_n (q := 142) hX dX5_acts_141 rfl rfl rfl ?_
            refine v_aload_n (q := 143) hX dX5_acts_142 rfl rfl rfl ?_
            refine w_getI (q := 146) hX fl_X5_218 rfl oX5 dX5_acts_143 rfl ?_
            refine v_aload_n (q := 147) hX dX5_acts_146 rfl rfl rfl ?_
            refine w_getI (q := 150) hX fl_X5_224 rfl oX5 dX5_acts_147 rfl ?_
            refine v_aload_n (q := 151) hX dX5_acts_150 rfl rfl rfl ?_
            refine w_getI (q := 154) hX fl_X5_227 rfl oX5 dX5_acts_151 rfl ?_
            obtain ⟨a1, a2, a3⟩ := eL_0 he
            rw [(r3 (Or.inr (Or.inr hk0))).1, (r3 (Or.inr (Or.inr hk0))).2, r10 (Or.inr hk0), show vi a.2.1 = vi (a.2.1.toNat : Nat) by rw [Int.toNat_of_nonneg a1.1], show vi a.2.2.1 = vi (a.2.2.1.toNat : Nat) by rw [Int.toNat_of_nonneg a2.1]]
            refine w_callVe (q := 157) hX (c_X5_plansLots _ _ hr a.2.1.toNat a.2.2.1.toNat a.2.2.2 (by omega) (by omega) ⟨by omega, by omega⟩) rfl kV_X5_plansLots rfl (by decide) lk_X5_152 (by decide) rfl oX5 (Nat.le_of_ble_eq_true rfl) dX5_acts_154 rfl (fun D1 hD1 => ?_)
            subst hD1
            refine v_iadd (q := 158) hX dX5_acts_157 rfl ?_
            refine v_istore_n (q := 159) hX dX5_acts_158 rfl (Nat.le_of_ble_eq_true rfl) (Nat.le_of_ble_eq_true rfl) rfl ?_
            dsimp only [xs1, xs2, xclr]
            refine v_goto (tgt := 221) hX dX5_acts_159 (by decide) ?_
            refine v_iload_n (q := 222) hX dX5_acts_221 rfl rfl rfl ?_
            refine v_ireturn hX hRX rfl (by first | rfl | exact bi_nar _) dX5_acts_222 rfl ?_
            refine ⟨congrArg (fun e => some (vi e)) ?_, rfl, ?_⟩
            · exact he
            · rw [actN, if_neg (show ¬ a.1 = 102 by omega), if_neg (show ¬ a.1 = 97 by omega), if_pos hk0]; rfl
          · exact absurd he h134
      · exact absurd h64 (by rw [r7]; omega)
    · exact absurd h8 (by rw [r7]; omega)
  · rw [actE, if_neg (show ¬ a.1 = 102 by omega), if_neg (show ¬ a.1 = 97 by omega), if_neg (show ¬ a.1 = 108 by omega), if_pos hk0] at he
    refine v_iconst (q := 1) hX dX5_acts_0 rfl ?_
    refine v_istore_n (q := 2) hX dX5_acts_1 rfl (Nat.le_of_ble_eq_true rfl) (Nat.le_of_ble_eq_true rfl) rfl ?_
    dsimp only [xs1, xs2, xclr]
    refine v_aload_n (q := 3) hX dX5_acts_2 rfl rfl rfl ?_
    refine w_getI (q := 6) hX fl_X5_230 rfl oX5 dX5_acts_3 rfl ?_
    refine v_bipush (q := 8) hX (by decide) dX5_acts_6 rfl ?_
    refine v_icmp_ne (q := 11) (tgt := 58) hX ⟨by rw [r7]; omega, by rw [r7]; omega⟩ (by decide) dX5_acts_8 (by decide) rfl (fun h8 => ?_) (fun h8 => ?_)
    · refine v_aload_n (q := 59) hX dX5_acts_58 rfl rfl rfl ?_
      refine w_getI (q := 62) hX fl_X5_230 rfl oX5 dX5_acts_59 rfl ?_
      refine v_bipush (q := 64) hX (by decide) dX5_acts_62 rfl ?_
      refine v_icmp_ne (q := 67) (tgt := 106) hX ⟨by rw [r7]; omega, by rw [r7]; omega⟩ (by decide) dX5_acts_64 (by decide) rfl (fun h64 => ?_) (fun h64 => ?_)
      · refine v_aload_n (q := 107) hX dX5_acts_106 rfl rfl rfl ?_
        refine w_getI (q := 110) hX fl_X5_230 rfl oX5 dX5_acts_107 rfl ?_
        refine v_bipush (q := 112) hX (by decide) dX5_acts_110 rfl ?_
        refine v_icmp_ne (q := 115) (tgt := 162) hX ⟨by rw [r7]; omega, by rw [r7]; omega⟩ (by decide) dX5_acts_112 (by decide) rfl (fun h112 => ?_) (fun h112 => ?_)
        · refine v_aload_n (q := 163) hX dX5_acts_162 rfl rfl rfl ?_
          refine w_getI (q := 166) hX fl_X5_230 rfl oX5 dX5_acts_163 rfl ?_
          refine v_bipush (q := 168) hX (by decide) dX5_acts_166 rfl ?_
          refine v_icmp_ne (q := 171) (tgt := 215) hX ⟨by rw [r7]; omega, by rw [r7]; omega⟩ (by decide) dX5_acts_168 (by decide) rfl (fun h168 => ?_) (fun h168 => ?_)
          · exact absurd (r7.trans hk0) h168
          · refine v_aload_n (q := 172) hX dX5_acts_171 rfl rfl rfl ?_
            refine w_getI (q := 175) hX fl_X5_218 rfl oX5 dX5_acts_172 rfl ?_
            rw [r110 hk0]
            refine v_i2l (q := 176) hX ⟨by omega, by omega⟩ dX5_acts_175 rfl ?_
            refine v_lconst (q := 177) (e := 1) hX (by decide) dX5_acts_176 rfl ?_
            refine v_ldc2 (q := 180) (e := 30) hX (by decide) kl_X5_175 dX5_acts_177 rfl ?_
            refine w_callS (q := 183) hX (c_X5_isIn _ _ _ _ _ ⟨by omega, by omega⟩ ⟨by omega, by omega⟩ ⟨by omega, by omega⟩) rfl kS_X5_isIn rfl (by decide) lk_X5_35 (Nat.le_of_ble_eq_true rfl) dX5_acts_180 rfl ?_
            refine w_ifeq (q := 186) (tgt := 190) hX dX5_acts_183 (by decide) rfl (fun h183 => ?_) (fun h183 => ?_)
            · exact absurd (if_neg h183) (by rw [he]; decide)
            · refine v_iconst (q := 187) hX dX5_acts_186 rfl ?_
              refine v_goto (tgt := 192) hX dX5_acts_187 (by decide) ?_
              refine v_istore_n (q := 193) hX dX5_acts_192 rfl (Nat.le_of_ble_eq_true rfl) (Nat.le_of_ble_eq_true rfl) rfl ?_
              dsimp only [xs1, xs2, xclr]
              refine v_iload_n (q := 194) hX dX5_acts_193 rfl rfl rfl ?_
              refine v_iload_n (q := 195) hX dX5_acts_194 rfl rfl rfl ?_
              refine v_if_eq (q := 198) (tgt := 202) hX (by decide) dX5_acts_195 (by decide) rfl (fun h195 => ?_) (fun h195 => ?_)
              · refine v_aload_n (q := 203) hX dX5_acts_202 rfl rfl rfl ?_
                refine v_aload_n (q := 204) hX dX5_acts_203 rfl rfl rfl ?_
                refine w_getI (q := 207) hX fl_X5_218 rfl oX5 dX5_acts_204 rfl ?_
                obtain ⟨a1, a2⟩ := h183
                rw [r110 hk0, show vi a.2.1 = vi (a.2.1.toNat : Nat) by rw [Int.toNat_of_nonneg (by omega)]]
                refine w_callVe (q := 210) hX (c_X5_passesWeeks _ _ hr hV f a.2.1.toNat hf1 hf2 (by omega) (by omega)) rfl kV_X5_passesWeeks rfl (by decide) lk_X5_177 (by decide) rfl oX5 (Nat.le_of_ble_eq_true rfl) dX5_acts_207 rfl (fun D1 hD1 => ?_)
                subst hD1
                refine v_iadd (q := 211) hX dX5_acts_210 rfl ?_
                refine v_istore_n (q := 212) hX dX5_acts_211 rfl (Nat.le_of_ble_eq_true rfl) (Nat.le_of_ble_eq_true rfl) rfl ?_
                dsimp only [xs1, xs2, xclr]
                refine v_goto (tgt := 221) hX dX5_acts_212 (by decide) ?_
                refine v_iload_n (q := 222) hX dX5_acts_221 rfl rfl rfl ?_
                refine v_ireturn hX hRX rfl (by first | rfl | exact bi_nar _) dX5_acts_222 rfl ?_
                refine ⟨congrArg (fun e => some (vi e)) ?_, rfl, ?_⟩
                · rfl
                · rw [actN, if_neg (show ¬ a.1 = 102 by omega), if_neg (show ¬ a.1 = 97 by omega), if_neg (show ¬ a.1 = 108 by omega), if_pos hk0]
              · exact absurd h195 (by decide)
        · exact absurd h112 (by rw [r7]; omega)
      · exact absurd h64 (by rw [r7]; omega)
    · exact absurd h8 (by rw [r7]; omega)
  · rw [actE, if_neg (show ¬ a.1 = 102 by omega), if_neg (show ¬ a.1 = 97 by omega), if_neg (show ¬ a.1 = 108 by omega), if_neg (show ¬ a.1 = 110 by omega)] at he
    refine v_iconst (q := 1) hX dX5_acts_0 rfl ?_
    refine v_istore_n (q := 2) hX dX5_acts_1 rfl (Nat.le_of_ble_eq_true rfl) (Nat.le_of_ble_eq_true rfl) rfl ?_
    dsimp only [xs1, xs2, xclr]
    refine v_aload_n (q := 3) hX dX5_acts_2 rfl rfl rfl ?_
    refine w_getI (q := 6) hX fl_X5_230 rfl oX5 dX5_acts_3 rfl ?_
    refine v_bipush (q := 8) hX (by decide) dX5_acts_6 rfl ?_
    refine v_icmp_ne (q := 11) (tgt := 58) hX ⟨by rw [r7]; omega, by rw [r7]; omega⟩ (by decide) dX5_acts_8 (by decide) rfl (fun h8 => ?_) (fun h8 => ?_)
    · refine v_aload_n (q := 59) hX dX5_acts_58 rfl rfl rfl ?_
      refine w_getI (q := 62) hX fl_X5_230 rfl oX5 dX5_acts_59 rfl ?_
      refine v_bipush (q := 64) hX (by decide) dX5_acts_62 rfl ?_
      refine v_icmp_ne (q := 67) (tgt := 106) hX ⟨by rw [r7]; omega, by rw [r7]; omega⟩ (by decide) dX5_acts_64 (by decide) rfl (fun h64 => ?_) (fun h64 => ?_)
      · refine v_aload_n (q := 107) hX dX5_acts_106 rfl rfl rfl ?_
        refine w_getI (q := 110) hX fl_X5_230 rfl oX5 dX5_acts_107 rfl ?_
        refine v_bipush (q := 112) hX (by decide) dX5_acts_110 rfl ?_
        refine v_icmp_ne (q := 115) (tgt := 162) hX ⟨by rw [r7]; omega, by rw [r7]; omega⟩ (by decide) dX5_acts_112 (by decide) rfl (fun h112 => ?_) (fun h112 => ?_)
        · refine v_aload_n (q := 163) hX dX5_acts_162 rfl rfl rfl ?_
          refine w_getI (q := 166) hX fl_X5_230 rfl oX5 dX5_acts_163 rfl ?_
          refine v_bipush (q := 168) hX (by decide) dX5_acts_166 rfl ?_
          refine v_icmp_ne (q := 171) (tgt := 215) hX ⟨by rw [r7]; omega, by rw [r7]; omega⟩ (by decide) dX5_acts_168 (by decide) rfl (fun h168 => ?_) (fun h168 => ?_)
          · refine v_iconst (q := 216) hX dX5_acts_215 rfl ?_
            refine v_istore_n (q := 217) hX dX5_acts_216 rfl (Nat.le_of_ble_eq_true rfl) (Nat.le_of_ble_eq_true rfl) rfl ?_
            dsimp only [xs1, xs2, xclr]
            refine v_aload_n (q := 218) hX dX5_acts_217 rfl rfl rfl ?_
            refine w_callVn (q := 221) hX (c_X5_plans _ _ hr hO f hf1 hf2) rfl kV_X5_plans rfl (by decide) lk_X5_121 (by decide) rfl oX5 (Nat.le_of_ble_eq_true rfl) dX5_acts_218 rfl (fun D1 hD1 => ?_)
            subst hD1
            refine v_iload_n (q := 222) hX dX5_acts_221 rfl rfl rfl ?_
            refine v_ireturn hX hRX rfl (by first | rfl | exact bi_nar _) dX5_acts_222 rfl ?_
            refine ⟨congrArg (fun e => some (vi e)) ?_, rfl, ?_⟩
            · rfl
            · rw [actN, if_neg (show ¬ a.1 = 102 by omega), if_neg (show ¬ a.1 = 97 by omega), if_neg (show ¬ a.1 = 108 by omega), if_neg (show ¬ a.1 = 110 by omega)]
          · exact absurd h168 (by rw [r7]; omega)
        · exact absurd h112 (by rw [r7]; omega)
      · exact absurd h64 (by rw [r7]; omega)
    · exact absurd h8 (by rw [r7]; omega)


