/-- the forecasts of the weeks from the a-th on, n of them, as far as there are such weeks -/
def nFcs (N : Nat → Int) (p a : Nat) : Nat → Int
  | 0 => 0
  | n + 1 => nFcs N p a n + (if a + n < 12 then pF N p (12 + (a + n)) else 0)
def nUnits (N : Nat → Int) (p w : Nat) : Int := nCov N p - nPj N p (w + 1) + nFcs N p (w + 1) (N 8 - 1).toNat
def nWant (N : Nat → Int) (p w : Nat) : Int := (nUnits N p w + pF N p 1 - 1) / pF N p 1
theorem nFcs_le {B : Int} {np : Nat} {N : Nat → Int} (h : nOk B np N) {p : Nat} (hp : p < np) (a : Nat) : ∀ n, 0 ≤ nFcs N p a n ∧ nFcs N p a n ≤ 1000 * n := by
  intro n
  induction n with
  | zero => unfold nFcs; omega
  | succ n ih =>
    unfold nFcs
    split
    · rename_i hk
      have := h.fc hp hk
      omega
    · omega
theorem nFcs_end (N : Nat → Int) (p a n m : Nat) (h : 12 ≤ a + n) : nFcs N p a (n + m) = nFcs N p a n := by
  induction m with
  | zero => rfl
  | succ m ih => rw [← Nat.add_assoc]; show nFcs N p a (n + m) + (if a + (n + m) < 12 then pF N p (12 + (a + (n + m))) else 0) = _; rw [if_neg (by omega), ih, Int.add_zero]
theorem nUnits_le {B : Int} {np : Nat} {N : Nat → Int} (h : nOk B np N) {p w : Nat} (hp : p < np) (hw : w < 12) (hl : nPj N p (w + 1) < nCov N p) : 0 < nUnits N p w ∧ nUnits N p w ≤ B + 40000 := by
  have h1 := nPj_le h hp (w + 1) (by omega)
  have h2 := nCov_le h hp
  have h3 := nFcs_le h hp (w + 1) (N 8 - 1).toNat
  have h4 := h.2.2.2.1.2.2.2.1
  unfold nUnits
  omega
set_option maxRecDepth 100000 in
set_option maxHeartbeats 4000000 in
theorem c_X5_wanted {z : Nat} (D : xD) (r : xR) (hr : xRM r) {B : Int} {np : Nat} (hO : nOk B np (D 352)) (p w : Nat) (hp : p < np) (hw : w < 12) (hl : nPj (D 352) p (w + 1) < nCov (D 352) p) : MX 2 mX5_wanted [.ref 351, vi p, vi w] (356, z) D r (356, z) (xP (vl (nWant (D 352) p w)) D r) := by
  refine MX.of (by decide +kernel) [some (.ref 351), some (vi p), some (vi w), none, none, none, none] rfl (Nat.le_of_ble_eq_true rfl) ?_
  intro γ hX hRX
  have hn := hO.np
  have hB := hO.1
  have hs := hO.2.2.2.1
  have hu := nUnits_le hO hp hw hl
  obtain ⟨-, hp1, -⟩ := hO.2.2.2.2.2 p hp
  have hB := hO.1
  have q1 := nPj_le hO hp (w + 1) (by omega)
  have q2 := nCov_le hO hp
  have E2 : ∀ j, j ≤ (D 352 8 - 1).toNat → (12 ≤ w + 1 + j ∨ (w : Int) + D 352 8 ≤ ((w + 1 + j : Nat) : Int)) → nCov (D 352) p - nPj (D 352) p (w + 1) + nFcs (D 352) p (w + 1) j = nUnits (D 352) p w := by
    intro j hj h
    unfold nUnits
    congr 1
    rcases Nat.lt_or_ge (w + 1 + j) 12 with h9 | h9
    · rw [show (D 352 8 - 1).toNat = j by omega]
    · rw [show (D 352 8 - 1).toNat = j + ((D 352 8 - 1).toNat - j) by omega, nFcs_end _ _ _ _ _ h9]
  have K : ∀ X5 : Int, xV γ 59 [some (.ref 351), some (vi p), some (vi w), some (vl (nUnits (D 352) p w)), none, some (vi X5), none] [] (356, z) D r := by
    intro X5
    refine v_aload_n (q := 60) hX dX5_wanted_59 rfl rfl rfl ?_
    refine v_iload_n (q := 61) hX dX5_wanted_60 rfl rfl rfl ?_
    refine v_iconst (q := 62) hX dX5_wanted_61 rfl ?_
    refine w_callV (q := 65) hX (c_X5_ofP _ _ hr (p) (1) (by omega)) rfl kV_X5_ofP rfl (by decide) lk_X5_78 (by decide) rfl oX5 (Nat.le_of_ble_eq_true rfl) dX5_wanted_62 rfl ?_
    refine v_lstore (q := 67) hX dX5_wanted_65 (Nat.le_of_ble_eq_true rfl) (Nat.le_of_ble_eq_true rfl) rfl ?_
    dsimp only [xs1, xs2, xclr]
    refine v_lload_n (q := 68) hX dX5_wanted_67 rfl rfl rfl ?_
    refine v_lload (q := 70) hX dX5_wanted_68 rfl rfl ?_
    refine v_ladd (q := 71) hX dX5_wanted_70 rfl ?_
    refine v_lconst (q := 72) (e := 1) hX (by decide) dX5_wanted_71 rfl ?_
    refine v_lsub (q := 73) hX dX5_wanted_72 rfl ?_
    refine v_lload (q := 75) hX dX5_wanted_73 rfl rfl ?_
    refine v_ldiv (q := 76) hX (by omega) ⟨by omega, by omega⟩ (by omega) ⟨by omega, by omega⟩ dX5_wanted_75 rfl ?_
    refine v_lreturn hX hRX rfl dX5_wanted_76 rfl ?_
    exact ⟨rfl, rfl, rfl⟩
  have L : ∀ j, j ≤ (D 352 8 - 1).toNat → xV γ 18 [some (.ref 351), some (vi p), some (vi w), some (vl (nCov (D 352) p - nPj (D 352) p (w + 1) + nFcs (D 352) p (w + 1) j)), none, some (vi ((w + 1 + j : Nat) : Int)), none] [] (356, z) D r := by
    refine xup _ (fun j hj ih => ?_)
    refine v_iload (q := 20) hX dX5_wanted_18 rfl rfl ?_
    refine v_bipush (q := 22) hX (by decide) dX5_wanted_20 rfl ?_
    refine v_icmp_ge (q := 25) (tgt := 59) hX ⟨by omega, by omega⟩ (by decide) dX5_wanted_22 (by decide) rfl (fun h22 => ?_) (fun h22 => ?_)
    · have e2 := E2 j hj (by omega)
      rw [e2]
      exact K _
    · refine v_iload (q := 27) hX dX5_wanted_25 rfl rfl ?_
      refine v_i2l (q := 28) hX ⟨by omega, by omega⟩ dX5_wanted_27 rfl ?_
      refine v_iload_n (q := 29) hX dX5_wanted_28 rfl rfl rfl ?_
      refine v_i2l (q := 30) hX ⟨by omega, by omega⟩ dX5_wanted_29 rfl ?_
      refine v_aload_n (q := 31) hX dX5_wanted_30 rfl rfl rfl ?_
      refine v_iconst (q := 32) hX dX5_wanted_31 rfl ?_
      refine w_callV (q := 35) hX (c_X5_setting _ _ hr 3 (by omega) (j := 8) rfl) rfl kV_X5_setting rfl (by decide) lk_X5_41 (by decide) rfl oX5 (Nat.le_of_ble_eq_true rfl) dX5_wanted_32 rfl ?_
      refine v_ladd (q := 36) hX dX5_wanted_35 rfl ?_
      refine v_lcmp_ge (q := 40) (tgt := 59) hX ⟨by omega, by omega⟩ ⟨by omega, by omega⟩ dX5_wanted_36 dX5_wanted_37 (by decide) rfl (fun h36 => ?_) (fun h36 => ?_)
      · have e2 := E2 j hj (by omega)
        rw [e2]
        exact K _
      · refine v_lload_n (q := 41) hX dX5_wanted_40 rfl rfl rfl ?_
        refine v_aload_n (q := 42) hX dX5_wanted_41 rfl rfl rfl ?_
        refine v_iload_n (q := 43) hX dX5_wanted_42 rfl rfl rfl ?_
        refine v_bipush (q := 45) hX (by decide) dX5_wanted_43 rfl ?_
        refine v_iload (q := 47) hX dX5_wanted_45 rfl rfl ?_
        refine v_iadd (q := 48) hX dX5_wanted_47 rfl ?_
        refine w_callV (q := 51) hX (c_X5_ofP _ _ hr (p) ((12 + (w + 1 + j))) (by omega)) rfl kV_X5_ofP rfl (by decide) lk_X5_78 (by decide) rfl oX5 (Nat.le_of_ble_eq_true rfl) dX5_wanted_48 rfl ?_
        refine v_ladd (q := 52) hX dX5_wanted_51 rfl ?_
        refine v_lstore_n (q := 53) hX dX5_wanted_52 rfl (Nat.le_of_ble_eq_true rfl) (Nat.le_of_ble_eq_true rfl) rfl ?_
        dsimp only [xs1, xs2, xclr]
        refine v_iinc (q := 56) hX dX5_wanted_53 rfl (Nat.le_of_ble_eq_true rfl) (Nat.le_of_ble_eq_true rfl) rfl ?_
        dsimp only [xs1, xs2, xclr]
        refine v_goto (tgt := 18) hX dX5_wanted_56 (by decide) ?_
        have e1 := ih (by omega)
        simp only [nFcs] at e1
        rw [if_pos (by omega), ← Int.add_assoc] at e1
        exact e1
  refine v_aload_n (q := 1) hX dX5_wanted_0 rfl rfl rfl ?_
  refine v_iload_n (q := 2) hX dX5_wanted_1 rfl rfl rfl ?_
  refine w_callV (q := 5) hX (c_X5_cover _ _ hr hO (p) (by omega)) rfl kV_X5_cover rfl (by decide) lk_X5_98 (by decide) rfl oX5 (Nat.le_of_ble_eq_true rfl) dX5_wanted_2 rfl ?_
  refine v_aload_n (q := 6) hX dX5_wanted_5 rfl rfl rfl ?_
  refine v_iload_n (q := 7) hX dX5_wanted_6 rfl rfl rfl ?_
  refine v_iload_n (q := 8) hX dX5_wanted_7 rfl rfl rfl ?_
  refine w_callV (q := 11) hX (c_X5_project _ _ hr hO (p) (w) (by omega) (by omega)) rfl kV_X5_project rfl (by decide) lk_X5_101 (by decide) rfl oX5 (Nat.le_of_ble_eq_true rfl) dX5_wanted_8 rfl ?_
  refine v_lsub (q := 12) hX dX5_wanted_11 rfl ?_
  refine v_lstore_n (q := 13) hX dX5_wanted_12 rfl (Nat.le_of_ble_eq_true rfl) (Nat.le_of_ble_eq_true rfl) rfl ?_
  dsimp only [xs1, xs2, xclr]
  refine v_iload_n (q := 14) hX dX5_wanted_13 rfl rfl rfl ?_
  refine v_iconst (q := 15) hX dX5_wanted_14 rfl ?_
  refine v_iadd (q := 16) hX dX5_wanted_15 rfl ?_
  refine v_istore (q := 18) hX dX5_wanted_16 (Nat.le_of_ble_eq_true rfl) (Nat.le_of_ble_eq_true rfl) rfl ?_
  dsimp only [xs1, xs2, xclr]
  have e1 := L 0 (Nat.zero_le _)
  simp only [nFcs, Int.add_zero] at e1
  exact e1

/-- the one that lacks most of the first k, of those that were not asked yet; -6: none -/
def nNext (N : Nat → Int) (w asked : Nat) : Nat → Int
  | 0 => -6
  | k + 1 => if (asked >>> k % 2 = 0 ∧ nPj N k (w + 1) < nCov N k) ∧ (nNext N w asked k = -6 ∨ nPj N k (w + 1) < nPj N (nNext N w asked k).toNat (w + 1)) then (k : Int) else nNext N w asked k
theorem nNext_in (N : Nat → Int) (w asked : Nat) : ∀ k, nNext N w asked k = -6 ∨ ∃ b : Nat, nNext N w asked k = (b : Int) ∧ b < k ∧ asked >>> b % 2 = 0 ∧ nPj N b (w + 1) < nCov N b := by
  intro k
  induction k with
  | zero => exact Or.inl rfl
  | succ k ih =>
    unfold nNext
    split
    · rename_i h; exact Or.inr ⟨k, rfl, by omega, h.1.1, h.1.2⟩
    · rcases ih with h | ⟨b, h1, h2, h3⟩
      · exact Or.inl h
      · exact Or.inr ⟨b, h1, by omega, h3⟩
theorem bshr10 : ∀ m, m < 1024 → ∀ f, f < 10 → Int32.ofInt ((m : Nat) : Int) >>> (Int32.ofInt ((f : Nat) : Int) &&& 31) = Int32.ofInt ((m >>> f : Nat) : Int) := by decide +kernel
theorem band1k : ∀ m, m < 1024 → Int32.ofInt ((m : Nat) : Int) &&& Int32.ofInt 1 = Int32.ofInt ((m % 2 : Nat) : Int) := by decide +kernel
theorem bshl10 : ∀ f, f < 10 → Int32.ofInt 1 <<< (Int32.ofInt ((f : Nat) : Int) &&& 31) = Int32.ofInt ((2 ^ f : Nat) : Int) := by decide +kernel
theorem bor1k : ∀ a, a < 1024 → ∀ f, f < 10 → Int32.ofInt ((a : Nat) : Int) ||| Int32.ofInt ((2 ^ f : Nat) : Int) = Int32.ofInt ((a ||| 2 ^ f : Nat) : Int) := by decide +kernel
set_option maxRecDepth 100000 in
set_option maxHeartbeats 4000000 in
theorem c_X5_nextOf {z : Nat} (D : xD) (r : xR) (hr : xRM r) {B : Int} {np : Nat} (hO : nOk B np (D 352)) (w asked : Nat) (hw : w < 12) (ha : asked < 1024) : MX 2 mX5_nextOf [.ref 351, vi w, vi asked] (356, z) D r (356, z) (xP (vi (nNext (D 352) w asked np)) D r) := by
  refine MX.of (by decide +kernel) [some (.ref 351), some (vi w), some (vi asked), none, none, none] rfl (Nat.le_of_ble_eq_true rfl) ?_
  intro γ hX hRX
  have hn := hO.np
  have hB := hO.1
  have L : ∀ k, k ≤ np → xV γ 6 [some (.ref 351), some (vi w), some (vi (asked : Nat)), some (vi (nNext (D 352) w asked k)), some (vi (k : Nat)), none] [] (356, z) D r := by
    refine xup np (fun k hk ih => ?_)
    refine v_iload (q := 8) hX dX5_nextOf_6 rfl rfl ?_
    refine v_i2l (q := 9) hX ⟨by omega, by omega⟩ dX5_nextOf_8 rfl ?_
    refine v_aload_n (q := 10) hX dX5_nextOf_9 rfl rfl rfl ?_
    refine w_getR (q := 13) hX fl_X5_7 rfl oX5 hr.1 dX5_nextOf_10 rfl ?_
    refine v_iconst (q := 14) hX dX5_nextOf_13 rfl ?_
    refine w_lld (q := 15) (kk := 1) hX (by omega) (by omega) aNow dX5_nextOf_14 rfl ?_
    refine v_lcmp_ge (q := 19) (tgt := 93) hX ⟨by omega, by omega⟩ ⟨by omega, by omega⟩ dX5_nextOf_15 dX5_nextOf_16 (by decide) rfl (fun h15 => ?_) (fun h15 => ?_)
    · refine v_iload_n (q := 94) hX dX5_nextOf_93 rfl rfl rfl ?_
      refine v_ireturn hX hRX rfl (by first | rfl | exact bi_nar _) dX5_nextOf_94 rfl ?_
      rw [show k = np by omega]
      exact ⟨rfl, rfl, rfl⟩
    · refine v_iload_n (q := 20) hX dX5_nextOf_19 rfl rfl rfl ?_
      refine v_iload (q := 22) hX dX5_nextOf_20 rfl rfl ?_
      refine v_ishr (q := 23) hX (_) (bshr10 _ ha _ (by omega)) dX5_nextOf_22 rfl ?_
      refine v_iconst (q := 24) hX dX5_nextOf_23 rfl ?_
      refine v_iand (q := 25) hX (_) (band1k _ (Nat.lt_of_le_of_lt (Nat.shiftRight_le _ _) ha)) dX5_nextOf_24 rfl ?_
      refine v_if_ne (q := 28) (tgt := 49) hX ⟨by omega, by omega⟩ dX5_nextOf_25 (by decide) rfl (fun h25 => ?_) (fun h25 => ?_)
      · refine v_iconst (q := 50) hX dX5_nextOf_49 rfl ?_
        refine v_istore (q := 52) hX dX5_nextOf_50 (Nat.le_of_ble_eq_true rfl) (Nat.le_of_ble_eq_true rfl) rfl ?_
        dsimp only [xs1, xs2, xclr]
        refine v_iload (q := 54) hX dX5_nextOf_52 rfl rfl ?_
        refine v_if_eq (q := 57) (tgt := 85) hX ⟨by omega, by omega⟩ dX5_nextOf_54 (by decide) rfl (fun h54 => ?_) (fun h54 => ?_)
        · refine v_iload_n (q := 86) hX dX5_nextOf_85 rfl rfl rfl ?_
          refine v_istore_n (q := 87) hX dX5_nextOf_86 rfl (Nat.le_of_ble_eq_true rfl) (Nat.le_of_ble_eq_true rfl) rfl ?_
          dsimp only [xs1, xs2, xclr]
          refine v_iinc (q := 90) hX dX5_nextOf_87 rfl (Nat.le_of_ble_eq_true rfl) (Nat.le_of_ble_eq_true rfl) rfl ?_
          dsimp only [xs1, xs2, xclr]
          refine v_goto (tgt := 6) hX dX5_nextOf_90 (by decide) ?_
          have e1 := ih (by omega)
          simp only [nNext] at e1
          first | rw [if_pos (by refine ⟨⟨by omega, by omega⟩, ?_⟩; first | exact Or.inl h60 | exact Or.inr (by rw [hb1]; exact h76))] at e1 | rw [if_neg (by intro hh; first | omega | (have h5 := hh.2.resolve_left h60; rw [hb1] at h5; simp only [Int.toNat_natCast] at h5; omega))] at e1
          try rw [hb1] at e1
          exact xVw (by repeat' first | exact trivial | refine And.intro rfl ?_) e1
        · exact absurd h54 (by decide)
      · have q1 := nPj_le hO (p := k) (by omega) (w + 1) (by omega)
        have q2 := nCov_le hO (p := k) (by omega)
        refine v_aload_n (q := 29) hX dX5_nextOf_28 rfl rfl rfl ?_
        refine v_iload (q := 31) hX dX5_nextOf_29 rfl rfl ?_
        refine v_iload_n (q := 32) hX dX5_nextOf_31 rfl rfl rfl ?_
        refine w_callV (q := 35) hX (c_X5_project _ _ hr hO (k) (w) (by omega) (by omega)) rfl kV_X5_project rfl (by decide) lk_X5_101 (by decide) rfl oX5 (Nat.le_of_ble_eq_true rfl) dX5_nextOf_32 rfl ?_
        refine v_aload_n (q := 36) hX dX5_nextOf_35 rfl rfl rfl ?_
        refine v_iload (q := 38) hX dX5_nextOf_36 rfl rfl ?_
        refine w_callV (q := 41) hX (c_X5_cover _ _ hr hO (k) (by omega)) rfl kV_X5_cover rfl (by decide) lk_X5_98 (by decide) rfl oX5 (Nat.le_of_ble_eq_true rfl) dX5_nextOf_38 rfl ?_
        refine v_lcmp_ge (q := 45) (tgt := 49) hX ⟨by omega, by omega⟩ ⟨by omega, by omega⟩ dX5_nextOf_41 dX5_nextOf_42 (by decide) rfl (fun h41 => ?_) (fun h41 => ?_)
        · refine v_iconst (q := 50) hX dX5_nextOf_49 rfl ?_
          refine v_istore (q := 52) hX dX5_nextOf_50 (Nat.le_of_ble_eq_true rfl) (Nat.le_of_ble_eq_true rfl) rfl ?_
          dsimp only [xs1, xs2, xclr]
          refine v_iload (q := 54) hX dX5_nextOf_52 rfl rfl ?_
          refine v_if_eq (q := 57) (tgt := 85) hX ⟨by omega, by omega⟩ dX5_nextOf_54 (by decide) rfl (fun h54 => ?_) (fun h54 => ?_)
          · refine v_iload_n (q := 86) hX dX5_nextOf_85 rfl rfl rfl ?_
            refine v_istore_n (q := 87) hX dX5_nextOf_86 rfl (Nat.le_of_ble_eq_true rfl) (Nat.le_of_ble_eq_true rfl) rfl ?_
            dsimp only [xs1, xs2, xclr]
            refine v_iinc (q := 90) hX dX5_nextOf_87 rfl (Nat.le_of_ble_eq_true rfl) (Nat.le_of_ble_eq_true rfl) rfl ?_
            dsimp only [xs1, xs2, xclr]
            refine v_goto (tgt := 6) hX dX5_nextOf_90 (by decide) ?_
            have e1 := ih (by omega)
            simp only [nNext] at e1
            first | rw [if_pos (by refine ⟨⟨by omega, by omega⟩, ?_⟩; first | exact Or.inl h60 | exact Or.inr (by rw [hb1]; exact h76))] at e1 | rw [if_neg (by intro hh; first | omega | (have h5 := hh.2.resolve_left h60; rw [hb1] at h5; simp only [Int.toNat_natCast] at h5; omega))] at e1
            try rw [hb1] at e1
            exact xVw (by repeat' first | exact trivial | refine And.intro rfl ?_) e1
          · exact absurd h54 (by decide)
        · refine v_iconst (q := 46) hX dX5_nextOf_45 rfl ?_
          refine v_goto (tgt := 50) hX dX5_nextOf_46 (by decide) ?_
          refine v_istore (q := 52) hX dX5_nextOf_50 (Nat.le_of_ble_eq_true rfl) (Nat.le_of_ble_eq_true rfl) rfl ?_
          dsimp only [xs1, xs2, xclr]
          refine v_iload (q := 54) hX dX5_nextOf_52 rfl rfl ?_
          refine v_if_eq (q := 57) (tgt := 85) hX ⟨by omega, by omega⟩ dX5_nextOf_54 (by decide) rfl (fun h54 => ?_) (fun h54 => ?_)
          · exact absurd h54 (by decide)
          · have q9 := nNext_in (D 352) w asked k
            have q9 : -6 ≤ nNext (D 352) w asked k ∧ nNext (D 352) w asked k ≤ 10 := by rcases q9 with h | ⟨b, h1, h2, -⟩ <;> omega
            refine v_iload_n (q := 58) hX dX5_nextOf_57 rfl rfl rfl ?_
            refine v_bipush (q := 60) hX (by decide) dX5_nextOf_58 rfl ?_
            refine v_icmp_eq (q := 63) (tgt := 80) hX ⟨by omega, by omega⟩ (by decide) dX5_nextOf_60 (by decide) rfl (fun h60 => ?_) (fun h60 => ?_)
            · refine v_iload (q := 82) hX dX5_nextOf_80 rfl rfl ?_
              refine v_goto (tgt := 86) hX dX5_nextOf_82 (by decide) ?_
              refine v_istore_n (q := 87) hX dX5_nextOf_86 rfl (Nat.le_of_ble_eq_true rfl) (Nat.le_of_ble_eq_true rfl) rfl ?_
              dsimp only [xs1, xs2, xclr]
              refine v_iinc (q := 90) hX dX5_nextOf_87 rfl (Nat.le_of_ble_eq_true rfl) (Nat.le_of_ble_eq_true rfl) rfl ?_
              dsimp only [xs1, xs2, xclr]
              refine v_goto (tgt := 6) hX dX5_nextOf_90 (by decide) ?_
              have e1 := ih (by omega)
              simp only [nNext] at e1
              first | rw [if_pos (by refine ⟨⟨by omega, by omega⟩, ?_⟩; first | exact Or.inl h60 | exact Or.inr (by rw [hb1]; exact h76))] at e1 | rw [if_neg (by intro hh; first | omega | (have h5 := hh.2.resolve_left h60; rw [hb1] at h5; simp only [Int.toNat_natCast] at h5; omega))] at e1
              try rw [hb1] at e1
              exact xVw (by repeat' first | exact trivial | refine And.intro rfl ?_) e1
            · obtain ⟨b, hb1, hb2, -, -⟩ := (nNext_in (D 352) w asked k).resolve_left h60
              have q3 := nPj_le hO (p := b) (by omega) (w + 1) (by omega)
              rw [hb1]
              refine v_aload_n (q := 64) hX dX5_nextOf_63 rfl rfl rfl ?_
              refine v_iload (q := 66) hX dX5_nextOf_64 rfl rfl ?_
              refine v_iload_n (q := 67) hX dX5_nextOf_66 rfl rfl rfl ?_
              refine w_callV (q := 70) hX (c_X5_project _ _ hr hO (k) (w) (by omega) (by omega)) rfl kV_X5_project rfl (by decide) lk_X5_101 (by decide) rfl oX5 (Nat.le_of_ble_eq_true rfl) dX5_nextOf_67 rfl ?_
              refine v_aload_n (q := 71) hX dX5_nextOf_70 rfl rfl rfl ?_
              refine v_iload_n (q := 72) hX dX5_nextOf_71 rfl rfl rfl ?_
              refine v_iload_n (q := 73) hX dX5_nextOf_72 rfl rfl rfl ?_
              refine w_callV (q := 76) hX (c_X5_project _ _ hr hO (b) (w) (by omega) (by omega)) rfl kV_X5_project rfl (by decide) lk_X5_101 (by decide) rfl oX5 (Nat.le_of_ble_eq_true rfl) dX5_nextOf_73 rfl ?_
              refine v_lcmp_ge (q := 80) (tgt := 85) hX ⟨by omega, by omega⟩ ⟨by omega, by omega⟩ dX5_nextOf_76 dX5_nextOf_77 (by decide) rfl (fun h76 => ?_) (fun h76 => ?_)
              · refine v_iload_n (q := 86) hX dX5_nextOf_85 rfl rfl rfl ?_
                refine v_istore_n (q := 87) hX dX5_nextOf_86 rfl (Nat.le_of_ble_eq_true rfl) (Nat.le_of_ble_eq_true rfl) rfl ?_
                dsimp only [xs1, xs2, xclr]
                refine v_iinc (q := 90) hX dX5_nextOf_87 rfl (Nat.le_of_ble_eq_true rfl) (Nat.le_of_ble_eq_true rfl) rfl ?_
                dsimp only [xs1, xs2, xclr]
                refine v_goto (tgt := 6) hX dX5_nextOf_90 (by decide) ?_
                have e1 := ih (by omega)
                simp only [nNext] at e1
                first | rw [if_pos (by refine ⟨⟨by omega, by omega⟩, ?_⟩; first | exact Or.inl h60 | exact Or.inr (by rw [hb1]; exact h76))] at e1 | rw [if_neg (by intro hh; first | omega | (have h5 := hh.2.resolve_left h60; rw [hb1] at h5; simp only [Int.toNat_natCast] at h5; omega))] at e1
                try rw [hb1] at e1
                exact xVw (by repeat' first | exact trivial | refine And.intro rfl ?_) e1
              · refine v_iload (q := 82) hX dX5_nextOf_80 rfl rfl ?_
                refine v_goto (tgt := 86) hX dX5_nextOf_82 (by decide) ?_
                refine v_istore_n (q := 87) hX dX5_nextOf_86 rfl (Nat.le_of_ble_eq_true rfl) (Nat.le_of_ble_eq_true rfl) rfl ?_
                dsimp only [xs1, xs2, xclr]
                refine v_iinc (q := 90) hX dX5_nextOf_87 rfl (Nat.le_of_ble_eq_true rfl) (Nat.le_of_ble_eq_true rfl) rfl ?_
                dsimp only [xs1, xs2, xclr]
                refine v_goto (tgt := 6) hX dX5_nextOf_90 (by decide) ?_
                have e1 := ih (by omega)
                simp only [nNext] at e1
                first | rw [if_pos (by refine ⟨⟨by omega, by omega⟩, ?_⟩; first | exact Or.inl h60 | exact Or.inr (by rw [hb1]; exact h76))] at e1 | rw [if_neg (by intro hh; first | omega | (have h5 := hh.2.resolve_left h60; rw [hb1] at h5; simp only [Int.toNat_natCast] at h5; omega))] at e1
                try rw [hb1] at e1
                exact xVw (by repeat' first | exact trivial | refine And.intro rfl ?_) e1
  refine v_bipush (q := 2) hX (by decide) dX5_nextOf_0 rfl ?_
  refine v_istore_n (q := 3) hX dX5_nextOf_2 rfl (Nat.le_of_ble_eq_true rfl) (Nat.le_of_ble_eq_true rfl) rfl ?_
  dsimp only [xs1, xs2, xclr]
  refine v_iconst (q := 4) hX dX5_nextOf_3 rfl ?_
  refine v_istore (q := 6) hX dX5_nextOf_4 (Nat.le_of_ble_eq_true rfl) (Nat.le_of_ble_eq_true rfl) rfl ?_
  dsimp only [xs1, xs2, xclr]
  exact L 0 (Nat.zero_le _)

def nLotsP (N : Nat → Int) (p : Nat) : Nat → Int
  | 0 => 0
  | k + 1 => nLotsP N p k + pF N p (24 + k)
def nLots (N : Nat → Int) : Nat → Int
  | 0 => 0
  | p + 1 => nLots N p + nLotsP N p 12
def nSum (N : Nat → Int) (i : Nat) : Nat → Int
  | 0 => 0
  | p + 1 => nSum N i p + pF N p i
set_option maxRecDepth 100000 in
set_option maxHeartbeats 4000000 in
theorem c_X5_lotsInAll {z : Nat} (D : xD) (r : xR) (hr : xRM r) {B : Int} {np : Nat} (hO : nOk B np (D 352)) : MX 1 mX5_lotsInAll [.ref 351] (356, z) D r (356, z) (xP (vi (nLots (D 352) np)) D r) := by
  refine MX.of (by decide +kernel) [some (.ref 351), none, none, none, none] rfl (Nat.le_of_ble_eq_true rfl) ?_
  intro γ hX hRX
  have hn := hO.np
  have hB := hO.1
  have L : ∀ p, p ≤ np → xV γ 4 [some (.ref 351), some (vl (nLots (D 352) p)), none, some (vi (p : Nat)), none] [] (356, z) D r := by
    refine xup np (fun p hp ih => ?_)
    have M : p < np → xV γ 45 [some (.ref 351), some (vl (nLots (D 352) p + nLotsP (D 352) p 12)), none, some (vi (p : Nat)), none] [] (356, z) D r := by
      intro hpn
      refine v_iinc (q := 48) hX dX5_lotsInAll_45 rfl (Nat.le_of_ble_eq_true rfl) (Nat.le_of_ble_eq_true rfl) rfl ?_
      dsimp only [xs1, xs2, xclr]
      refine v_goto (tgt := 4) hX dX5_lotsInAll_48 (by decide) ?_
      exact ih hpn
    have I : p < np → ∀ k, k ≤ 12 → xV γ 19 [some (.ref 351), some (vl (nLots (D 352) p + nLotsP (D 352) p k)), none, some (vi (p : Nat)), some (vi (k : Nat))] [] (356, z) D r := by
      intro hpn
      refine xup 12 (fun k hk ih2 => ?_)
      refine v_iload (q := 21) hX dX5_lotsInAll_19 rfl rfl ?_
      refine v_bipush (q := 23) hX (by decide) dX5_lotsInAll_21 rfl ?_
      refine v_icmp_ge (q := 26) (tgt := 45) hX ⟨by omega, by omega⟩ (by decide) dX5_lotsInAll_23 (by decide) rfl (fun h23 => ?_) (fun h23 => ?_)
      · rw [show k = 12 by omega]
        exact xVw (by repeat' first | exact trivial | refine And.intro rfl ?_) (M hpn)
      · refine v_lload_n (q := 27) hX dX5_lotsInAll_26 rfl rfl rfl ?_
        refine v_aload_n (q := 28) hX dX5_lotsInAll_27 rfl rfl rfl ?_
        refine v_iload_n (q := 29) hX dX5_lotsInAll_28 rfl rfl rfl ?_
        refine v_bipush (q := 31) hX (by decide) dX5_lotsInAll_29 rfl ?_
        refine v_iload (q := 33) hX dX5_lotsInAll_31 rfl rfl ?_
        refine v_iadd (q := 34) hX dX5_lotsInAll_33 rfl ?_
        refine w_callV (q := 37) hX (c_X5_ofP _ _ hr (p) ((24 + k)) (by omega)) rfl kV_X5_ofP rfl (by decide) lk_X5_78 (by decide) rfl oX5 (Nat.le_of_ble_eq_true rfl) dX5_lotsInAll_34 rfl ?_
        refine v_ladd (q := 38) hX dX5_lotsInAll_37 rfl ?_
        refine v_lstore_n (q := 39) hX dX5_lotsInAll_38 rfl (Nat.le_of_ble_eq_true rfl) (Nat.le_of_ble_eq_true rfl) rfl ?_
        dsimp only [xs1, xs2, xclr]
        refine v_iinc (q := 42) hX dX5_lotsInAll_39 rfl (Nat.le_of_ble_eq_true rfl) (Nat.le_of_ble_eq_true rfl) rfl ?_
        dsimp only [xs1, xs2, xclr]
        refine v_goto (tgt := 19) hX dX5_lotsInAll_42 (by decide) ?_
        have e1 := ih2 (by omega)
        simp only [nLotsP] at e1
        rw [← Int.add_assoc] at e1
        exact e1
    refine v_iload_n (q := 5) hX dX5_lotsInAll_4 rfl rfl rfl ?_
    refine v_i2l (q := 6) hX ⟨by omega, by omega⟩ dX5_lotsInAll_5 rfl ?_
    refine v_aload_n (q := 7) hX dX5_lotsInAll_6 rfl rfl rfl ?_
    refine w_getR (q := 10) hX fl_X5_7 rfl oX5 hr.1 dX5_lotsInAll_7 rfl ?_
    refine v_iconst (q := 11) hX dX5_lotsInAll_10 rfl ?_
    refine w_lld (q := 12) (kk := 1) hX (by omega) (by omega) aNow dX5_lotsInAll_11 rfl ?_
    refine v_lcmp_ge (q := 16) (tgt := 51) hX ⟨by omega, by omega⟩ ⟨by omega, by omega⟩ dX5_lotsInAll_12 dX5_lotsInAll_13 (by decide) rfl (fun h12 => ?_) (fun h12 => ?_)
    · refine v_lload_n (q := 52) hX dX5_lotsInAll_51 rfl rfl rfl ?_
      refine v_l2i (q := 53) hX dX5_lotsInAll_52 rfl ?_
      refine v_ireturn hX hRX rfl (by first | rfl | exact bi_nar _) dX5_lotsInAll_53 rfl ?_
      rw [show p = np by omega]
      exact ⟨rfl, rfl, rfl⟩
    · refine v_iconst (q := 17) hX dX5_lotsInAll_16 rfl ?_
      refine v_istore (q := 19) hX dX5_lotsInAll_17 (Nat.le_of_ble_eq_true rfl) (Nat.le_of_ble_eq_true rfl) rfl ?_
      dsimp only [xs1, xs2, xclr]
      have e1 := I (by omega) 0 (Nat.zero_le _)
      simp only [nLotsP, Int.add_zero] at e1
      exact e1
  refine v_lconst (q := 1) (e := 0) hX (by decide) dX5_lotsInAll_0 rfl ?_
  refine v_lstore_n (q := 2) hX dX5_lotsInAll_1 rfl (Nat.le_of_ble_eq_true rfl) (Nat.le_of_ble_eq_true rfl) rfl ?_
  dsimp only [xs1, xs2, xclr]
  refine v_iconst (q := 3) hX dX5_lotsInAll_2 rfl ?_
  refine v_istore_n (q := 4) hX dX5_lotsInAll_3 rfl (Nat.le_of_ble_eq_true rfl) (Nat.le_of_ble_eq_true rfl) rfl ?_
  dsimp only [xs1, xs2, xclr]
  exact L 0 (Nat.zero_le _)

set_option maxRecDepth 100000 in
set_option maxHeartbeats 4000000 in
theorem c_X5_sumOf {z : Nat} (D : xD) (r : xR) (hr : xRM r) {B : Int} {np : Nat} (hO : nOk B np (D 352)) (w : Nat) (hw : w < 36) : MX 1 mX5_sumOf [.ref 351, vi w] (356, z) D r (356, z) (xP (vl (nSum (D 352) w np)) D r) := by
  refine MX.of (by decide +kernel) [some (.ref 351), some (vi w), none, none, none] rfl (Nat.le_of_ble_eq_true rfl) ?_
  intro γ hX hRX
  have hn := hO.np
  have hB := hO.1
  have L : ∀ p, p ≤ np → xV γ 5 [some (.ref 351), some (vi w), some (vl (nSum (D 352) w p)), none, some (vi (p : Nat))] [] (356, z) D r := by
    refine xup np (fun p hp ih => ?_)
    refine v_iload (q := 7) hX dX5_sumOf_5 rfl rfl ?_
    refine v_i2l (q := 8) hX ⟨by omega, by omega⟩ dX5_sumOf_7 rfl ?_
    refine v_aload_n (q := 9) hX dX5_sumOf_8 rfl rfl rfl ?_
    refine w_getR (q := 12) hX fl_X5_7 rfl oX5 hr.1 dX5_sumOf_9 rfl ?_
    refine v_iconst (q := 13) hX dX5_sumOf_12 rfl ?_
    refine w_lld (q := 14) (kk := 1) hX (by omega) (by omega) aNow dX5_sumOf_13 rfl ?_
    refine v_lcmp_ge (q := 18) (tgt := 34) hX ⟨by omega, by omega⟩ ⟨by omega, by omega⟩ dX5_sumOf_14 dX5_sumOf_15 (by decide) rfl (fun h14 => ?_) (fun h14 => ?_)
    · refine v_lload_n (q := 35) hX dX5_sumOf_34 rfl rfl rfl ?_
      refine v_lreturn hX hRX rfl dX5_sumOf_35 rfl ?_
      rw [show p = np by omega]
      exact ⟨rfl, rfl, rfl⟩
    · refine v_lload_n (q := 19) hX dX5_sumOf_18 rfl rfl rfl ?_
      refine v_aload_n (q := 20) hX dX5_sumOf_19 rfl rfl rfl ?_
      refine v_iload (q := 22) hX dX5_sumOf_20 rfl rfl ?_
      refine v_iload_n (q := 23) hX dX5_sumOf_22 rfl rfl rfl ?_
      refine w_callV (q := 26) hX (c_X5_ofP _ _ hr (p) (w) (by omega)) rfl kV_X5_ofP rfl (by decide) lk_X5_78 (by decide) rfl oX5 (Nat.le_of_ble_eq_true rfl) dX5_sumOf_23 rfl ?_
      refine v_ladd (q := 27) hX dX5_sumOf_26 rfl ?_
      refine v_lstore_n (q := 28) hX dX5_sumOf_27 rfl (Nat.le_of_ble_eq_true rfl) (Nat.le_of_ble_eq_true rfl) rfl ?_
      dsimp only [xs1, xs2, xclr]
      refine v_iinc (q := 31) hX dX5_sumOf_28 rfl (Nat.le_of_ble_eq_true rfl) (Nat.le_of_ble_eq_true rfl) rfl ?_
      dsimp only [xs1, xs2, xclr]
      refine v_goto (tgt := 5) hX dX5_sumOf_31 (by decide) ?_
      exact ih (by omega)
  refine v_lconst (q := 1) (e := 0) hX (by decide) dX5_sumOf_0 rfl ?_
  refine v_lstore_n (q := 2) hX dX5_sumOf_1 rfl (Nat.le_of_ble_eq_true rfl) (Nat.le_of_ble_eq_true rfl) rfl ?_
  dsimp only [xs1, xs2, xclr]
  refine v_iconst (q := 3) hX dX5_sumOf_2 rfl ?_
  refine v_istore (q := 5) hX dX5_sumOf_3 (Nat.le_of_ble_eq_true rfl) (Nat.le_of_ble_eq_true rfl) rfl ?_
  dsimp only [xs1, xs2, xclr]
  exact L 0 (Nat.zero_le _)

/-- no projection of a product behind a week from the f-th on, ahead of the k-th, is below 0 -/
def nDoW (N : Nat → Int) (p f : Nat) : Nat → Bool
  | 0 => true
  | n + 1 => nDoW N p f n && decide (0 ≤ nPj N p (f + n + 1))
def nDo (N : Nat → Int) (f : Nat) : Nat → Bool
  | 0 => true
  | p + 1 => nDo N f p && nDoW N p f (12 - f)
set_option maxRecDepth 100000 in
set_option maxHeartbeats 4000000 in
theorem c_X5_does {z : Nat} (D : xD) (r : xR) (hr : xRM r) {B : Int} {np : Nat} (hO : nOk B np (D 352)) (f : Nat) (hf1 : D 352 7 = (f : Int)) (hf2 : f ≤ 8) : MX 2 mX5_does [.ref 351] (356, z) D r (356, z) (xP (vi (bi (nDo (D 352) f np = true))) D r) := by
  refine MX.of (by decide +kernel) [some (.ref 351), none, none, none] rfl (Nat.le_of_ble_eq_true rfl) ?_
  intro γ hX hRX
  have hn := hO.np
  have hB := hO.1
  have L : ∀ p, p ≤ np → xV γ 4 [some (.ref 351), some (vi (bi (nDo (D 352) f p = true))), some (vi (p : Nat)), none] [] (356, z) D r := by
    refine xup np (fun p hp ih => ?_)
    have M : p < np → xV γ 54 [some (.ref 351), some (vi (bi ((nDo (D 352) f p && nDoW (D 352) p f (12 - f)) = true))), some (vi (p : Nat)), none] [] (356, z) D r := by
      intro hpn
      refine v_iinc (q := 57) hX dX5_does_54 rfl (Nat.le_of_ble_eq_true rfl) (Nat.le_of_ble_eq_true rfl) rfl ?_
      dsimp only [xs1, xs2, xclr]
      refine v_goto (tgt := 4) hX dX5_does_57 (by decide) ?_
      exact ih hpn
    have I : p < np → ∀ n, n ≤ 12 - f → xV γ 21 [some (.ref 351), some (vi (bi ((nDo (D 352) f p && nDoW (D 352) p f n) = true))), some (vi (p : Nat)), some (vi ((f + n : Nat) : Int))] [] (356, z) D r := by
      intro hpn
      refine xup (12 - f) (fun n hk ih2 => ?_)
      refine v_iload_n (q := 22) hX dX5_does_21 rfl rfl rfl ?_
      refine v_bipush (q := 24) hX (by decide) dX5_does_22 rfl ?_
      refine v_icmp_ge (q := 27) (tgt := 54) hX ⟨by omega, by omega⟩ (by decide) dX5_does_24 (by decide) rfl (fun h24 => ?_) (fun h24 => ?_)
      · rw [show n = 12 - f by omega]
        exact xVw (by repeat' first | exact trivial | refine And.intro rfl ?_) (M hpn)
      · refine v_iload_n (q := 28) hX dX5_does_27 rfl rfl rfl ?_
        refine w_ifeq (q := 31) (tgt := 46) hX dX5_does_28 (by decide) rfl (fun h28 => ?_) (fun h28 => ?_)
        · refine v_iconst (q := 47) hX dX5_does_46 rfl ?_
          refine v_istore_n (q := 48) hX dX5_does_47 rfl (Nat.le_of_ble_eq_true rfl) (Nat.le_of_ble_eq_true rfl) rfl ?_
          dsimp only [xs1, xs2, xclr]
          refine v_iinc (q := 51) hX dX5_does_48 rfl (Nat.le_of_ble_eq_true rfl) (Nat.le_of_ble_eq_true rfl) rfl ?_
          dsimp only [xs1, xs2, xclr]
          refine v_goto (tgt := 21) hX dX5_does_51 (by decide) ?_
          have e1 := ih2 (by omega)
          first | rw [show bi ((nDo (D 352) f p && nDoW (D 352) p f (n + 1)) = true) = 1 from if_pos (by simp only [nDoW, Bool.and_eq_true, decide_eq_true_eq] at h28 ⊢; exact ⟨h28.1, h28.2, h38⟩)] at e1 | rw [show bi ((nDo (D 352) f p && nDoW (D 352) p f (n + 1)) = true) = 0 from if_neg (fun hh => by simp only [nDoW, Bool.and_eq_true, decide_eq_true_eq] at hh h28; first | exact h28 ⟨hh.1, hh.2.1⟩ | exact absurd hh.2.2 (Int.not_le.mpr h38))] at e1
          exact e1
        · have q1 := nPj_le hO (p := p) (by omega) (f + n + 1) (by omega)
          refine v_aload_n (q := 32) hX dX5_does_31 rfl rfl rfl ?_
          refine v_iload_n (q := 33) hX dX5_does_32 rfl rfl rfl ?_
          refine v_iload_n (q := 34) hX dX5_does_33 rfl rfl rfl ?_
          refine w_callV (q := 37) hX (c_X5_project _ _ hr hO (p) ((f + n)) (by omega) (by omega)) rfl kV_X5_project rfl (by decide) lk_X5_101 (by decide) rfl oX5 (Nat.le_of_ble_eq_true rfl) dX5_does_34 rfl ?_
          refine v_lconst (q := 38) (e := 0) hX (by decide) dX5_does_37 rfl ?_
          refine v_lcmp_lt (q := 42) (tgt := 46) hX ⟨by omega, by omega⟩ (by decide) dX5_does_38 dX5_does_39 (by decide) rfl (fun h38 => ?_) (fun h38 => ?_)
          · refine v_iconst (q := 47) hX dX5_does_46 rfl ?_
            refine v_istore_n (q := 48) hX dX5_does_47 rfl (Nat.le_of_ble_eq_true rfl) (Nat.le_of_ble_eq_true rfl) rfl ?_
            dsimp only [xs1, xs2, xclr]
            refine v_iinc (q := 51) hX dX5_does_48 rfl (Nat.le_of_ble_eq_true rfl) (Nat.le_of_ble_eq_true rfl) rfl ?_
            dsimp only [xs1, xs2, xclr]
            refine v_goto (tgt := 21) hX dX5_does_51 (by decide) ?_
            have e1 := ih2 (by omega)
            first | rw [show bi ((nDo (D 352) f p && nDoW (D 352) p f (n + 1)) = true) = 1 from if_pos (by simp only [nDoW, Bool.and_eq_true, decide_eq_true_eq] at h28 ⊢; exact ⟨h28.1, h28.2, h38⟩)] at e1 | rw [show bi ((nDo (D 352) f p && nDoW (D 352) p f (n + 1)) = true) = 0 from if_neg (fun hh => by simp only [nDoW, Bool.and_eq_true, decide_eq_true_eq] at hh h28; first | exact h28 ⟨hh.1, hh.2.1⟩ | exact absurd hh.2.2 (Int.not_le.mpr h38))] at e1
            exact e1
          · refine v_iconst (q := 43) hX dX5_does_42 rfl ?_
            refine v_goto (tgt := 47) hX dX5_does_43 (by decide) ?_
            refine v_istore_n (q := 48) hX dX5_does_47 rfl (Nat.le_of_ble_eq_true rfl) (Nat.le_of_ble_eq_true rfl) rfl ?_
            dsimp only [xs1, xs2, xclr]
            refine v_iinc (q := 51) hX dX5_does_48 rfl (Nat.le_of_ble_eq_true rfl) (Nat.le_of_ble_eq_true rfl) rfl ?_
            dsimp only [xs1, xs2, xclr]
            refine v_goto (tgt := 21) hX dX5_does_51 (by decide) ?_
            have e1 := ih2 (by omega)
            first | rw [show bi ((nDo (D 352) f p && nDoW (D 352) p f (n + 1)) = true) = 1 from if_pos (by simp only [nDoW, Bool.and_eq_true, decide_eq_true_eq] at h28 ⊢; exact ⟨h28.1, h28.2, h38⟩)] at e1 | rw [show bi ((nDo (D 352) f p && nDoW (D 352) p f (n + 1)) = true) = 0 from if_neg (fun hh => by simp only [nDoW, Bool.and_eq_true, decide_eq_true_eq] at hh h28; first | exact h28 ⟨hh.1, hh.2.1⟩ | exact absurd hh.2.2 (Int.not_le.mpr h38))] at e1
            exact e1
    refine v_iload_n (q := 5) hX dX5_does_4 rfl rfl rfl ?_
    refine v_i2l (q := 6) hX ⟨by omega, by omega⟩ dX5_does_5 rfl ?_
    refine v_aload_n (q := 7) hX dX5_does_6 rfl rfl rfl ?_
    refine w_getR (q := 10) hX fl_X5_7 rfl oX5 hr.1 dX5_does_7 rfl ?_
    refine v_iconst (q := 11) hX dX5_does_10 rfl ?_
    refine w_lld (q := 12) (kk := 1) hX (by omega) (by omega) aNow dX5_does_11 rfl ?_
    refine v_lcmp_ge (q := 16) (tgt := 60) hX ⟨by omega, by omega⟩ ⟨by omega, by omega⟩ dX5_does_12 dX5_does_13 (by decide) rfl (fun h12 => ?_) (fun h12 => ?_)
    · refine v_iload_n (q := 61) hX dX5_does_60 rfl rfl rfl ?_
      refine v_ireturn hX hRX rfl (by first | rfl | exact bi_nar _) dX5_does_61 rfl ?_
      rw [show p = np by omega]
      exact ⟨rfl, rfl, rfl⟩
    · refine v_aload_n (q := 17) hX dX5_does_16 rfl rfl rfl ?_
      refine w_callV (q := 20) hX (c_X5_fence _ _ hr) rfl kV_X5_fence rfl (by decide) lk_X5_114 (by decide) rfl oX5 (Nat.le_of_ble_eq_true rfl) dX5_does_17 rfl ?_
      rw [hf1]
      refine v_istore_n (q := 21) hX dX5_does_20 rfl (Nat.le_of_ble_eq_true rfl) (Nat.le_of_ble_eq_true rfl) rfl ?_
      dsimp only [xs1, xs2, xclr]
      have e1 := I (by omega) 0 (Nat.zero_le _)
      simp only [nDoW, Bool.and_true] at e1
      exact e1
  refine v_iconst (q := 1) hX dX5_does_0 rfl ?_
  refine v_istore_n (q := 2) hX dX5_does_1 rfl (Nat.le_of_ble_eq_true rfl) (Nat.le_of_ble_eq_true rfl) rfl ?_
  dsimp only [xs1, xs2, xclr]
  refine v_iconst (q := 3) hX dX5_does_2 rfl ?_
  refine v_istore_n (q := 4) hX dX5_does_3 rfl (Nat.le_of_ble_eq_true rfl) (Nat.le_of_ble_eq_true rfl) rfl ?_
  dsimp only [xs1, xs2, xclr]
  exact L 0 (Nat.zero_le _)

