theorem PC.wk {D : xD} {b : Nat} {N : Nat → Int} {p : Nat} (h : PC D b N p) (j : Nat) (e : Int) (hj : 12 ≤ j) : PC (xu D b j e) b N p :=
  h.keep (fun i hi => xu_ne _ _ _ _ (Or.inr (by omega))) (fun i _ => by rw [xu_r1]) (fun i _ => by rw [xu_r2]) (fun _ _ => rfl)
theorem xw_r1 (D : xD) (b : Nat) (f : Nat → Int) : xw D b f (b + 1) = D (b + 1) := xw_ne _ _ _ (by omega)
theorem xw_r2 (D : xD) (b : Nat) (f : Nat → Int) : xw D b f (b + 2) = D (b + 2) := xw_ne _ _ _ (by omega)
theorem xcp_xw (D : xD) (a sp b dp len : Nat) : xcp D a sp b dp len = xw D b (fun j => if dp ≤ j ∧ j < dp + len then D a (sp + (j - dp)) else D b j) := rfl
def eWk (D : xD) (b : Nat) (x c : Int) : xD := xu (xu (xu D b 14 x) b 15 c) b 16 (bi (x < c))
theorem nFcs_cut (N : Nat → Int) (p a n : Nat) (h : 12 ≤ a + n) : ∀ m, nFcs N p a (n + m) = nFcs N p a n := by
  intro m
  induction m with
  | zero => rfl
  | succ m ih => rw [show n + (m + 1) = (n + m) + 1 by omega]; show nFcs N p a (n + m) + (if a + (n + m) < 12 then pF N p (12 + (a + (n + m))) else 0) = _; rw [ih, if_neg (by omega), Int.add_zero]
set_option maxRecDepth 100000 in
set_option maxHeartbeats 4000000 in
theorem c_X2_enterWeek {z : Nat} (D : xD) (r : xR) {b : Nat} (hK : PK b) (hR : PR b r) {B : Int} {np : Nat} {N : Nat → Int} (hO : nOk B np N) {p : Nat} (hp : p < np) (hP : PC D b N p) (w : Nat) (hw : w < 12) (hx : -4000000000 ≤ D b 14 ∧ D b 14 ≤ 4000000000) : MX 1 mX2_enterWeek [.ref b, vi w, vi (N 9)] (351, z) D r (351, z) (xEn (fun D' => D' = eWk D b (D b 14 - pF N p (12 + w)) (nCov N p)) r) := by
  refine MX.of (by decide +kernel) [some (.ref b), some (vi w), some (vi (N 9))] rfl (Nat.le_of_ble_eq_true rfl) ?_
  intro γ hX hRX
  have h2 := nCov_le hO hp
  have h3 := hO.fc hp hw
  refine v_iload_n (q := 1) hX dX2_enterWeek_0 rfl rfl rfl ?_
  refine v_if_lt (q := 4) (tgt := 26) hX ⟨by omega, by omega⟩ dX2_enterWeek_1 (by decide) rfl (fun h1 => ?_) (fun h1 => ?_)
  · exact absurd h1 (by omega)
  · refine v_iload_n (q := 5) hX dX2_enterWeek_4 rfl rfl rfl ?_
    refine v_bipush (q := 7) hX (by decide) dX2_enterWeek_5 rfl ?_
    refine v_icmp_ge (q := 10) (tgt := 26) hX ⟨by omega, by omega⟩ (by decide) dX2_enterWeek_7 (by decide) rfl (fun h7 => ?_) (fun h7 => ?_)
    · exact absurd h7 (by omega)
    · refine v_aload_n (q := 11) hX dX2_enterWeek_10 rfl rfl rfl ?_
      refine v_dup (q := 12) hX rfl dX2_enterWeek_11 rfl ?_
      refine w_getL (q := 15) hX fl_X2_71 rfl hK.1 dX2_enterWeek_12 rfl ?_
      refine v_aload_n (q := 16) hX dX2_enterWeek_15 rfl rfl rfl ?_
      refine w_getR (q := 19) hX fl_X2_9 rfl hK.1 hR.1 dX2_enterWeek_16 rfl ?_
      refine v_iload_n (q := 20) hX dX2_enterWeek_19 rfl rfl rfl ?_
      refine w_ild (q := 21) (kk := w) hX (by omega) (by omega) hK.2.1 dX2_enterWeek_20 rfl ?_
      rw [hP.fc w hw]
      refine v_i2l (q := 22) hX ⟨by omega, by omega⟩ dX2_enterWeek_21 rfl ?_
      refine v_lsub (q := 23) hX dX2_enterWeek_22 rfl ?_
      refine w_putL (q := 26) hX fl_X2_71 rfl hK.1 dX2_enterWeek_23 rfl ?_
      refine v_aload_n (q := 27) hX dX2_enterWeek_26 rfl rfl rfl ?_
      refine v_aload_n (q := 28) hX dX2_enterWeek_27 rfl rfl rfl ?_
      refine v_iload_n (q := 29) hX dX2_enterWeek_28 rfl rfl rfl ?_
      refine w_callV (q := 32) hX (c_X2_cover _ _ hK hR hO hp (hP.wk 14 _ (by decide))) rfl kV_X2_cover rfl (by decide) lk_X2_81 (by decide) rfl hK.1 (Nat.le_of_ble_eq_true rfl) dX2_enterWeek_29 rfl ?_
      refine w_putI (q := 35) hX fl_X2_85 rfl hK.1 dX2_enterWeek_32 rfl ?_
      refine v_aload_n (q := 36) hX dX2_enterWeek_35 rfl rfl rfl ?_
      refine v_aload_n (q := 37) hX dX2_enterWeek_36 rfl rfl rfl ?_
      refine w_getL (q := 40) hX fl_X2_71 rfl hK.1 dX2_enterWeek_37 rfl ?_
      rw [show ∀ x y, xu (xu D b 14 x) b 15 y b 14 = x from fun x y => by simp [xu]]
      refine v_aload_n (q := 41) hX dX2_enterWeek_40 rfl rfl rfl ?_
      refine w_getI (q := 44) hX fl_X2_85 rfl hK.1 dX2_enterWeek_41 rfl ?_
      rw [show ∀ x y, xu (xu D b 14 x) b 15 y b 15 = y from fun x y => by simp [xu]]
      refine v_i2l (q := 45) hX ⟨by omega, by omega⟩ dX2_enterWeek_44 rfl ?_
      refine v_lcmp_ge (q := 49) (tgt := 53) hX ⟨by omega, by omega⟩ ⟨by omega, by omega⟩ dX2_enterWeek_45 dX2_enterWeek_46 (by decide) rfl (fun h45 => ?_) (fun h45 => ?_)
      · refine v_iconst (q := 54) hX dX2_enterWeek_53 rfl ?_
        refine w_putZ (q := 57) hX fl_X2_88 rfl (by decide) hK.1 dX2_enterWeek_54 rfl ?_
        refine v_vreturn hX hRX rfl dX2_enterWeek_57 rfl ?_
        refine ⟨rfl, rfl, ?_⟩
        unfold eWk
        first | rw [bi, if_pos (by omega)] | rw [bi, if_neg (by omega)]
      · refine v_iconst (q := 50) hX dX2_enterWeek_49 rfl ?_
        refine v_goto (tgt := 54) hX dX2_enterWeek_50 (by decide) ?_
        refine w_putZ (q := 57) hX fl_X2_88 rfl (by decide) hK.1 dX2_enterWeek_54 rfl ?_
        refine v_vreturn hX hRX rfl dX2_enterWeek_57 rfl ?_
        refine ⟨rfl, rfl, ?_⟩
        unfold eWk
        first | rw [bi, if_pos (by omega)] | rw [bi, if_neg (by omega)]

set_option maxRecDepth 100000 in
set_option maxHeartbeats 4000000 in
theorem c_X2_lotsWanted {z : Nat} (D : xD) (r : xR) {b : Nat} (hK : PK b) (hR : PR b r) {B : Int} {np : Nat} {N : Nat → Int} (hO : nOk B np N) {p : Nat} (hp : p < np) (hP : PC D b N p) (w : Nat) (hw : w < 12) (l : Nat) (hl8 : N 8 = (l : Int)) (ha : D b 15 = nCov N p) (hq : D b 14 = nPj N p (w + 1)) (hlt : nPj N p (w + 1) < nCov N p) : MX 0 mX2_lotsWanted [.ref b, vi w, vi l] (351, z) D r (351, z) (xP (vl ((nCov N p - nPj N p (w + 1) + nFcs N p (w + 1) (l - 1) + pF N p 1 - 1) / pF N p 1)) D r) := by
  refine MX.of (by decide +kernel) [some (.ref b), some (vi w), some (vi l), none, none, none] rfl (Nat.le_of_ble_eq_true rfl) ?_
  intro γ hX hRX
  obtain ⟨-, p1, -⟩ := hO.2.2.2.2.2 p hp
  have h2 := nCov_le hO hp
  have h4 := nPj_le hO hp (w + 1) (by omega)
  have hB := hO.1
  have hl := hO.2.2.2.1.2.2.2.1
  have hu : 0 ≤ nFcs N p (w + 1) (l - 1) ∧ nFcs N p (w + 1) (l - 1) ≤ 100000 := by have := nFcs_le hO hp (w + 1) (l - 1); omega
  have hw1 : nWant N p w = (nCov N p - nPj N p (w + 1) + nFcs N p (w + 1) (l - 1) + pF N p 1 - 1) / pF N p 1 := by
    unfold nWant nUnits; rw [show (N 8 - 1).toNat = l - 1 by omega]
  have K63 : ∀ x : Nat, xV γ 63 [some (.ref b), some (vi w), some (vi l), some (vl (nCov N p - nPj N p (w + 1) + nFcs N p (w + 1) (l - 1))), none, some (vi x)] [] (351, z) D r := by
    intro x
    refine v_lload_n (q := 64) hX dX2_lotsWanted_63 rfl rfl rfl ?_
    refine v_aload_n (q := 65) hX dX2_lotsWanted_64 rfl rfl rfl ?_
    refine w_getI (q := 68) hX fl_X2_22 rfl hK.1 dX2_lotsWanted_65 rfl ?_
    rw [hP.sz]
    refine v_i2l (q := 69) hX ⟨by omega, by omega⟩ dX2_lotsWanted_68 rfl ?_
    refine v_ladd (q := 70) hX dX2_lotsWanted_69 rfl ?_
    refine v_lconst (q := 71) (e := 1) hX (by decide) dX2_lotsWanted_70 rfl ?_
    refine v_lsub (q := 72) hX dX2_lotsWanted_71 rfl ?_
    refine v_aload_n (q := 73) hX dX2_lotsWanted_72 rfl rfl rfl ?_
    refine w_getI (q := 76) hX fl_X2_22 rfl hK.1 dX2_lotsWanted_73 rfl ?_
    rw [hP.sz]
    refine v_i2l (q := 77) hX ⟨by omega, by omega⟩ dX2_lotsWanted_76 rfl ?_
    refine v_ldiv (q := 78) hX (by omega) ⟨by omega, by omega⟩ (by omega) ⟨by omega, by omega⟩ dX2_lotsWanted_77 rfl ?_
    refine v_lreturn hX hRX rfl dX2_lotsWanted_78 rfl ?_
    exact ⟨rfl, rfl, rfl⟩
  have L : ∀ n, n ≤ l - 1 → xV γ 26 [some (.ref b), some (vi w), some (vi l), some (vl (nCov N p - nPj N p (w + 1) + nFcs N p (w + 1) n)), none, some (vi ((w + 1 + n : Nat) : Int))] [] (351, z) D r := by
    refine xup (l - 1) (fun n hn ih => ?_)
    refine v_iload (q := 28) hX dX2_lotsWanted_26 rfl rfl ?_
    refine v_iload_n (q := 29) hX dX2_lotsWanted_28 rfl rfl rfl ?_
    refine v_iload_n (q := 30) hX dX2_lotsWanted_29 rfl rfl rfl ?_
    refine v_iadd (q := 31) hX dX2_lotsWanted_30 rfl ?_
    refine v_icmp_ge (q := 34) (tgt := 63) hX ⟨by omega, by omega⟩ ⟨by omega, by omega⟩ dX2_lotsWanted_31 (by decide) rfl (fun h31 => ?_) (fun h31 => ?_)
    · first | (rw [show n = l - 1 by omega]; exact K63 _) | (rw [show nFcs N p (w + 1) n = nFcs N p (w + 1) (l - 1) by (obtain ⟨m, hm⟩ : ∃ m, l - 1 = n + m := ⟨l - 1 - n, by omega⟩; rw [hm, nFcs_cut _ _ _ _ (by omega)])]; exact K63 _)
    · refine v_iload (q := 36) hX dX2_lotsWanted_34 rfl rfl ?_
      refine v_if_lt (q := 39) (tgt := 63) hX ⟨by omega, by omega⟩ dX2_lotsWanted_36 (by decide) rfl (fun h36 => ?_) (fun h36 => ?_)
      · exact absurd h36 (by omega)
      · refine v_iload (q := 41) hX dX2_lotsWanted_39 rfl rfl ?_
        refine v_bipush (q := 43) hX (by decide) dX2_lotsWanted_41 rfl ?_
        refine v_icmp_ge (q := 46) (tgt := 63) hX ⟨by omega, by omega⟩ (by decide) dX2_lotsWanted_43 (by decide) rfl (fun h43 => ?_) (fun h43 => ?_)
        · first | (rw [show n = l - 1 by omega]; exact K63 _) | (rw [show nFcs N p (w + 1) n = nFcs N p (w + 1) (l - 1) by (obtain ⟨m, hm⟩ : ∃ m, l - 1 = n + m := ⟨l - 1 - n, by omega⟩; rw [hm, nFcs_cut _ _ _ _ (by omega)])]; exact K63 _)
        · refine v_lload_n (q := 47) hX dX2_lotsWanted_46 rfl rfl rfl ?_
          refine v_aload_n (q := 48) hX dX2_lotsWanted_47 rfl rfl rfl ?_
          refine w_getR (q := 51) hX fl_X2_9 rfl hK.1 hR.1 dX2_lotsWanted_48 rfl ?_
          refine v_iload (q := 53) hX dX2_lotsWanted_51 rfl rfl ?_
          refine w_ild (q := 54) (kk := (w + 1 + n)) hX (by omega) (by omega) hK.2.1 dX2_lotsWanted_53 rfl ?_
          have h7 := hO.fc hp (k := w + 1 + n) (by omega)
          rw [hP.fc (w + 1 + n) (by omega)]
          refine v_i2l (q := 55) hX ⟨by omega, by omega⟩ dX2_lotsWanted_54 rfl ?_
          refine v_ladd (q := 56) hX dX2_lotsWanted_55 rfl ?_
          refine v_lstore_n (q := 57) hX dX2_lotsWanted_56 rfl (Nat.le_of_ble_eq_true rfl) (Nat.le_of_ble_eq_true rfl) rfl ?_
          dsimp only [xs1, xs2, xclr]
          refine v_iinc (q := 60) hX dX2_lotsWanted_57 rfl (Nat.le_of_ble_eq_true rfl) (Nat.le_of_ble_eq_true rfl) rfl ?_
          dsimp only [xs1, xs2, xclr]
          refine v_goto (tgt := 26) hX dX2_lotsWanted_60 (by decide) ?_
          have e1 := ih (by omega)
          simp only [nFcs] at e1
          rw [if_pos (by omega), ← Int.add_assoc] at e1
          exact e1
  refine v_aload_n (q := 1) hX dX2_lotsWanted_0 rfl rfl rfl ?_
  refine w_getI (q := 4) hX fl_X2_22 rfl hK.1 dX2_lotsWanted_1 rfl ?_
  refine v_iconst (q := 5) hX dX2_lotsWanted_4 rfl ?_
  rw [hP.sz]
  refine v_icmp_ge (q := 8) (tgt := 10) hX ⟨by omega, by omega⟩ (by decide) dX2_lotsWanted_5 (by decide) rfl (fun h5 => ?_) (fun h5 => ?_)
  · refine v_aload_n (q := 11) hX dX2_lotsWanted_10 rfl rfl rfl ?_
    refine w_getI (q := 14) hX fl_X2_85 rfl hK.1 dX2_lotsWanted_11 rfl ?_
    rw [ha]
    refine v_i2l (q := 15) hX ⟨by omega, by omega⟩ dX2_lotsWanted_14 rfl ?_
    refine v_aload_n (q := 16) hX dX2_lotsWanted_15 rfl rfl rfl ?_
    refine w_getL (q := 19) hX fl_X2_71 rfl hK.1 dX2_lotsWanted_16 rfl ?_
    rw [hq]
    refine v_lsub (q := 20) hX dX2_lotsWanted_19 rfl ?_
    refine v_lstore_n (q := 21) hX dX2_lotsWanted_20 rfl (Nat.le_of_ble_eq_true rfl) (Nat.le_of_ble_eq_true rfl) rfl ?_
    dsimp only [xs1, xs2, xclr]
    refine v_iload_n (q := 22) hX dX2_lotsWanted_21 rfl rfl rfl ?_
    refine v_iconst (q := 23) hX dX2_lotsWanted_22 rfl ?_
    refine v_iadd (q := 24) hX dX2_lotsWanted_23 rfl ?_
    refine v_istore (q := 26) hX dX2_lotsWanted_24 (Nat.le_of_ble_eq_true rfl) (Nat.le_of_ble_eq_true rfl) rfl ?_
    dsimp only [xs1, xs2, xclr]
    have e1 := L 0 (Nat.zero_le _)
    simp only [nFcs, Int.add_zero] at e1
    exact e1
  · exact absurd h5 (by omega)

set_option maxRecDepth 100000 in
set_option maxHeartbeats 4000000 in
theorem c_X2_planLots {z : Nat} (D : xD) (r : xR) {b : Nat} (hK : PK b) (hR : PR b r) {B : Int} {np : Nat} {N : Nat → Int} (hO : nOk B np N) {p : Nat} (hp : p < np) (hP : PC D b N p) (w : Nat) (hw : w < 12) (g : Int) (hg : xI g) : MX 0 mX2_planLots [.ref b, vi w, vi g] (351, z) D r (351, z) (xEn (fun D' => D' = xu (xu D (b + 2) w g) b 14 (D b 14 + g * pF N p 1)) r) := by
  refine MX.of (by decide +kernel) [some (.ref b), some (vi w), some (vi g)] rfl (Nat.le_of_ble_eq_true rfl) ?_
  intro γ hX hRX
  obtain ⟨-, p1, -⟩ := hO.2.2.2.2.2 p hp
  refine v_iload_n (q := 1) hX dX2_planLots_0 rfl rfl rfl ?_
  refine v_if_lt (q := 4) (tgt := 34) hX ⟨by omega, by omega⟩ dX2_planLots_1 (by decide) rfl (fun h1 => ?_) (fun h1 => ?_)
  · exact absurd h1 (by omega)
  · refine v_iload_n (q := 5) hX dX2_planLots_4 rfl rfl rfl ?_
    refine v_bipush (q := 7) hX (by decide) dX2_planLots_5 rfl ?_
    refine v_icmp_ge (q := 10) (tgt := 34) hX ⟨by omega, by omega⟩ (by decide) dX2_planLots_7 (by decide) rfl (fun h7 => ?_) (fun h7 => ?_)
    · exact absurd h7 (by omega)
    · refine v_aload_n (q := 11) hX dX2_planLots_10 rfl rfl rfl ?_
      refine w_getR (q := 14) hX fl_X2_15 rfl hK.1 hR.2 dX2_planLots_11 rfl ?_
      refine v_iload_n (q := 15) hX dX2_planLots_14 rfl rfl rfl ?_
      refine v_iload_n (q := 16) hX dX2_planLots_15 rfl rfl rfl ?_
      refine w_ist (q := 17) (kk := w) hX (by omega) (by omega) hK.2.2 dX2_planLots_16 rfl ?_
      refine v_aload_n (q := 18) hX dX2_planLots_17 rfl rfl rfl ?_
      refine v_dup (q := 19) hX rfl dX2_planLots_18 rfl ?_
      refine w_getL (q := 22) hX fl_X2_71 rfl hK.1 dX2_planLots_19 rfl ?_
      rw [xu_ne _ _ _ _ (Or.inl (by omega))]
      refine v_iload_n (q := 23) hX dX2_planLots_22 rfl rfl rfl ?_
      refine v_i2l (q := 24) hX hg dX2_planLots_23 rfl ?_
      refine v_aload_n (q := 25) hX dX2_planLots_24 rfl rfl rfl ?_
      refine w_getI (q := 28) hX fl_X2_22 rfl hK.1 dX2_planLots_25 rfl ?_
      rw [xu_ne _ _ _ _ (Or.inl (by omega)), hP.sz]
      refine v_i2l (q := 29) hX ⟨by omega, by omega⟩ dX2_planLots_28 rfl ?_
      refine v_lmul (q := 30) hX dX2_planLots_29 rfl ?_
      refine v_ladd (q := 31) hX dX2_planLots_30 rfl ?_
      refine w_putL (q := 34) hX fl_X2_71 rfl hK.1 dX2_planLots_31 rfl ?_
      refine v_vreturn hX hRX rfl dX2_planLots_34 rfl ?_
      exact ⟨rfl, rfl, rfl⟩

theorem pw_fr {D : xD} {b : Nat} (F : Nat → Int) (e : Int) (_ : xD) : fr3 b D (xu (xu (xcp (xcp (xw D b F) (b + 1) 1 (b + 1) 0 11) (b + 2) 1 (b + 2) 0 11) (b + 2) 11 0) b 8 e) := by
  intro a h1 h2 h3
  unfold xu xcp xw
  simp only [h1, h2, h3, if_false, reduceIte]
theorem pw_end {D D' : xD} {b : Nat} {N : Nat → Int} {p : Nat} (h : PC D b N p) (hD : D' = xu (xu (xcp (xcp (xw D b (fu (fu (fu (fu (fu (fu (fu (D b) 9 (pF N p 8 + pF N p 24 * pF N p 1)) 5 (pF N p 4 + pF N p 24 * pF N p 1)) 11 (pF N p 10 + rCame (nRec N p))) 10 (pF N p 9 + rSent (nRec N p))) 5 (pF N p 4 + pF N p 24 * pF N p 1 - rSent (nRec N p))) 6 (rCame (nRec N p) + pF N p 5 - rSent (nRec N p))) 7 ((7 * pF N p 6 + rOff (nRec N p) + 7) / 8))) (b + 1) 1 (b + 1) 0 11) (b + 2) 1 (b + 2) 0 11) (b + 2) 11 0) b 8 (-6)) : PC D' b (nUpd N p (rRoll (rShip (nRec N p)))) p := by
  subst hD
  have R : ∀ i, i < 36 → pF (nUpd N p (rRoll (rShip (nRec N p)))) p i = rRoll (rShip (nRec N p)) i := fun i hi => nUpd_at _ _ _ hi
  refine ⟨?_, ?_, ?_, ?_, ?_, ?_, ?_, ?_, ?_, ?_, ?_, ?_, ?_, ?_⟩
  · rw [R 0 (by decide)]; simp [xu, xcp, xw, fu_app, rRoll, rRl, rShip, nRec]; exact h.fa
  · rw [R 1 (by decide)]; simp [xu, xcp, xw, fu_app, rRoll, rRl, rShip, nRec]; exact h.sz
  · rw [R 2 (by decide)]; simp [xu, xcp, xw, fu_app, rRoll, rRl, rShip, nRec]; exact h.lh
  · rw [R 3 (by decide)]; simp [xu, xcp, xw, fu_app, rRoll, rRl, rShip, nRec]; exact h.sh
  · rw [R 11 (by decide)]; simp [xu, xcp, xw, fu_app, rRoll, rRl, rShip, nRec]; exact h.bg
  · rw [R 4 (by decide)]; simp [xu, xcp, xw, fu_app, rRoll, rRl, rShip, rHave, nRec]
  · rw [R 5 (by decide)]; simp [xu, xcp, xw, fu_app, rRoll, rRl, rShip, rWant, nRec]
  · rw [R 6 (by decide)]; simp [xu, xcp, xw, fu_app, rRoll, rRl, rShip, nRec]
  · rw [R 7 (by decide)]; simp [xu, xcp, xw, fu_app, rRoll, rRl, rShip, nRec]
  · rw [R 8 (by decide)]; simp [xu, xcp, xw, fu_app, rRoll, rRl, rShip, nRec]
  · rw [R 9 (by decide)]; simp [xu, xcp, xw, fu_app, rRoll, rRl, rShip, nRec]
  · rw [R 10 (by decide)]; simp [xu, xcp, xw, fu_app, rRoll, rRl, rShip, nRec]
  · intro k hk
    rw [R (12 + k) (by omega)]
    have e1 : rRoll (rShip (nRec N p)) (12 + k) = if k < 11 then pF N p (12 + (k + 1)) else pF N p (12 + k) := by
      unfold rRoll; rw [fu_ne _ _ _ (by omega), fu_ne _ _ _ (by omega)]; unfold rRl
      by_cases h2 : k < 11
      · rw [if_pos (by omega), if_pos h2]; unfold rShip; rw [fu_ne _ _ _ (by omega), fu_ne _ _ _ (by omega), fu_ne _ _ _ (by omega), fu_ne _ _ _ (by omega), fu_ne _ _ _ (by omega), fu_ne _ _ _ (by omega)]; rfl
      · rw [if_neg (by omega), if_neg h2]; unfold rShip; rw [fu_ne _ _ _ (by omega), fu_ne _ _ _ (by omega), fu_ne _ _ _ (by omega), fu_ne _ _ _ (by omega), fu_ne _ _ _ (by omega), fu_ne _ _ _ (by omega)]; rfl
    rw [e1]
    simp [xu, xcp, xw]
    split
    · rw [h.fc _ (by omega), show 1 + k = k + 1 by omega]
    · rw [h.fc _ (by omega)]
  · intro k hk
    rw [R (24 + k) (by omega)]
    have e1 : rRoll (rShip (nRec N p)) (24 + k) = if k < 11 then pF N p (24 + (k + 1)) else 0 := by
      unfold rRoll; rw [fu_ne _ _ _ (by omega)]
      by_cases h2 : k < 11
      · rw [fu_ne _ _ _ (by omega)]; unfold rRl; rw [if_pos (by omega), if_pos h2]; unfold rShip; rw [fu_ne _ _ _ (by omega), fu_ne _ _ _ (by omega), fu_ne _ _ _ (by omega), fu_ne _ _ _ (by omega), fu_ne _ _ _ (by omega), fu_ne _ _ _ (by omega)]; rfl
      · rw [if_neg h2, show 24 + k = 35 by omega, fu_at]
    rw [e1]
    simp [xu, xcp, xw]
    by_cases h2 : k < 11
    · rw [if_neg (by omega), if_pos h2, if_pos h2, h.lt _ (by omega), show 1 + k = k + 1 by omega]
    · rw [if_pos (by omega), if_neg h2]
set_option maxRecDepth 100000 in
set_option maxHeartbeats 4000000 in
theorem c_X2_passWeek {z : Nat} (D : xD) (r : xR) {b : Nat} (hK : PK b) (hR : PR b r) {B : Int} {np : Nat} {N : Nat → Int} (hO : nOk B np N) {p : Nat} (hp : p < np) (hP : PC D b N p) : MX 1 mX2_passWeek [.ref b] (351, z) D r (351, z) (xEn (fun D' => PC D' b (nUpd N p (rRoll (rShip (nRec N p)))) p ∧ fr3 b D D') r) := by
  refine MX.of (by decide +kernel) [some (.ref b), none, none, none, none] rfl (Nat.le_of_ble_eq_true rfl) ?_
  intro γ hX hRX
  obtain ⟨p0, p1, p2, p3, p4, p5, p6, p7, pf, pl⟩ := hO.2.2.2.2.2 p hp
  have hB := hO.1
  have f0 := pf 0 (by decide)
  have l0 := pl 0 (by decide)
  have hc : 0 ≤ rCame (nRec N p) ∧ rCame (nRec N p) ≤ 2000 := by
    have f0' : 0 ≤ pF N p 12 ∧ pF N p 12 ≤ 1000 := f0
    have e1 : rCame (nRec N p) = if pF N p 7 = -6 then pF N p 12 else pF N p 7 := rfl
    by_cases h1 : pF N p 7 = -6
    · rw [e1, if_pos h1]; exact ⟨f0'.1, by omega⟩
    · rw [e1, if_neg h1]; omega
  have hm1 : 0 ≤ pF N p 24 * pF N p 1 := Int.mul_nonneg l0.1 (by omega)
  have hm2 : pF N p 24 * pF N p 1 ≤ 1000 * 100 := Int.mul_le_mul l0.2 p1.2 (by omega) (by omega)
  have hSent : (if pF N p 4 + pF N p 24 * pF N p 1 < rCame (nRec N p) + pF N p 5 then pF N p 4 + pF N p 24 * pF N p 1 else rCame (nRec N p) + pF N p 5) = rSent (nRec N p) := by
    show _ = (if rCame (nRec N p) + pF N p 5 < pF N p 4 + pF N p 24 * pF N p 1 then rCame (nRec N p) + pF N p 5 else pF N p 4 + pF N p 24 * pF N p 1)
    by_cases h1 : pF N p 4 + pF N p 24 * pF N p 1 < rCame (nRec N p) + pF N p 5
    · rw [if_pos h1, if_neg (by omega)]
    · rw [if_neg h1]
      by_cases h2 : rCame (nRec N p) + pF N p 5 < pF N p 4 + pF N p 24 * pF N p 1
      · rw [if_pos h2]
      · rw [if_neg h2]; omega
  have hOff : (if 0 ≤ rCame (nRec N p) - pF N p (12 + 0) then rCame (nRec N p) - pF N p (12 + 0) else 0 - (rCame (nRec N p) - pF N p (12 + 0))) = rOff (nRec N p) := by
    show _ = (if pF N p (12 + 0) < rCame (nRec N p) then rCame (nRec N p) - pF N p (12 + 0) else pF N p (12 + 0) - rCame (nRec N p))
    by_cases h1 : pF N p (12 + 0) < rCame (nRec N p)
    · rw [if_pos h1, if_pos (by omega)]
    · rw [if_neg h1]
      by_cases h2 : 0 ≤ rCame (nRec N p) - pF N p (12 + 0)
      · rw [if_pos h2]; omega
      · rw [if_neg h2]; omega
  have ho : 0 ≤ rOff (nRec N p) ∧ rOff (nRec N p) ≤ 2000 := by
    rw [← hOff]; have f1 : 0 ≤ pF N p (12 + 0) ∧ pF N p (12 + 0) ≤ 1000 := f0; split <;> omega
  have K : xV γ 54 [some (.ref b), some (vi (pF N p 24 * pF N p 1)), none, none, none] [vi (rCame (nRec N p))] (351, z) (xw D b (fu (fu (D b) 9 (pF N p 8 + pF N p 24 * pF N p 1)) 5 (pF N p 4 + pF N p 24 * pF N p 1))) r := by
    refine v_istore_n (q := 55) hX dX2_passWeek_54 rfl (Nat.le_of_ble_eq_true rfl) (Nat.le_of_ble_eq_true rfl) rfl ?_
    dsimp only [xs1, xs2, xclr]
    refine v_aload_n (q := 56) hX dX2_passWeek_55 rfl rfl rfl ?_
    refine v_dup (q := 57) hX rfl dX2_passWeek_56 rfl ?_
    refine w_getI (q := 60) hX fl_X2_52 rfl hK.1 dX2_passWeek_57 rfl ?_
    simp only [xw_at, xw_r1, xw_r2, fu_app, Nat.reduceEqDiff, reduceIte]
    rw [hP.ca]
    refine v_iload_n (q := 61) hX dX2_passWeek_60 rfl rfl rfl ?_
    refine v_iadd (q := 62) hX dX2_passWeek_61 rfl ?_
    refine w_putI (q := 65) hX fl_X2_52 rfl hK.1 dX2_passWeek_62 rfl ?_
    rw [xu_xw']
    refine v_iload_n (q := 66) hX dX2_passWeek_65 rfl rfl rfl ?_
    refine v_aload_n (q := 67) hX dX2_passWeek_66 rfl rfl rfl ?_
    refine w_getI (q := 70) hX fl_X2_37 rfl hK.1 dX2_passWeek_67 rfl ?_
    simp only [xw_at, xw_r1, xw_r2, fu_app, Nat.reduceEqDiff, reduceIte]
    rw [hP.bl]
    refine v_iadd (q := 71) hX dX2_passWeek_70 rfl ?_
    refine v_istore_n (q := 72) hX dX2_passWeek_71 rfl (Nat.le_of_ble_eq_true rfl) (Nat.le_of_ble_eq_true rfl) rfl ?_
    dsimp only [xs1, xs2, xclr]
    refine v_iload_n (q := 73) hX dX2_passWeek_72 rfl rfl rfl ?_
    refine v_aload_n (q := 74) hX dX2_passWeek_73 rfl rfl rfl ?_
    refine w_getI (q := 77) hX fl_X2_34 rfl hK.1 dX2_passWeek_74 rfl ?_
    simp only [xw_at, xw_r1, xw_r2, fu_app, Nat.reduceEqDiff, reduceIte]
    refine v_mmin (q := 80) hX ⟨by omega, by omega⟩ ⟨by omega, by omega⟩ lk_X2_92 st_min (show Cond.initialized "java/lang/Math" ∈ xtb from ii_J9) cd_min (by decide) (Nat.le_of_ble_eq_true rfl) dX2_passWeek_77 rfl ?_
    rw [show (if pF N p 4 + pF N p 24 * pF N p 1 < rCame (nRec N p) + pF N p 5 then pF N p 4 + pF N p 24 * pF N p 1 else rCame (nRec N p) + pF N p 5) = rSent (nRec N p) from hSent]
    refine v_istore (q := 82) hX dX2_passWeek_80 (Nat.le_of_ble_eq_true rfl) (Nat.le_of_ble_eq_true rfl) rfl ?_
    dsimp only [xs1, xs2, xclr]
    refine v_aload_n (q := 83) hX dX2_passWeek_82 rfl rfl rfl ?_
    refine v_dup (q := 84) hX rfl dX2_passWeek_83 rfl ?_
    refine w_getI (q := 87) hX fl_X2_49 rfl hK.1 dX2_passWeek_84 rfl ?_
    simp only [xw_at, xw_r1, xw_r2, fu_app, Nat.reduceEqDiff, reduceIte]
    rw [hP.si]
    refine v_iload (q := 89) hX dX2_passWeek_87 rfl rfl ?_
    refine v_iadd (q := 90) hX dX2_passWeek_89 rfl ?_
    refine w_putI (q := 93) hX fl_X2_49 rfl hK.1 dX2_passWeek_90 rfl ?_
    rw [xu_xw']
    refine v_aload_n (q := 94) hX dX2_passWeek_93 rfl rfl rfl ?_
    refine v_dup (q := 95) hX rfl dX2_passWeek_94 rfl ?_
    refine w_getI (q := 98) hX fl_X2_34 rfl hK.1 dX2_passWeek_95 rfl ?_
    simp only [xw_at, xw_r1, xw_r2, fu_app, Nat.reduceEqDiff, reduceIte]
    refine v_iload (q := 100) hX dX2_passWeek_98 rfl rfl ?_
    refine v_isub (q := 101) hX dX2_passWeek_100 rfl ?_
    refine w_putI (q := 104) hX fl_X2_34 rfl hK.1 dX2_passWeek_101 rfl ?_
    rw [xu_xw']
    refine v_aload_n (q := 105) hX dX2_passWeek_104 rfl rfl rfl ?_
    refine v_iload_n (q := 106) hX dX2_passWeek_105 rfl rfl rfl ?_
    refine v_iload (q := 108) hX dX2_passWeek_106 rfl rfl ?_
    refine v_isub (q := 109) hX dX2_passWeek_108 rfl ?_
    refine w_putI (q := 112) hX fl_X2_37 rfl hK.1 dX2_passWeek_109 rfl ?_
    rw [xu_xw']
    refine v_aload_n (q := 113) hX dX2_passWeek_112 rfl rfl rfl ?_
    refine v_bipush (q := 115) hX (by decide) dX2_passWeek_113 rfl ?_
    refine v_aload_n (q := 116) hX dX2_passWeek_115 rfl rfl rfl ?_
    refine w_getI (q := 119) hX fl_X2_40 rfl hK.1 dX2_passWeek_116 rfl ?_
    simp only [xw_at, xw_r1, xw_r2, fu_app, Nat.reduceEqDiff, reduceIte]
    rw [hP.er]
    refine v_imul (q := 120) hX dX2_passWeek_119 rfl ?_
    refine v_iload_n (q := 121) hX dX2_passWeek_120 rfl rfl rfl ?_
    refine v_aload_n (q := 122) hX dX2_passWeek_121 rfl rfl rfl ?_
    refine w_getR (q := 125) hX fl_X2_9 rfl hK.1 hR.1 dX2_passWeek_122 rfl ?_
    refine v_iconst (q := 126) hX dX2_passWeek_125 rfl ?_
    refine w_ild (q := 127) (kk := 0) hX (by omega) (by omega) hK.2.1 dX2_passWeek_126 rfl ?_
    simp only [xw_at, xw_r1, xw_r2, fu_app, Nat.reduceEqDiff, reduceIte]
    rw [hP.fc 0 (by decide)]
    refine v_isub (q := 128) hX dX2_passWeek_127 rfl ?_
    refine v_mabs (q := 131) hX ⟨by omega, by omega⟩ lk_X2_95 st_abs (show Cond.initialized "java/lang/Math" ∈ xtb from ii_J9) cd_abs (by decide) (Nat.le_of_ble_eq_true rfl) dX2_passWeek_128 rfl ?_
    rw [show (if 0 ≤ rCame (nRec N p) - pF N p (12 + 0) then rCame (nRec N p) - pF N p (12 + 0) else 0 - (rCame (nRec N p) - pF N p (12 + 0))) = rOff (nRec N p) from hOff]
    refine v_iadd (q := 132) hX dX2_passWeek_131 rfl ?_
    refine v_bipush (q := 134) hX (by decide) dX2_passWeek_132 rfl ?_
    refine v_iadd (q := 135) hX dX2_passWeek_134 rfl ?_
    refine v_bipush (q := 137) hX (by decide) dX2_passWeek_135 rfl ?_
    refine v_idiv (q := 138) hX (by omega) ⟨by omega, by omega⟩ (by decide) (by decide) dX2_passWeek_137 rfl ?_
    refine w_putI (q := 141) hX fl_X2_40 rfl hK.1 dX2_passWeek_138 rfl ?_
    rw [xu_xw']
    refine v_aload_n (q := 142) hX dX2_passWeek_141 rfl rfl rfl ?_
    refine w_getR (q := 145) hX fl_X2_9 rfl hK.1 hR.1 dX2_passWeek_142 rfl ?_
    refine v_iconst (q := 146) hX dX2_passWeek_145 rfl ?_
    refine v_aload_n (q := 147) hX dX2_passWeek_146 rfl rfl rfl ?_
    refine w_getR (q := 150) hX fl_X2_9 rfl hK.1 hR.1 dX2_passWeek_147 rfl ?_
    refine v_iconst (q := 151) hX dX2_passWeek_150 rfl ?_
    refine v_bipush (q := 153) hX (by decide) dX2_passWeek_151 rfl ?_
    refine v_copy (q := 156) hX (Nat.le_refl 351) lk_X2_61 nat_arraycopy st_copy (show Cond.initialized "java/lang/System" ∈ xtb from ii_J10) (sp := 1) (dp := 0) (len := 11) rfl rfl rfl (by decide) (by decide) (by decide) hK.2.1.1 hK.2.1.1 hK.2.1.2.1 hK.2.1.2.2.1 hK.2.1.2.1 hK.2.1.2.2.1 (by decide) (Nat.le_of_ble_eq_true rfl) dX2_passWeek_153 rfl ?_
    refine v_aload_n (q := 157) hX dX2_passWeek_156 rfl rfl rfl ?_
    refine w_getR (q := 160) hX fl_X2_15 rfl hK.1 hR.2 dX2_passWeek_157 rfl ?_
    refine v_iconst (q := 161) hX dX2_passWeek_160 rfl ?_
    refine v_aload_n (q := 162) hX dX2_passWeek_161 rfl rfl rfl ?_
    refine w_getR (q := 165) hX fl_X2_15 rfl hK.1 hR.2 dX2_passWeek_162 rfl ?_
    refine v_iconst (q := 166) hX dX2_passWeek_165 rfl ?_
    refine v_bipush (q := 168) hX (by decide) dX2_passWeek_166 rfl ?_
    refine v_copy (q := 171) hX (Nat.le_refl 351) lk_X2_61 nat_arraycopy st_copy (show Cond.initialized "java/lang/System" ∈ xtb from ii_J10) (sp := 1) (dp := 0) (len := 11) rfl rfl rfl (by decide) (by decide) (by decide) hK.2.2.1 hK.2.2.1 hK.2.2.2.1 hK.2.2.2.2.1 hK.2.2.2.1 hK.2.2.2.2.1 (by decide) (Nat.le_of_ble_eq_true rfl) dX2_passWeek_168 rfl ?_
    refine v_aload_n (q := 172) hX dX2_passWeek_171 rfl rfl rfl ?_
    refine w_getR (q := 175) hX fl_X2_15 rfl hK.1 hR.2 dX2_passWeek_172 rfl ?_
    refine v_bipush (q := 177) hX (by decide) dX2_passWeek_175 rfl ?_
    refine v_iconst (q := 178) hX dX2_passWeek_177 rfl ?_
    refine w_ist (q := 179) (kk := 11) hX (by omega) (by omega) hK.2.2 dX2_passWeek_178 rfl ?_
    refine v_aload_n (q := 180) hX dX2_passWeek_179 rfl rfl rfl ?_
    refine v_bipush (q := 182) hX (by decide) dX2_passWeek_180 rfl ?_
    refine w_putI (q := 185) hX fl_X2_43 rfl hK.1 dX2_passWeek_182 rfl ?_
    refine v_vreturn hX hRX rfl dX2_passWeek_185 rfl ?_
    refine ⟨rfl, rfl, pw_end hP ?_, ?_⟩
    · rfl
    · exact pw_fr _ _ D
  refine v_aload_n (q := 1) hX dX2_passWeek_0 rfl rfl rfl ?_
  refine w_getR (q := 4) hX fl_X2_15 rfl hK.1 hR.2 dX2_passWeek_1 rfl ?_
  refine v_iconst (q := 5) hX dX2_passWeek_4 rfl ?_
  refine w_ild (q := 6) (kk := 0) hX (by omega) (by omega) hK.2.2 dX2_passWeek_5 rfl ?_
  rw [hP.lt 0 (by decide)]
  refine v_aload_n (q := 7) hX dX2_passWeek_6 rfl rfl rfl ?_
  refine w_getI (q := 10) hX fl_X2_22 rfl hK.1 dX2_passWeek_7 rfl ?_
  rw [hP.sz, show pF N p (24 + 0) = pF N p 24 from rfl]
  refine v_imul (q := 11) hX dX2_passWeek_10 rfl ?_
  refine v_istore_n (q := 12) hX dX2_passWeek_11 rfl (Nat.le_of_ble_eq_true rfl) (Nat.le_of_ble_eq_true rfl) rfl ?_
  dsimp only [xs1, xs2, xclr]
  refine v_aload_n (q := 13) hX dX2_passWeek_12 rfl rfl rfl ?_
  refine v_dup (q := 14) hX rfl dX2_passWeek_13 rfl ?_
  refine w_getI (q := 17) hX fl_X2_46 rfl hK.1 dX2_passWeek_14 rfl ?_
  rw [hP.ma]
  refine v_iload_n (q := 18) hX dX2_passWeek_17 rfl rfl rfl ?_
  refine v_iadd (q := 19) hX dX2_passWeek_18 rfl ?_
  refine w_putI (q := 22) hX fl_X2_46 rfl hK.1 dX2_passWeek_19 rfl ?_
  rw [xu_xw]
  refine v_aload_n (q := 23) hX dX2_passWeek_22 rfl rfl rfl ?_
  refine v_dup (q := 24) hX rfl dX2_passWeek_23 rfl ?_
  refine w_getI (q := 27) hX fl_X2_34 rfl hK.1 dX2_passWeek_24 rfl ?_
  simp only [xw_at, xw_r1, xw_r2, fu_app, Nat.reduceEqDiff, reduceIte]
  rw [hP.st]
  refine v_iload_n (q := 28) hX dX2_passWeek_27 rfl rfl rfl ?_
  refine v_iadd (q := 29) hX dX2_passWeek_28 rfl ?_
  refine w_putI (q := 32) hX fl_X2_34 rfl hK.1 dX2_passWeek_29 rfl ?_
  rw [xu_xw']
  refine v_aload_n (q := 33) hX dX2_passWeek_32 rfl rfl rfl ?_
  refine w_getI (q := 36) hX fl_X2_43 rfl hK.1 dX2_passWeek_33 rfl ?_
  simp only [xw_at, xw_r1, xw_r2, fu_app, Nat.reduceEqDiff, reduceIte]
  rw [hP.to]
  refine v_bipush (q := 38) hX (by decide) dX2_passWeek_36 rfl ?_
  refine v_icmp_ne (q := 41) (tgt := 50) hX ⟨by omega, by omega⟩ (by decide) dX2_passWeek_38 (by decide) rfl (fun h38 => ?_) (fun h38 => ?_)
  · refine v_aload_n (q := 51) hX dX2_passWeek_50 rfl rfl rfl ?_
    refine w_getI (q := 54) hX fl_X2_43 rfl hK.1 dX2_passWeek_51 rfl ?_
    first | (rw [show xw D b (fu (fu (D b) 9 (pF N p 8 + pF N p 24 * pF N p 1)) 5 (pF N p 4 + pF N p 24 * pF N p 1)) (b + 1) 0 = rCame (nRec N p) by (rw [xw_r1, hP.fc 0 (by decide)]; exact (if_pos h38).symm)]; exact K) | (rw [show xw D b (fu (fu (D b) 9 (pF N p 8 + pF N p 24 * pF N p 1)) 5 (pF N p 4 + pF N p 24 * pF N p 1)) b 8 = rCame (nRec N p) by (simp only [xw_at, fu_app, Nat.reduceEqDiff, reduceIte]; rw [hP.to]; exact (if_neg h38).symm)]; exact K)
  · refine v_aload_n (q := 42) hX dX2_passWeek_41 rfl rfl rfl ?_
    refine w_getR (q := 45) hX fl_X2_9 rfl hK.1 hR.1 dX2_passWeek_42 rfl ?_
    refine v_iconst (q := 46) hX dX2_passWeek_45 rfl ?_
    refine w_ild (q := 47) (kk := 0) hX (by omega) (by omega) hK.2.1 dX2_passWeek_46 rfl ?_
    refine v_goto (tgt := 54) hX dX2_passWeek_47 (by decide) ?_
    first | (rw [show xw D b (fu (fu (D b) 9 (pF N p 8 + pF N p 24 * pF N p 1)) 5 (pF N p 4 + pF N p 24 * pF N p 1)) (b + 1) 0 = rCame (nRec N p) by (rw [xw_r1, hP.fc 0 (by decide)]; exact (if_pos h38).symm)]; exact K) | (rw [show xw D b (fu (fu (D b) 9 (pF N p 8 + pF N p 24 * pF N p 1)) 5 (pF N p 4 + pF N p 24 * pF N p 1)) b 8 = rCame (nRec N p) by (simp only [xw_at, fu_app, Nat.reduceEqDiff, reduceIte]; rw [hP.to]; exact (if_neg h38).symm)]; exact K)

theorem bg_fr {D : xD} {b : Nat} (F G H : Nat → Int) : fr3 b D (xw (xw (xw D b F) (b + 1) G) (b + 2) H) := fun a h1 h2 h3 => by rw [xw_ne _ _ _ h3, xw_ne _ _ _ h2, xw_ne _ _ _ h1]
theorem bg_PC (D : xD) (b : Nat) (N : Nat → Int) (np : Nat) (fa sz lh sh st : Int) : PC (xw (xw (xw D b (fu (fu (fu (fu (fu (fu (fu (fu (fu (fu (fu (fu (D b) 0 fa) 1 sz) 2 lh) 3 sh) 4 st) 5 st) 6 0) 7 0) 8 (-6)) 9 0) 10 0) 11 0)) (b + 1) (fz (D (b + 1)) 0 12)) (b + 2) (fz (D (b + 2)) 0 12)) b (nNew N np fa sz lh sh st) np := by
  have e0 : ∀ F G H : Nat → Int, xw (xw (xw D b F) (b + 1) G) (b + 2) H b = F := fun F G H => by rw [xw_ne _ _ _ (show b ≠ b + 2 by omega), xw_ne _ _ _ (show b ≠ b + 1 by omega), xw_at]
  have e1 : ∀ F G H : Nat → Int, xw (xw (xw D b F) (b + 1) G) (b + 2) H (b + 1) = G := fun F G H => by rw [xw_ne _ _ _ (show b + 1 ≠ b + 2 by omega), xw_at]
  have e2 : ∀ F G H : Nat → Int, xw (xw (xw D b F) (b + 1) G) (b + 2) H (b + 2) = H := fun F G H => xw_at _ _ _
  refine ⟨?_, ?_, ?_, ?_, ?_, ?_, ?_, ?_, ?_, ?_, ?_, ?_, ?_, ?_⟩
  all_goals first
    | (intro k hk; (first | rw [e1] | rw [e2]); rw [nNew_hi _ _ _ _ _ _ _ (by omega) (by omega)]; exact if_pos hk)
    | (rw [e0, nNew_at _ _ _ _ _ _ _ (by decide)]; rfl)
set_option maxRecDepth 100000 in
set_option maxHeartbeats 4000000 in
theorem c_X2_begin {z : Nat} (D : xD) (r : xR) {b : Nat} (hK : PK b) (hR : PR b r) (N : Nat → Int) (np : Nat) (fa sz lh sh st : Int) : MX 1 mX2_begin [.ref b, vi fa, vi sz, vi lh, vi sh, vi st] (351, z) D r (351, z) (xEn (fun D' => PC D' b (nNew N np fa sz lh sh st) np ∧ fr3 b D D') r) := by
  refine MX.of (by decide +kernel) [some (.ref b), some (vi fa), some (vi sz), some (vi lh), some (vi sh), some (vi st)] rfl (Nat.le_of_ble_eq_true rfl) ?_
  intro γ hX hRX
  refine v_aload_n (q := 1) hX dX2_begin_0 rfl rfl rfl ?_
  refine v_iload_n (q := 2) hX dX2_begin_1 rfl rfl rfl ?_
  refine w_putI (q := 5) hX fl_X2_18 rfl hK.1 dX2_begin_2 rfl ?_
  refine v_aload_n (q := 6) hX dX2_begin_5 rfl rfl rfl ?_
  refine v_iload_n (q := 7) hX dX2_begin_6 rfl rfl rfl ?_
  rw [xu_xw]
  refine w_putI (q := 10) hX fl_X2_22 rfl hK.1 dX2_begin_7 rfl ?_
  refine v_aload_n (q := 11) hX dX2_begin_10 rfl rfl rfl ?_
  refine v_iload_n (q := 12) hX dX2_begin_11 rfl rfl rfl ?_
  rw [xu_xw']
  refine w_putI (q := 15) hX fl_X2_25 rfl hK.1 dX2_begin_12 rfl ?_
  refine v_aload_n (q := 16) hX dX2_begin_15 rfl rfl rfl ?_
  refine v_iload (q := 18) hX dX2_begin_16 rfl rfl ?_
  rw [xu_xw']
  refine w_putI (q := 21) hX fl_X2_28 rfl hK.1 dX2_begin_18 rfl ?_
  refine v_aload_n (q := 22) hX dX2_begin_21 rfl rfl rfl ?_
  refine v_iload (q := 24) hX dX2_begin_22 rfl rfl ?_
  rw [xu_xw']
  refine w_putI (q := 27) hX fl_X2_31 rfl hK.1 dX2_begin_24 rfl ?_
  refine v_aload_n (q := 28) hX dX2_begin_27 rfl rfl rfl ?_
  refine v_iload (q := 30) hX dX2_begin_28 rfl rfl ?_
  rw [xu_xw']
  refine w_putI (q := 33) hX fl_X2_34 rfl hK.1 dX2_begin_30 rfl ?_
  refine v_aload_n (q := 34) hX dX2_begin_33 rfl rfl rfl ?_
  refine v_iconst (q := 35) hX dX2_begin_34 rfl ?_
  rw [xu_xw']
  refine w_putI (q := 38) hX fl_X2_37 rfl hK.1 dX2_begin_35 rfl ?_
  refine v_aload_n (q := 39) hX dX2_begin_38 rfl rfl rfl ?_
  refine v_iconst (q := 40) hX dX2_begin_39 rfl ?_
  rw [xu_xw']
  refine w_putI (q := 43) hX fl_X2_40 rfl hK.1 dX2_begin_40 rfl ?_
  refine v_aload_n (q := 44) hX dX2_begin_43 rfl rfl rfl ?_
  refine v_bipush (q := 46) hX (by decide) dX2_begin_44 rfl ?_
  rw [xu_xw']
  refine w_putI (q := 49) hX fl_X2_43 rfl hK.1 dX2_begin_46 rfl ?_
  refine v_aload_n (q := 50) hX dX2_begin_49 rfl rfl rfl ?_
  refine v_iconst (q := 51) hX dX2_begin_50 rfl ?_
  rw [xu_xw']
  refine w_putI (q := 54) hX fl_X2_46 rfl hK.1 dX2_begin_51 rfl ?_
  refine v_aload_n (q := 55) hX dX2_begin_54 rfl rfl rfl ?_
  refine v_iconst (q := 56) hX dX2_begin_55 rfl ?_
  rw [xu_xw']
  refine w_putI (q := 59) hX fl_X2_49 rfl hK.1 dX2_begin_56 rfl ?_
  refine v_aload_n (q := 60) hX dX2_begin_59 rfl rfl rfl ?_
  refine v_iconst (q := 61) hX dX2_begin_60 rfl ?_
  rw [xu_xw']
  refine w_putI (q := 64) hX fl_X2_52 rfl hK.1 dX2_begin_61 rfl ?_
  rw [xu_xw']
  refine v_aload_n (q := 65) hX dX2_begin_64 rfl rfl rfl ?_
  refine w_getR (q := 68) hX fl_X2_9 rfl hK.1 hR.1 dX2_begin_65 rfl ?_
  refine v_iconst (q := 69) hX dX2_begin_68 rfl ?_
  refine w_callSn (q := 72) hX (c_J7_fill _ _ hK.2.1 0) rfl kS_J7_fill_53178 rfl (by decide) lk_X2_55 (Nat.le_of_ble_eq_true rfl) dX2_begin_69 rfl (fun D1 hD1 => ?_)
  subst hD1
  refine v_aload_n (q := 73) hX dX2_begin_72 rfl rfl rfl ?_
  refine w_getR (q := 76) hX fl_X2_15 rfl hK.1 hR.2 dX2_begin_73 rfl ?_
  refine v_iconst (q := 77) hX dX2_begin_76 rfl ?_
  refine w_callSn (q := 80) hX (c_J7_fill _ _ hK.2.2 0) rfl kS_J7_fill_53178 rfl (by decide) lk_X2_55 (Nat.le_of_ble_eq_true rfl) dX2_begin_77 rfl (fun D1 hD1 => ?_)
  subst hD1
  rw [xw_ne _ _ _ (show b + 2 ≠ b + 1 by omega), xw_r2, xw_r1]
  refine v_vreturn hX hRX rfl dX2_begin_80 rfl ?_
  refine ⟨rfl, rfl, bg_PC _ _ _ _ _ _ _ _ _, bg_fr _ _ _⟩

theorem cp_fr {D : xD} {b : Nat} (F : Nat → Int) (c e : Nat) : fr3 b D (xcp (xcp (xw D b F) c 0 (b + 1) 0 12) e 0 (b + 2) 0 12) := by
  intro a h1 h2 h3
  unfold xcp xw
  simp only [h1, h2, h3, if_false, reduceIte]
theorem cp_PC {D : xD} {b c : Nat} {N : Nat → Int} {p : Nat} (h : PC D c N p) (hd : c + 2 < b ∨ b + 2 < c) : PC (xcp (xcp (xw D b (fu (fu (fu (fu (fu (fu (fu (fu (fu (fu (fu (fu (D b) 0 (pF N p 0)) 1 (pF N p 1)) 2 (pF N p 2)) 3 (pF N p 3)) 4 (pF N p 11)) 5 (pF N p 4)) 6 (pF N p 5)) 7 (pF N p 6)) 8 (pF N p 7)) 9 (pF N p 8)) 10 (pF N p 9)) 11 (pF N p 10))) (c + 1) 0 (b + 1) 0 12) (c + 2) 0 (b + 2) 0 12) b N p := by
  have e0 : ∀ F, xcp (xcp (xw D b F) (c + 1) 0 (b + 1) 0 12) (c + 2) 0 (b + 2) 0 12 b = F := fun F => by rw [xcp_xw, xw_ne _ _ _ (show b ≠ b + 2 by omega), xcp_xw, xw_ne _ _ _ (show b ≠ b + 1 by omega), xw_at]
  have e1 : ∀ F k, k < 12 → xcp (xcp (xw D b F) (c + 1) 0 (b + 1) 0 12) (c + 2) 0 (b + 2) 0 12 (b + 1) k = D (c + 1) k := fun F k hk => by
    rw [xcp_xw, xw_ne _ _ _ (show b + 1 ≠ b + 2 by omega), xcp_xw, xw_at, if_pos (by omega), xw_ne _ _ _ (by omega), show 0 + (k - 0) = k by omega]
  have e2 : ∀ F k, k < 12 → xcp (xcp (xw D b F) (c + 1) 0 (b + 1) 0 12) (c + 2) 0 (b + 2) 0 12 (b + 2) k = D (c + 2) k := fun F k hk => by
    rw [xcp_xw, xw_at, if_pos (by omega), xcp_xw, xw_ne _ _ _ (show c + 2 ≠ b + 1 by omega), xw_ne _ _ _ (by omega), show 0 + (k - 0) = k by omega]
  refine ⟨?_, ?_, ?_, ?_, ?_, ?_, ?_, ?_, ?_, ?_, ?_, ?_, fun k hk => by rw [e1 _ k hk]; exact h.fc k hk, fun k hk => by rw [e2 _ k hk]; exact h.lt k hk⟩
  all_goals (rw [e0]; rfl)
set_option maxRecDepth 100000 in
set_option maxHeartbeats 4000000 in
theorem c_X2_copyFrom {z : Nat} (D : xD) (r : xR) {b : Nat} (hK : PK b) (hR : PR b r) {c : Nat} (hC : PK c) (hS : PR c r) (hd : c + 2 < b ∨ b + 2 < c) {N : Nat → Int} {p : Nat} (hP : PC D c N p) : MX 1 mX2_copyFrom [.ref b, .ref c] (351, z) D r (351, z) (xEn (fun D' => PC D' b N p ∧ fr3 b D D') r) := by
  refine MX.of (by decide +kernel) [some (.ref b), some (.ref c)] rfl (Nat.le_of_ble_eq_true rfl) ?_
  intro γ hX hRX
  have hcb : c ≠ b := by omega
  refine v_aload_n (q := 1) hX dX2_copyFrom_0 rfl rfl rfl ?_
  refine v_aload_n (q := 2) hX dX2_copyFrom_1 rfl rfl rfl ?_
  refine w_getI (q := 5) hX fl_X2_18 rfl hC.1 dX2_copyFrom_2 rfl ?_
  rw [hP.fa]
  refine w_putI (q := 8) hX fl_X2_18 rfl hK.1 dX2_copyFrom_5 rfl ?_
  rw [xu_xw]
  refine v_aload_n (q := 9) hX dX2_copyFrom_8 rfl rfl rfl ?_
  refine v_aload_n (q := 10) hX dX2_copyFrom_9 rfl rfl rfl ?_
  refine w_getI (q := 13) hX fl_X2_22 rfl hC.1 dX2_copyFrom_10 rfl ?_
  rw [xw_ne _ _ _ hcb]
  rw [hP.sz]
  refine w_putI (q := 16) hX fl_X2_22 rfl hK.1 dX2_copyFrom_13 rfl ?_
  rw [xu_xw']
  refine v_aload_n (q := 17) hX dX2_copyFrom_16 rfl rfl rfl ?_
  refine v_aload_n (q := 18) hX dX2_copyFrom_17 rfl rfl rfl ?_
  refine w_getI (q := 21) hX fl_X2_25 rfl hC.1 dX2_copyFrom_18 rfl ?_
  rw [xw_ne _ _ _ hcb]
  rw [hP.lh]
  refine w_putI (q := 24) hX fl_X2_25 rfl hK.1 dX2_copyFrom_21 rfl ?_
  rw [xu_xw']
  refine v_aload_n (q := 25) hX dX2_copyFrom_24 rfl rfl rfl ?_
  refine v_aload_n (q := 26) hX dX2_copyFrom_25 rfl rfl rfl ?_
  refine w_getI (q := 29) hX fl_X2_28 rfl hC.1 dX2_copyFrom_26 rfl ?_
  rw [xw_ne _ _ _ hcb]
  rw [hP.sh]
  refine w_putI (q := 32) hX fl_X2_28 rfl hK.1 dX2_copyFrom_29 rfl ?_
  rw [xu_xw']
  refine v_aload_n (q := 33) hX dX2_copyFrom_32 rfl rfl rfl ?_
  refine v_aload_n (q := 34) hX dX2_copyFrom_33 rfl rfl rfl ?_
  refine w_getI (q := 37) hX fl_X2_31 rfl hC.1 dX2_copyFrom_34 rfl ?_
  rw [xw_ne _ _ _ hcb]
  rw [hP.bg]
  refine w_putI (q := 40) hX fl_X2_31 rfl hK.1 dX2_copyFrom_37 rfl ?_
  rw [xu_xw']
  refine v_aload_n (q := 41) hX dX2_copyFrom_40 rfl rfl rfl ?_
  refine v_aload_n (q := 42) hX dX2_copyFrom_41 rfl rfl rfl ?_
  refine w_getI (q := 45) hX fl_X2_34 rfl hC.1 dX2_copyFrom_42 rfl ?_
  rw [xw_ne _ _ _ hcb]
  rw [hP.st]
  refine w_putI (q := 48) hX fl_X2_34 rfl hK.1 dX2_copyFrom_45 rfl ?_
  rw [xu_xw']
  refine v_aload_n (q := 49) hX dX2_copyFrom_48 rfl rfl rfl ?_
  refine v_aload_n (q := 50) hX dX2_copyFrom_49 rfl rfl rfl ?_
  refine w_getI (q := 53) hX fl_X2_37 rfl hC.1 dX2_copyFrom_50 rfl ?_
  rw [xw_ne _ _ _ hcb]
  rw [hP.bl]
  refine w_putI (q := 56) hX fl_X2_37 rfl hK.1 dX2_copyFrom_53 rfl ?_
  rw [xu_xw']
  refine v_aload_n (q := 57) hX dX2_copyFrom_56 rfl rfl rfl ?_
  refine v_aload_n (q := 58) hX dX2_copyFrom_57 rfl rfl rfl ?_
  refine w_getI (q := 61) hX fl_X2_40 rfl hC.1 dX2_copyFrom_58 rfl ?_
  rw [xw_ne _ _ _ hcb]
  rw [hP.er]
  refine w_putI (q := 64) hX fl_X2_40 rfl hK.1 dX2_copyFrom_61 rfl ?_
  rw [xu_xw']
  refine v_aload_n (q := 65) hX dX2_copyFrom_64 rfl rfl rfl ?_
  refine v_aload_n (q := 66) hX dX2_copyFrom_65 rfl rfl rfl ?_
  refine w_getI (q := 69) hX fl_X2_43 rfl hC.1 dX2_copyFrom_66 rfl ?_
  rw [xw_ne _ _ _ hcb]
  rw [hP.to]
  refine w_putI (q := 72) hX fl_X2_43 rfl hK.1 dX2_copyFrom_69 rfl ?_
  rw [xu_xw']
  refine v_aload_n (q := 73) hX dX2_copyFrom_72 rfl rfl rfl ?_
  refine v_aload_n (q := 74) hX dX2_copyFrom_73 rfl rfl rfl ?_
  refine w_getI (q := 77) hX fl_X2_46 rfl hC.1 dX2_copyFrom_74 rfl ?_
  rw [xw_ne _ _ _ hcb]
  rw [hP.ma]
  refine w_putI (q := 80) hX fl_X2_46 rfl hK.1 dX2_copyFrom_77 rfl ?_
  rw [xu_xw']
  refine v_aload_n (q := 81) hX dX2_copyFrom_80 rfl rfl rfl ?_
  refine v_aload_n (q := 82) hX dX2_copyFrom_81 rfl rfl rfl ?_
  refine w_getI (q := 85) hX fl_X2_49 rfl hC.1 dX2_copyFrom_82 rfl ?_
  rw [xw_ne _ _ _ hcb]
  rw [hP.si]
  refine w_putI (q := 88) hX fl_X2_49 rfl hK.1 dX2_copyFrom_85 rfl ?_
  rw [xu_xw']
  refine v_aload_n (q := 89) hX dX2_copyFrom_88 rfl rfl rfl ?_
  refine v_aload_n (q := 90) hX dX2_copyFrom_89 rfl rfl rfl ?_
  refine w_getI (q := 93) hX fl_X2_52 rfl hC.1 dX2_copyFrom_90 rfl ?_
  rw [xw_ne _ _ _ hcb]
  rw [hP.ca]
  refine w_putI (q := 96) hX fl_X2_52 rfl hK.1 dX2_copyFrom_93 rfl ?_
  rw [xu_xw']
  refine v_aload_n (q := 97) hX dX2_copyFrom_96 rfl rfl rfl ?_
  refine w_getR (q := 100) hX fl_X2_9 rfl hC.1 hS.1 dX2_copyFrom_97 rfl ?_
  refine v_iconst (q := 101) hX dX2_copyFrom_100 rfl ?_
  refine v_aload_n (q := 102) hX dX2_copyFrom_101 rfl rfl rfl ?_
  refine w_getR (q := 105) hX fl_X2_9 rfl hK.1 hR.1 dX2_copyFrom_102 rfl ?_
  refine v_iconst (q := 106) hX dX2_copyFrom_105 rfl ?_
  refine v_bipush (q := 108) hX (by decide) dX2_copyFrom_106 rfl ?_
  refine v_copy (q := 111) hX (Nat.le_refl 351) lk_X2_61 nat_arraycopy st_copy (show Cond.initialized "java/lang/System" ∈ xtb from ii_J10) (sp := 0) (dp := 0) (len := 12) rfl rfl rfl (by decide) (by decide) (by decide) hC.2.1.1 hK.2.1.1 hC.2.1.2.1 hC.2.1.2.2.1 hK.2.1.2.1 hK.2.1.2.2.1 (by decide) (Nat.le_of_ble_eq_true rfl) dX2_copyFrom_108 rfl ?_
  refine v_aload_n (q := 112) hX dX2_copyFrom_111 rfl rfl rfl ?_
  refine w_getR (q := 115) hX fl_X2_15 rfl hC.1 hS.2 dX2_copyFrom_112 rfl ?_
  refine v_iconst (q := 116) hX dX2_copyFrom_115 rfl ?_
  refine v_aload_n (q := 117) hX dX2_copyFrom_116 rfl rfl rfl ?_
  refine w_getR (q := 120) hX fl_X2_15 rfl hK.1 hR.2 dX2_copyFrom_117 rfl ?_
  refine v_iconst (q := 121) hX dX2_copyFrom_120 rfl ?_
  refine v_bipush (q := 123) hX (by decide) dX2_copyFrom_121 rfl ?_
  refine v_copy (q := 126) hX (Nat.le_refl 351) lk_X2_61 nat_arraycopy st_copy (show Cond.initialized "java/lang/System" ∈ xtb from ii_J10) (sp := 0) (dp := 0) (len := 12) rfl rfl rfl (by decide) (by decide) (by decide) hC.2.2.1 hK.2.2.1 hC.2.2.2.1 hC.2.2.2.2.1 hK.2.2.2.1 hK.2.2.2.2.1 (by decide) (Nat.le_of_ble_eq_true rfl) dX2_copyFrom_123 rfl ?_
  refine v_vreturn hX hRX rfl dX2_copyFrom_126 rfl ?_
  refine ⟨rfl, rfl, cp_PC hP hd, cp_fr _ _ _⟩


