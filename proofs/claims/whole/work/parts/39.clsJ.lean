/-! ===== the class: the pad is read ===== -/
theorem oPad : xOb 356 73 1 := ⟨rfl, by decide, by decide⟩
theorem aSig : xAr 356 74 12 80 := ⟨rfl, by decide, by decide, by decide⟩
theorem nar_c0 : ∀ k, k < 256 → narrow .char (vi ((k : Nat) : Int)) = vi ((k : Nat) : Int) := by decide +kernel
theorem nar_c {e : Int} (h0 : 0 ≤ e) (h : e < 256) : narrow .char (vi e) = vi e := by
  obtain ⟨k, rfl⟩ := Int.eq_ofNat_of_zero_le h0
  exact nar_c0 k (by omega)
theorem tCh_r {T : Nat → Int} {n p : Nat} (h : tOk T n) : 0 ≤ tCh T n p ∧ tCh T n p ≤ 126 := by
  unfold tCh
  split
  · rename_i hp; have := h.2 p hp; omega
  · omega
/-- whether a digit stands at a place -/
def tDg (T : Nat → Int) (n p : Nat) : Prop := 48 ≤ tCh T n p ∧ tCh T n p ≤ 57
theorem tDg_iff {T : Nat → Int} {n p : Nat} : tDg T n p ↔ (p < n ∧ 48 ≤ T p ∧ T p ≤ 57) := by
  unfold tDg tCh
  by_cases h : p < n
  · rw [if_pos h]; exact ⟨fun x => ⟨h, x⟩, fun x => x.2⟩
  · rw [if_neg h]; exact ⟨fun x => by omega, fun x => absurd x.1 h⟩
set_option maxRecDepth 100000 in
set_option maxHeartbeats 4000000 in
theorem c_X1_signHere {z : Nat} (D : xD) (r : xR) (hr : r 73 0 = some 74) (n p : Nat) (hT : tOk (D 74) n) (h1 : D 73 1 = (n : Int)) (h2 : D 73 2 = (p : Int)) (hp : p ≤ 80) : MX 0 mX1_signHere [.ref 73] (356, z) D r (356, z) (xP (vi (tCh (D 74) n p)) D r) := by
  refine MX.of (by decide +kernel) [some (.ref 73)] rfl (Nat.le_of_ble_eq_true rfl) ?_
  intro γ hX hRX
  refine v_aload_n (q := 1) hX dX1_signHere_0 rfl rfl rfl ?_
  refine w_getI (q := 4) hX fl_X1_31 rfl oPad dX1_signHere_1 rfl ?_
  have hn := hT.1
  rw [h2]
  refine v_if_lt (q := 7) (tgt := 39) hX ⟨by omega, by omega⟩ dX1_signHere_4 (by decide) rfl (fun h4 => ?_) (fun h4 => ?_)
  · exact absurd h4 (by omega)
  · refine v_aload_n (q := 8) hX dX1_signHere_7 rfl rfl rfl ?_
    refine w_getI (q := 11) hX fl_X1_31 rfl oPad dX1_signHere_8 rfl ?_
    rw [h2]
    refine v_aload_n (q := 12) hX dX1_signHere_11 rfl rfl rfl ?_
    refine w_getI (q := 15) hX fl_X1_27 rfl oPad dX1_signHere_12 rfl ?_
    rw [h1]
    refine v_icmp_ge (q := 18) (tgt := 39) hX ⟨by omega, by omega⟩ ⟨by omega, by omega⟩ dX1_signHere_15 (by decide) rfl (fun h15 => ?_) (fun h15 => ?_)
    · refine v_iconst (q := 40) hX dX1_signHere_39 rfl ?_
      refine v_ireturn hX hRX rfl (by first | exact nar_c (by have := hT.2 p (by omega); omega) (by have := hT.2 p (by omega); omega) | exact nar_c (by decide) (by decide)) dX1_signHere_40 rfl ?_
      exact ⟨congrArg (fun e => some (vi e)) (by unfold tCh; first | rw [if_pos (by omega)] | rw [if_neg (by omega)]), rfl, rfl⟩
    · refine v_aload_n (q := 19) hX dX1_signHere_18 rfl rfl rfl ?_
      refine w_getI (q := 22) hX fl_X1_31 rfl oPad dX1_signHere_19 rfl ?_
      rw [h2]
      refine v_bipush (q := 24) hX (by decide) dX1_signHere_22 rfl ?_
      refine v_icmp_ge (q := 27) (tgt := 39) hX ⟨by omega, by omega⟩ (by decide) dX1_signHere_24 (by decide) rfl (fun h24 => ?_) (fun h24 => ?_)
      · exact absurd h24 (by omega)
      · refine v_aload_n (q := 28) hX dX1_signHere_27 rfl rfl rfl ?_
        refine w_getR (q := 31) hX fl_X1_9 rfl oPad hr dX1_signHere_28 rfl ?_
        refine v_aload_n (q := 32) hX dX1_signHere_31 rfl rfl rfl ?_
        refine w_getI (q := 35) hX fl_X1_31 rfl oPad dX1_signHere_32 rfl ?_
        rw [h2]
        refine w_cld (q := 36) (kk := p) hX (rfl) (by omega) aSig dX1_signHere_35 rfl ?_
        refine v_goto (tgt := 40) hX dX1_signHere_36 (by decide) ?_
        refine v_ireturn hX hRX rfl (by first | exact nar_c (by have := hT.2 p (by omega); omega) (by have := hT.2 p (by omega); omega) | exact nar_c (by decide) (by decide)) dX1_signHere_40 rfl ?_
        exact ⟨congrArg (fun e => some (vi e)) (by unfold tCh; first | rw [if_pos (by omega)] | rw [if_neg (by omega)]), rfl, rfl⟩

theorem tDg_dec {T : Nat → Int} {n p : Nat} (h : tDg T n p) : 0 ≤ tCh T n p - 48 ∧ tCh T n p - 48 ≤ 9 := by have h3 := h.1; have h4 := h.2; omega
def tDv (T : Nat → Int) (n p : Nat) : Int := if 48 ≤ tCh T n p ∧ tCh T n p ≤ 57 then tCh T n p - 48 else -1
theorem tDv_y {T : Nat → Int} {n p : Nat} (h : tDg T n p) : tDv T n p = tCh T n p - 48 := if_pos h
theorem tDv_n {T : Nat → Int} {n p : Nat} (h : ¬ tDg T n p) : tDv T n p = -1 := if_neg h
set_option maxRecDepth 100000 in
set_option maxHeartbeats 4000000 in
theorem c_X1_digitHere {z : Nat} (D : xD) (r : xR) (hr : r 73 0 = some 74) (n p : Nat) (hT : tOk (D 74) n) (h1 : D 73 1 = (n : Int)) (h2 : D 73 2 = (p : Int)) (hp : p ≤ 80) : MX 1 mX1_digitHere [.ref 73] (356, z) D r (356, z) (xP (vi (tDv (D 74) n p)) D r) := by
  refine MX.of (by decide +kernel) [some (.ref 73), none] rfl (Nat.le_of_ble_eq_true rfl) ?_
  intro γ hX hRX
  refine v_aload_n (q := 1) hX dX1_digitHere_0 rfl rfl rfl ?_
  refine w_callV (q := 4) hX (c_X1_signHere _ _ hr n p hT h1 h2 hp) rfl kV_X1_signHere rfl (by decide) lk_X1_34 (by decide) rfl oPad (Nat.le_of_ble_eq_true rfl) dX1_digitHere_1 rfl ?_
  have hc := tCh_r (p := p) hT
  refine v_istore_n (q := 5) hX dX1_digitHere_4 rfl (Nat.le_of_ble_eq_true rfl) (Nat.le_of_ble_eq_true rfl) rfl ?_
  dsimp only [xs1, xs2, xclr]
  refine v_iload_n (q := 6) hX dX1_digitHere_5 rfl rfl rfl ?_
  refine v_bipush (q := 8) hX (by decide) dX1_digitHere_6 rfl ?_
  refine v_icmp_lt (q := 11) (tgt := 24) hX ⟨by omega, by omega⟩ (by decide) dX1_digitHere_8 (by decide) rfl (fun h8 => ?_) (fun h8 => ?_)
  · refine v_iconst (q := 25) hX dX1_digitHere_24 rfl ?_
    refine v_ireturn hX hRX rfl (rfl) dX1_digitHere_25 rfl ?_
    exact ⟨congrArg (fun e => some (vi e)) (by unfold tDv; first | rw [if_pos (by omega)] | rw [if_neg (by omega)]), rfl, rfl⟩
  · refine v_iload_n (q := 12) hX dX1_digitHere_11 rfl rfl rfl ?_
    refine v_bipush (q := 14) hX (by decide) dX1_digitHere_12 rfl ?_
    refine v_icmp_gt (q := 17) (tgt := 24) hX ⟨by omega, by omega⟩ (by decide) dX1_digitHere_14 (by decide) rfl (fun h14 => ?_) (fun h14 => ?_)
    · refine v_iconst (q := 25) hX dX1_digitHere_24 rfl ?_
      refine v_ireturn hX hRX rfl (rfl) dX1_digitHere_25 rfl ?_
      exact ⟨congrArg (fun e => some (vi e)) (by unfold tDv; first | rw [if_pos (by omega)] | rw [if_neg (by omega)]), rfl, rfl⟩
    · refine v_iload_n (q := 18) hX dX1_digitHere_17 rfl rfl rfl ?_
      refine v_bipush (q := 20) hX (by decide) dX1_digitHere_18 rfl ?_
      refine v_isub (q := 21) hX dX1_digitHere_20 rfl ?_
      refine v_goto (tgt := 25) hX dX1_digitHere_21 (by decide) ?_
      refine v_ireturn hX hRX rfl (rfl) dX1_digitHere_25 rfl ?_
      exact ⟨congrArg (fun e => some (vi e)) (by unfold tDv; first | rw [if_pos (by omega)] | rw [if_neg (by omega)]), rfl, rfl⟩

/-- the pad's own cell with some of its numbers new -/
def pdM (D : xD) (F : Nat → Int) : xD := xw D 73 F
theorem xu_pd (D : xD) (j : Nat) (e : Int) : xu D 73 j e = xw D 73 (fu (D 73) j e) := xu_xw _ _ _ _
set_option maxRecDepth 100000 in
set_option maxHeartbeats 4000000 in
theorem c_X1_readSign {z : Nat} (D : xD) (r : xR) (hr : r 73 0 = some 74) (n p : Nat) (hT : tOk (D 74) n) (h1 : D 73 1 = (n : Int)) (h2 : D 73 2 = (p : Int)) (hp : p ≤ 80) (s : Int) (hs0 : 0 ≤ s ∧ s ≤ 127) (hs : tCh (D 74) n p = s) : MX 1 mX1_readSign [.ref 73, vi s] (356, z) D r (356, z) (xEs (vi 1) (fun D' => D' = xw D 73 (fu (D 73) 2 ((p : Int) + 1))) r) := by
  refine MX.of (by decide +kernel) [some (.ref 73), some (vi s)] rfl (Nat.le_of_ble_eq_true rfl) ?_
  intro γ hX hRX
  refine v_aload_n (q := 1) hX dX1_readSign_0 rfl rfl rfl ?_
  refine w_callV (q := 4) hX (c_X1_signHere _ _ hr n p hT h1 h2 hp) rfl kV_X1_signHere rfl (by decide) lk_X1_34 (by decide) rfl oPad (Nat.le_of_ble_eq_true rfl) dX1_readSign_1 rfl ?_
  have hc := tCh_r (p := p) hT
  refine v_iload_n (q := 5) hX dX1_readSign_4 rfl rfl rfl ?_
  refine v_icmp_eq (q := 8) (tgt := 10) hX ⟨by omega, by omega⟩ ⟨by omega, by omega⟩ dX1_readSign_5 (by decide) rfl (fun h5 => ?_) (fun h5 => ?_)
  · refine v_aload_n (q := 11) hX dX1_readSign_10 rfl rfl rfl ?_
    refine v_dup (q := 12) hX rfl dX1_readSign_11 rfl ?_
    refine w_getI (q := 15) hX fl_X1_31 rfl oPad dX1_readSign_12 rfl ?_
    rw [h2]
    refine v_iconst (q := 16) hX dX1_readSign_15 rfl ?_
    refine v_iadd (q := 17) hX dX1_readSign_16 rfl ?_
    refine w_putI (q := 20) hX fl_X1_31 rfl oPad dX1_readSign_17 rfl ?_
    rw [xu_xw]
    refine v_iconst (q := 21) hX dX1_readSign_20 rfl ?_
    refine v_ireturn hX hRX rfl (rfl) dX1_readSign_21 rfl ?_
    exact ⟨rfl, rfl, rfl⟩
  · exact absurd hs h5

set_option maxRecDepth 100000 in
set_option maxHeartbeats 4000000 in
theorem c_X1_readSign0 {z : Nat} (D : xD) (r : xR) (hr : r 73 0 = some 74) (n p : Nat) (hT : tOk (D 74) n) (h1 : D 73 1 = (n : Int)) (h2 : D 73 2 = (p : Int)) (hp : p ≤ 80) (s : Int) (hs0 : 0 ≤ s ∧ s ≤ 127) (hs : tCh (D 74) n p ≠ s) : MX 1 mX1_readSign [.ref 73, vi s] (356, z) D r (356, z) (xP (vi 0) D r) := by
  refine MX.of (by decide +kernel) [some (.ref 73), some (vi s)] rfl (Nat.le_of_ble_eq_true rfl) ?_
  intro γ hX hRX
  refine v_aload_n (q := 1) hX dX1_readSign_0 rfl rfl rfl ?_
  refine w_callV (q := 4) hX (c_X1_signHere _ _ hr n p hT h1 h2 hp) rfl kV_X1_signHere rfl (by decide) lk_X1_34 (by decide) rfl oPad (Nat.le_of_ble_eq_true rfl) dX1_readSign_1 rfl ?_
  have hc := tCh_r (p := p) hT
  refine v_iload_n (q := 5) hX dX1_readSign_4 rfl rfl rfl ?_
  refine v_icmp_eq (q := 8) (tgt := 10) hX ⟨by omega, by omega⟩ ⟨by omega, by omega⟩ dX1_readSign_5 (by decide) rfl (fun h5 => ?_) (fun h5 => ?_)
  · exact absurd h5 hs
  · refine v_iconst (q := 9) hX dX1_readSign_8 rfl ?_
    refine v_ireturn hX hRX rfl (rfl) dX1_readSign_9 rfl ?_
    exact ⟨rfl, rfl, rfl⟩

set_option maxRecDepth 100000 in
set_option maxHeartbeats 4000000 in
theorem c_X1_readProduct {z : Nat} (D : xD) (r : xR) (hr : r 73 0 = some 74) (n p : Nat) (hT : tOk (D 74) n) (h1 : D 73 1 = (n : Int)) (h2 : D 73 2 = (p : Int)) (hp : p ≤ 80) (hd : tDg (D 74) n p) : MX 2 mX1_readProduct [.ref 73] (356, z) D r (356, z) (xEs (vi 1) (fun D' => D' = xw D 73 (fu (fu (D 73) 4 (tCh (D 74) n p - 48)) 2 ((p : Int) + 1))) r) := by
  refine MX.of (by decide +kernel) [some (.ref 73)] rfl (Nat.le_of_ble_eq_true rfl) ?_
  intro γ hX hRX
  refine v_aload_n (q := 1) hX dX1_readProduct_0 rfl rfl rfl ?_
  refine v_aload_n (q := 2) hX dX1_readProduct_1 rfl rfl rfl ?_
  refine w_callV (q := 5) hX (c_X1_digitHere _ _ hr n p hT h1 h2 hp) rfl kV_X1_digitHere rfl (by decide) lk_X1_56 (by decide) rfl oPad (Nat.le_of_ble_eq_true rfl) dX1_readProduct_2 rfl ?_
  rw [tDv_y hd]
  have hc := tDg_dec hd
  refine w_putI (q := 8) hX fl_X1_60 rfl oPad dX1_readProduct_5 rfl ?_
  refine v_aload_n (q := 9) hX dX1_readProduct_8 rfl rfl rfl ?_
  refine w_getI (q := 12) hX fl_X1_60 rfl oPad dX1_readProduct_9 rfl ?_
  rw [xu_at]
  refine v_if_ge (q := 15) (tgt := 17) hX ⟨by omega, by omega⟩ dX1_readProduct_12 (by decide) rfl (fun h12 => ?_) (fun h12 => ?_)
  · refine v_aload_n (q := 18) hX dX1_readProduct_17 rfl rfl rfl ?_
    refine v_dup (q := 19) hX rfl dX1_readProduct_18 rfl ?_
    refine w_getI (q := 22) hX fl_X1_31 rfl oPad dX1_readProduct_19 rfl ?_
    rw [xu_ne _ _ _ _ (Or.inr (by decide)), h2]
    refine v_iconst (q := 23) hX dX1_readProduct_22 rfl ?_
    refine v_iadd (q := 24) hX dX1_readProduct_23 rfl ?_
    refine w_putI (q := 27) hX fl_X1_31 rfl oPad dX1_readProduct_24 rfl ?_
    rw [xu_pd D, xu_xw']
    refine v_iconst (q := 28) hX dX1_readProduct_27 rfl ?_
    refine v_ireturn hX hRX rfl (rfl) dX1_readProduct_28 rfl ?_
    exact ⟨rfl, rfl, rfl⟩
  · exact absurd h12 (by omega)

set_option maxRecDepth 100000 in
set_option maxHeartbeats 4000000 in
theorem c_X1_readProduct0 {z : Nat} (D : xD) (r : xR) (hr : r 73 0 = some 74) (n p : Nat) (hT : tOk (D 74) n) (h1 : D 73 1 = (n : Int)) (h2 : D 73 2 = (p : Int)) (hp : p ≤ 80) (hd : ¬ tDg (D 74) n p) : MX 2 mX1_readProduct [.ref 73] (356, z) D r (356, z) (xEs (vi 0) (fun D' => D' = xw D 73 (fu (D 73) 4 (-1))) r) := by
  refine MX.of (by decide +kernel) [some (.ref 73)] rfl (Nat.le_of_ble_eq_true rfl) ?_
  intro γ hX hRX
  refine v_aload_n (q := 1) hX dX1_readProduct_0 rfl rfl rfl ?_
  refine v_aload_n (q := 2) hX dX1_readProduct_1 rfl rfl rfl ?_
  refine w_callV (q := 5) hX (c_X1_digitHere _ _ hr n p hT h1 h2 hp) rfl kV_X1_digitHere rfl (by decide) lk_X1_56 (by decide) rfl oPad (Nat.le_of_ble_eq_true rfl) dX1_readProduct_2 rfl ?_
  rw [tDv_n hd]
  refine w_putI (q := 8) hX fl_X1_60 rfl oPad dX1_readProduct_5 rfl ?_
  refine v_aload_n (q := 9) hX dX1_readProduct_8 rfl rfl rfl ?_
  refine w_getI (q := 12) hX fl_X1_60 rfl oPad dX1_readProduct_9 rfl ?_
  rw [xu_at]
  refine v_if_ge (q := 15) (tgt := 17) hX (by decide) dX1_readProduct_12 (by decide) rfl (fun h12 => ?_) (fun h12 => ?_)
  · exact absurd h12 (by decide)
  · refine v_iconst (q := 16) hX dX1_readProduct_15 rfl ?_
    refine v_ireturn hX hRX rfl (rfl) dX1_readProduct_16 rfl ?_
    exact ⟨rfl, rfl, xu_pd _ _ _⟩

