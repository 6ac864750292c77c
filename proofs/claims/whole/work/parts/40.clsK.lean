/-! ===== the class: a number is read ===== -/
theorem tNumL_f (T : Nat → Int) (n : Nat) : ∀ m p v, (tNumL T n m p v).1 = false → tDg T n (tNumL T n m p v).2.2 := by
  intro m
  induction m with
  | zero => intro p v h; cases h
  | succ m ih =>
    intro p v h
    unfold tNumL at h ⊢
    split at h
    · rename_i h1
      rw [if_pos h1]
      split at h
      · rename_i h2; rw [if_pos h2]; exact tDg_iff.2 h1.2
      · rename_i h2; rw [if_neg h2]; exact ih _ _ h
    · cases h
theorem tNum_f (T : Nat → Int) (n p : Nat) (hd : tDg T n p) (h : (tNum T n p).1 = false) : tDg T n (tNum T n p).2.2 := by
  unfold tNum at h ⊢
  rw [if_pos (tDg_iff.1 hd)] at h ⊢
  exact tNumL_f _ _ _ _ _ h
/-- the number so far, by its digits -/
def kDg (k : Nat) (v : Int) : Prop := (k = 1 ∧ 1 ≤ v ∧ v ≤ 9) ∨ (k = 2 ∧ 10 ≤ v ∧ v ≤ 99) ∨ (k = 3 ∧ 100 ≤ v ∧ v ≤ 999) ∨ (k = 4 ∧ 1000 ≤ v ∧ v ≤ 9999)
theorem kDg_end {T : Nat → Int} {n p k : Nat} {v : Int} (hk : kDg k v) (h : k = 4 ∨ ¬ tDg T n p) : (tNumL T n (n - p) p v).2 = (v, p) := by
  cases hm : n - p with
  | zero => rfl
  | succ m =>
    unfold tNumL
    by_cases h1 : 0 < v ∧ (p < n ∧ 48 ≤ T p ∧ T p ≤ 57)
    · rw [if_pos h1]
      rcases h with h | h
      · subst h
        rw [if_pos (by unfold kDg at hk; omega)]
      · exact absurd (tDg_iff.2 h1.2) h
    · rw [if_neg h1]
theorem kDg_go {T : Nat → Int} {n p k : Nat} {v : Int} (hk : kDg k v) (h4 : k < 4) (hd : tDg T n p) : kDg (k + 1) (v * 10 + (tCh T n p - 48)) ∧ tNumL T n (n - p) p v = tNumL T n (n - (p + 1)) (p + 1) (v * 10 + (tCh T n p - 48)) := by
  have h1 := tDg_iff.1 hd
  have hc : tCh T n p = T p := if_pos h1.1
  rw [hc]
  refine ⟨by unfold kDg at hk ⊢; omega, ?_⟩
  rw [show n - p = (n - (p + 1)) + 1 by omega]
  show (if 0 < v ∧ (p < n ∧ 48 ≤ T p ∧ T p ≤ 57) then (if 9999 < 10 * v + T p - 48 then (false, v, p) else tNumL T n (n - (p + 1)) (p + 1) (10 * v + T p - 48)) else (true, v, p)) = _
  rw [if_pos ⟨by unfold kDg at hk; omega, h1⟩, if_neg (by unfold kDg at hk; omega), show 10 * v + T p - 48 = v * 10 + (T p - 48) by omega]
/-- the reader behind a number -/
def rdN (D D' : xD) (P : Nat) (v : Int) : Prop := ∃ F', D' = xw D 73 F' ∧ (∀ j, j ≠ 2 → j ≠ 6 → F' j = D 73 j) ∧ F' 2 = (P : Int) ∧ F' 6 = v
theorem rdN.step {D E : xD} {P Q : Nat} {v u : Int} (h : rdN D E P v) : rdN D (xu (xu E 73 6 u) 73 2 (Q : Int)) Q u := by
  obtain ⟨F, rfl, h1, h2, h3⟩ := h
  refine ⟨fu (fu F 6 u) 2 (Q : Int), by rw [xu_xw', xu_xw'], fun j a b => by rw [fu_ne _ _ _ a, fu_ne _ _ _ b]; exact h1 j a b, fu_at _ _ _, by rw [fu_ne _ _ _ (by decide), fu_at]⟩
theorem rdN.at {D E : xD} {P : Nat} {v : Int} (h : rdN D E P v) : E 74 = D 74 ∧ E 73 1 = D 73 1 ∧ E 73 2 = (P : Int) ∧ E 73 6 = v := by
  obtain ⟨F, rfl, h1, h2, h3⟩ := h
  exact ⟨xw_ne _ _ _ (by decide), by rw [xw_at]; exact h1 1 (by decide) (by decide), by rw [xw_at]; exact h2, by rw [xw_at]; exact h3⟩
set_option maxRecDepth 100000 in
set_option maxHeartbeats 4000000 in
theorem c_X1_readNumber {z : Nat} (D : xD) (r : xR) (hr : r 73 0 = some 74) (n p : Nat) (hT : tOk (D 74) n) (h1 : D 73 1 = (n : Int)) (h2 : D 73 2 = (p : Int)) (hp : p ≤ 80) (hd : tDg (D 74) n p) : MX 2 mX1_readNumber [.ref 73] (356, z) D r (356, z) (xEs (vi 1) (fun D' => rdN D D' (tNum (D 74) n p).2.2 (tNum (D 74) n p).2.1) r) := by
  refine MX.of (by decide +kernel) [some (.ref 73), none] rfl (Nat.le_of_ble_eq_true rfl) ?_
  intro γ hX hRX
  have L : ∀ k, k ≤ 4 → ∀ (p' : Nat) (v : Int) (E : xD), p' ≤ 80 → rdN D E p' v → (tNumL (D 74) n (n - p') p' v).2 = (tNum (D 74) n p).2 → kDg k v → xV γ 16 [some (.ref 73), some (vi (k : Nat))] [] (356, z) E r := by
    refine xup 4 (fun k hk4 ih p' v E hp8 hE hX2 hk => ?_)
    obtain ⟨e1, e2, e3, e4⟩ := hE.at
    have hn := hT.1
    have hv : 1 ≤ v ∧ v ≤ 9999 := by unfold kDg at hk; omega
    by_cases hk5 : k < 4
    · by_cases hd : tDg (D 74) n p'
      · have hc := tDg_dec hd
        have hdv : tDv (E 74) n p' = tCh (D 74) n p' - 48 := by rw [e1]; exact tDv_y hd
        refine v_iload_n (q := 17) hX dX1_readNumber_16 rfl rfl rfl ?_
        refine v_iconst (q := 18) hX dX1_readNumber_17 rfl ?_
        refine v_icmp_ge (q := 21) (tgt := 70) hX ⟨by omega, by omega⟩ (by decide) dX1_readNumber_18 (by decide) rfl (fun h18 => ?_) (fun h18 => ?_)
        · exact absurd h18 (by omega)
        · refine v_aload_n (q := 22) hX dX1_readNumber_21 rfl rfl rfl ?_
          refine w_callV (q := 25) hX (c_X1_digitHere E _ hr n p' (by rw [e1]; exact hT) (e2.trans h1) e3 (by omega)) rfl kV_X1_digitHere rfl (by decide) lk_X1_56 (by decide) rfl oPad (Nat.le_of_ble_eq_true rfl) dX1_readNumber_22 rfl ?_
          rw [hdv]
          refine v_if_lt (q := 28) (tgt := 70) hX ⟨by omega, by omega⟩ dX1_readNumber_25 (by decide) rfl (fun h25 => ?_) (fun h25 => ?_)
          · exact absurd h25 (by omega)
          · refine v_aload_n (q := 29) hX dX1_readNumber_28 rfl rfl rfl ?_
            refine v_aload_n (q := 30) hX dX1_readNumber_29 rfl rfl rfl ?_
            refine w_getI (q := 33) hX fl_X1_63 rfl oPad dX1_readNumber_30 rfl ?_
            rw [e4]
            refine v_bipush (q := 35) hX (by decide) dX1_readNumber_33 rfl ?_
            refine v_imul (q := 36) hX dX1_readNumber_35 rfl ?_
            refine v_aload_n (q := 37) hX dX1_readNumber_36 rfl rfl rfl ?_
            refine w_callV (q := 40) hX (c_X1_digitHere E _ hr n p' (by rw [e1]; exact hT) (e2.trans h1) e3 (by omega)) rfl kV_X1_digitHere rfl (by decide) lk_X1_56 (by decide) rfl oPad (Nat.le_of_ble_eq_true rfl) dX1_readNumber_37 rfl ?_
            rw [hdv]
            refine v_iadd (q := 41) hX dX1_readNumber_40 rfl ?_
            refine w_putI (q := 44) hX fl_X1_63 rfl oPad dX1_readNumber_41 rfl ?_
            refine v_aload_n (q := 45) hX dX1_readNumber_44 rfl rfl rfl ?_
            refine v_dup (q := 46) hX rfl dX1_readNumber_45 rfl ?_
            refine w_getI (q := 49) hX fl_X1_31 rfl oPad dX1_readNumber_46 rfl ?_
            rw [xu_ne _ _ _ _ (Or.inr (by decide)), e3]
            refine v_iconst (q := 50) hX dX1_readNumber_49 rfl ?_
            refine v_iadd (q := 51) hX dX1_readNumber_50 rfl ?_
            refine w_putI (q := 54) hX fl_X1_31 rfl oPad dX1_readNumber_51 rfl ?_
            rw [show (p' : Int) + 1 = ((p' + 1 : Nat) : Int) by omega]
            refine v_aload_n (q := 55) hX dX1_readNumber_54 rfl rfl rfl ?_
            refine w_getI (q := 58) hX fl_X1_63 rfl oPad dX1_readNumber_55 rfl ?_
            rw [xu_ne _ _ _ _ (Or.inr (by decide)), xu_at]
            refine v_if_ne (q := 61) (tgt := 64) hX ⟨by omega, by omega⟩ dX1_readNumber_58 (by decide) rfl (fun h58 => ?_) (fun h58 => ?_)
            · refine v_iinc (q := 67) hX dX1_readNumber_64 rfl (Nat.le_of_ble_eq_true rfl) (Nat.le_of_ble_eq_true rfl) rfl ?_
              dsimp only [xs1, xs2, xclr]
              refine v_goto (tgt := 16) hX dX1_readNumber_67 (by decide) ?_
              have g := kDg_go hk (by omega) hd
              exact xVw (by repeat' first | exact trivial | refine And.intro rfl ?_) (ih (by omega) (p' + 1) _ _ (by have := (tDg_iff.1 hd).1; omega) (hE.step (Q := p' + 1)) (by rw [← g.2]; exact hX2) g.1)
            · exact absurd h58 (by omega)
      · have hdv : tDv (E 74) n p' = -1 := by rw [e1]; exact tDv_n hd
        refine v_iload_n (q := 17) hX dX1_readNumber_16 rfl rfl rfl ?_
        refine v_iconst (q := 18) hX dX1_readNumber_17 rfl ?_
        refine v_icmp_ge (q := 21) (tgt := 70) hX ⟨by omega, by omega⟩ (by decide) dX1_readNumber_18 (by decide) rfl (fun h18 => ?_) (fun h18 => ?_)
        · exact absurd h18 (by omega)
        · refine v_aload_n (q := 22) hX dX1_readNumber_21 rfl rfl rfl ?_
          refine w_callV (q := 25) hX (c_X1_digitHere E _ hr n p' (by rw [e1]; exact hT) (e2.trans h1) e3 (by omega)) rfl kV_X1_digitHere rfl (by decide) lk_X1_56 (by decide) rfl oPad (Nat.le_of_ble_eq_true rfl) dX1_readNumber_22 rfl ?_
          rw [hdv]
          refine v_if_lt (q := 28) (tgt := 70) hX ⟨by omega, by omega⟩ dX1_readNumber_25 (by decide) rfl (fun h25 => ?_) (fun h25 => ?_)
          · refine v_iconst (q := 71) hX dX1_readNumber_70 rfl ?_
            refine v_ireturn hX hRX rfl (rfl) dX1_readNumber_71 rfl ?_
            refine ⟨rfl, rfl, ?_⟩
            rw [← hX2, kDg_end hk (Or.inr hd)]; exact hE
          · exact absurd h25 (by omega)
    · refine v_iload_n (q := 17) hX dX1_readNumber_16 rfl rfl rfl ?_
      refine v_iconst (q := 18) hX dX1_readNumber_17 rfl ?_
      refine v_icmp_ge (q := 21) (tgt := 70) hX ⟨by omega, by omega⟩ (by decide) dX1_readNumber_18 (by decide) rfl (fun h18 => ?_) (fun h18 => ?_)
      · refine v_iconst (q := 71) hX dX1_readNumber_70 rfl ?_
        refine v_ireturn hX hRX rfl (rfl) dX1_readNumber_71 rfl ?_
        refine ⟨rfl, rfl, ?_⟩
        rw [← hX2, kDg_end hk (Or.inl (by omega))]; exact hE
      · exact absurd h18 (by omega)
  have hc := tDg_dec hd
  have hi := tDg_iff.1 hd
  have hn := hT.1
  have hdv : tDv (D 74) n p = tCh (D 74) n p - 48 := tDv_y hd
  have htn : tNum (D 74) n p = tNumL (D 74) n (n - (p + 1)) (p + 1) (0 * 10 + (tCh (D 74) n p - 48)) := by
    rw [tNum, if_pos hi, show tCh (D 74) n p = D 74 p from if_pos hi.1, show (0 : Int) * 10 + (D 74 p - 48) = D 74 p - 48 by omega]
  refine v_aload_n (q := 1) hX dX1_readNumber_0 rfl rfl rfl ?_
  refine w_callV (q := 4) hX (c_X1_digitHere _ _ hr n p hT h1 h2 hp) rfl kV_X1_digitHere rfl (by decide) lk_X1_56 (by decide) rfl oPad (Nat.le_of_ble_eq_true rfl) dX1_readNumber_1 rfl ?_
  rw [hdv]
  refine v_if_ge (q := 7) (tgt := 9) hX ⟨by omega, by omega⟩ dX1_readNumber_4 (by decide) rfl (fun h4 => ?_) (fun h4 => ?_)
  · refine v_aload_n (q := 10) hX dX1_readNumber_9 rfl rfl rfl ?_
    refine v_iconst (q := 11) hX dX1_readNumber_10 rfl ?_
    refine w_putI (q := 14) hX fl_X1_63 rfl oPad dX1_readNumber_11 rfl ?_
    refine v_iconst (q := 15) hX dX1_readNumber_14 rfl ?_
    refine v_istore_n (q := 16) hX dX1_readNumber_15 rfl (Nat.le_of_ble_eq_true rfl) (Nat.le_of_ble_eq_true rfl) rfl ?_
    dsimp only [xs1, xs2, xclr]
    refine v_iload_n (q := 17) hX dX1_readNumber_16 rfl rfl rfl ?_
    refine v_iconst (q := 18) hX dX1_readNumber_17 rfl ?_
    refine v_icmp_ge (q := 21) (tgt := 70) hX ⟨by omega, by omega⟩ ⟨by omega, by omega⟩ dX1_readNumber_18 (by decide) rfl (fun h18 => ?_) (fun h18 => ?_)
    · exact absurd h18 (by decide)
    · refine v_aload_n (q := 22) hX dX1_readNumber_21 rfl rfl rfl ?_
      refine w_callV (q := 25) hX (c_X1_digitHere (xu D 73 6 0) _ hr n p hT h1 h2 hp) rfl kV_X1_digitHere rfl (by decide) lk_X1_56 (by decide) rfl oPad (Nat.le_of_ble_eq_true rfl) dX1_readNumber_22 rfl ?_
      rw [show tDv (xu D 73 6 0 74) n p = tCh (D 74) n p - 48 from hdv]
      refine v_if_lt (q := 28) (tgt := 70) hX ⟨by omega, by omega⟩ dX1_readNumber_25 (by decide) rfl (fun h25 => ?_) (fun h25 => ?_)
      · exact absurd h25 (by omega)
      · refine v_aload_n (q := 29) hX dX1_readNumber_28 rfl rfl rfl ?_
        refine v_aload_n (q := 30) hX dX1_readNumber_29 rfl rfl rfl ?_
        refine w_getI (q := 33) hX fl_X1_63 rfl oPad dX1_readNumber_30 rfl ?_
        rw [xu_at]
        refine v_bipush (q := 35) hX (by decide) dX1_readNumber_33 rfl ?_
        refine v_imul (q := 36) hX dX1_readNumber_35 rfl ?_
        refine v_aload_n (q := 37) hX dX1_readNumber_36 rfl rfl rfl ?_
        refine w_callV (q := 40) hX (c_X1_digitHere (xu D 73 6 0) _ hr n p hT h1 h2 hp) rfl kV_X1_digitHere rfl (by decide) lk_X1_56 (by decide) rfl oPad (Nat.le_of_ble_eq_true rfl) dX1_readNumber_37 rfl ?_
        rw [show tDv (xu D 73 6 0 74) n p = tCh (D 74) n p - 48 from hdv]
        refine v_iadd (q := 41) hX dX1_readNumber_40 rfl ?_
        refine w_putI (q := 44) hX fl_X1_63 rfl oPad dX1_readNumber_41 rfl ?_
        refine v_aload_n (q := 45) hX dX1_readNumber_44 rfl rfl rfl ?_
        refine v_dup (q := 46) hX rfl dX1_readNumber_45 rfl ?_
        refine w_getI (q := 49) hX fl_X1_31 rfl oPad dX1_readNumber_46 rfl ?_
        rw [show ∀ x, xu (xu D 73 6 0) 73 6 x 73 2 = (p : Int) from fun x => h2]
        refine v_iconst (q := 50) hX dX1_readNumber_49 rfl ?_
        refine v_iadd (q := 51) hX dX1_readNumber_50 rfl ?_
        refine w_putI (q := 54) hX fl_X1_31 rfl oPad dX1_readNumber_51 rfl ?_
        rw [show (p : Int) + 1 = ((p + 1 : Nat) : Int) by omega]
        refine v_aload_n (q := 55) hX dX1_readNumber_54 rfl rfl rfl ?_
        refine w_getI (q := 58) hX fl_X1_63 rfl oPad dX1_readNumber_55 rfl ?_
        rw [xu_ne _ _ _ _ (Or.inr (by decide)), xu_at]
        refine v_if_ne (q := 61) (tgt := 64) hX ⟨by omega, by omega⟩ dX1_readNumber_58 (by decide) rfl (fun h58 => ?_) (fun h58 => ?_)
        · refine v_iinc (q := 67) hX dX1_readNumber_64 rfl (Nat.le_of_ble_eq_true rfl) (Nat.le_of_ble_eq_true rfl) rfl ?_
          dsimp only [xs1, xs2, xclr]
          refine v_goto (tgt := 16) hX dX1_readNumber_67 (by decide) ?_
          exact xVw (by repeat' first | exact trivial | refine And.intro rfl ?_) (L 1 (by decide) (p + 1) _ _ (by omega) (show rdN D (xu (xu (xu D 73 6 0) 73 6 (0 * 10 + (tCh (D 74) n p - 48))) 73 2 ((p + 1 : Nat) : Int)) (p + 1) (0 * 10 + (tCh (D 74) n p - 48)) from (rdN.step (P := p) (v := 0) ⟨fu (D 73) 6 0, xu_pd _ _ _, fun j _ b => fu_ne _ _ _ b, (fu_ne _ _ _ (by decide)).trans h2, fu_at _ _ _⟩)) (by rw [htn]) (Or.inl ⟨rfl, by omega, by omega⟩))
        · refine v_goto (tgt := 70) hX dX1_readNumber_61 (by decide) ?_
          refine v_iconst (q := 71) hX dX1_readNumber_70 rfl ?_
          refine v_ireturn hX hRX rfl (rfl) dX1_readNumber_71 rfl ?_
          refine ⟨rfl, rfl, ?_⟩
          have hz : (tNum (D 74) n p).2 = (0 * 10 + (tCh (D 74) n p - 48), p + 1) := by rw [htn, show 0 * 10 + (tCh (D 74) n p - 48) = 0 by omega]; cases n - (p + 1) <;> rfl
          rw [hz]
          exact (show rdN D (xu (xu (xu D 73 6 0) 73 6 (0 * 10 + (tCh (D 74) n p - 48))) 73 2 ((p + 1 : Nat) : Int)) (p + 1) (0 * 10 + (tCh (D 74) n p - 48)) from (rdN.step (P := p) (v := 0) ⟨fu (D 73) 6 0, xu_pd _ _ _, fun j _ b => fu_ne _ _ _ b, (fu_ne _ _ _ (by decide)).trans h2, fu_at _ _ _⟩))
  · exact absurd h4 (by omega)

set_option maxRecDepth 100000 in
set_option maxHeartbeats 4000000 in
theorem c_X1_readNumber0 {z : Nat} (D : xD) (r : xR) (hr : r 73 0 = some 74) (n p : Nat) (hT : tOk (D 74) n) (h1 : D 73 1 = (n : Int)) (h2 : D 73 2 = (p : Int)) (hp : p ≤ 80) (hd : ¬ tDg (D 74) n p) : MX 2 mX1_readNumber [.ref 73] (356, z) D r (356, z) (xP (vi 0) D r) := by
  refine MX.of (by decide +kernel) [some (.ref 73), none] rfl (Nat.le_of_ble_eq_true rfl) ?_
  intro γ hX hRX
  refine v_aload_n (q := 1) hX dX1_readNumber_0 rfl rfl rfl ?_
  refine w_callV (q := 4) hX (c_X1_digitHere _ _ hr n p hT h1 h2 hp) rfl kV_X1_digitHere rfl (by decide) lk_X1_56 (by decide) rfl oPad (Nat.le_of_ble_eq_true rfl) dX1_readNumber_1 rfl ?_
  rw [tDv_n hd]
  refine v_if_ge (q := 7) (tgt := 9) hX (by decide) dX1_readNumber_4 (by decide) rfl (fun h4 => ?_) (fun h4 => ?_)
  · exact absurd h4 (by decide)
  · refine v_iconst (q := 8) hX dX1_readNumber_7 rfl ?_
    refine v_ireturn hX hRX rfl (rfl) dX1_readNumber_8 rfl ?_
    exact ⟨rfl, rfl, rfl⟩

