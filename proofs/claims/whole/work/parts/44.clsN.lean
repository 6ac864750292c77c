/-! ===== the class: an act is read ===== -/
theorem tSig_y {T : Nat → Int} {n p : Nat} {c : Int} (hc : c ≠ 0) (h : tCh T n p = c) : tSig T n p c = tNum T n (p + 1) := by
  have hp : p < n := by
    by_cases hp : p < n
    · exact hp
    · unfold tCh at h; rw [if_neg hp] at h; exact absurd h.symm hc
  unfold tCh at h
  rw [if_pos hp] at h
  unfold tSig
  rw [if_pos ⟨hp, by omega, by omega⟩]
theorem tSig_n {T : Nat → Int} {n p : Nat} {c : Int} (h : tCh T n p ≠ c) : tSig T n p c = (false, 0, p) := by
  unfold tSig
  refine if_neg fun h1 => h ?_
  unfold tCh
  rw [if_pos h1.1]; omega
theorem tNum_n {T : Nat → Int} {n p : Nat} (h : ¬ tDg T n p) : tNum T n p = (false, 0, p) := by
  unfold tNum
  exact if_neg fun h1 => h (tDg_iff.2 h1)
theorem tNums_n {T : Nat → Int} {n p : Nat} {w : Bool} (h : ¬ tDg T n p) : tNums T n p w = (false, (0, 0, 0), p) := by
  unfold tNums
  exact if_neg fun h1 => h (tDg_iff.2 h1)
theorem tDg_ne {T : Nat → Int} {n p : Nat} (h : tDg T n p) {c : Int} (hc : c < 48 ∨ 57 < c) : tCh T n p ≠ c := fun e => by
  have h1 := h.1; have h2 := h.2; omega
theorem tNum_t {T : Nat → Int} {n p : Nat} (hd : tDg T n p) {c : Int} (hc : c < 48 ∨ 57 < c) (h : tCh T n (tNum T n p).2.2 = c) : (tNum T n p).1 = true := by
  cases hb : (tNum T n p).1 with
  | true => rfl
  | false => exact absurd h (tDg_ne (tNum_f T n p hd hb) hc)
theorem tAct_x {T : Nat → Int} {n p : Nat} (h1 : tCh T n p ≠ 102) (h2 : tCh T n p ≠ 108) (h3 : tCh T n p ≠ 97) (h4 : tCh T n p ≠ 110) (h5 : tCh T n p ≠ 112) : (tAct T n p).1 = false ∧ (tAct T n p).2.2 = p := by
  unfold tAct
  rw [if_neg h4, if_neg h5, if_neg (by omega)]
  exact ⟨rfl, rfl⟩
theorem tAct_p {T : Nat → Int} {n p : Nat} (h5 : tCh T n p = 112) : tAct T n p = (true, (tCh T n p, 0, 0, 0), p + 1) := by
  unfold tAct
  rw [if_neg (by omega), if_pos h5, h5]
theorem tAct_n {T : Nat → Int} {n p : Nat} (h : tCh T n p = 110) : tAct T n p = ((tNum T n (p + 1)).1, (tCh T n p, (tNum T n (p + 1)).2.1, 0, 0), (tNum T n (p + 1)).2.2) := by
  unfold tAct
  rw [if_pos h, h]
theorem tAct_n0 {T : Nat → Int} {n p : Nat} (h : tCh T n p = 110) (hd : ¬ tDg T n (p + 1)) : (tAct T n p).1 = false ∧ (tAct T n p).2.2 = p + 1 := by
  rw [tAct_n h, tNum_n hd]; exact ⟨rfl, rfl⟩
theorem tAct_a {T : Nat → Int} {n p : Nat} (h : tCh T n p = 97) : tAct T n p = ((tNums T n (p + 1) false).1, (tCh T n p, (tNums T n (p + 1) false).2.1), (tNums T n (p + 1) false).2.2) := by
  unfold tAct
  rw [if_neg (by omega), if_neg (by omega), if_pos (by omega), show decide (tCh T n p ≠ 97) = false by rw [h]; rfl]
theorem tAct_fl {T : Nat → Int} {n p : Nat} (h : tCh T n p = 102 ∨ tCh T n p = 108) : tAct T n p = ((tNums T n (p + 1) true).1, (tCh T n p, (tNums T n (p + 1) true).2.1), (tNums T n (p + 1) true).2.2) := by
  unfold tAct
  have h9 : decide (tCh T n p ≠ 97) = true := decide_eq_true (by omega)
  rw [if_neg (by omega), if_neg (by omega), if_pos (by omega), h9]
theorem tNums_o {T : Nat → Int} {n p : Nat} (hd : tDg T n p) : tNums T n p false = ((tSig T n (p + 1) 42).1, (tCh T n p - 48, 0, (tSig T n (p + 1) 42).2.1), (tSig T n (p + 1) 42).2.2) := by
  have h1 := tDg_iff.1 hd
  unfold tNums
  rw [if_pos h1, show tCh T n p = T p from if_pos h1.1]; rfl
theorem tNums_w {T : Nat → Int} {n p : Nat} (hd : tDg T n p) (h : (tSig T n (p + 1) 64).1 = true) : tNums T n p true = ((tSig T n (tSig T n (p + 1) 64).2.2 42).1, (tCh T n p - 48, (tSig T n (p + 1) 64).2.1, (tSig T n (tSig T n (p + 1) 64).2.2 42).2.1), (tSig T n (tSig T n (p + 1) 64).2.2 42).2.2) := by
  have h1 := tDg_iff.1 hd
  unfold tNums
  rw [if_pos h1, if_pos rfl, if_pos h, show tCh T n p = T p from if_pos h1.1]
theorem tNums_w0 {T : Nat → Int} {n p : Nat} (hd : tDg T n p) (h : (tSig T n (p + 1) 64).1 = false) : tNums T n p true = (false, (0, 0, 0), (tSig T n (p + 1) 64).2.2) := by
  have h1 := tDg_iff.1 hd
  unfold tNums
  rw [if_pos h1, if_pos rfl, if_neg (by rw [h]; decide)]
theorem tAct_a0 {T : Nat → Int} {n p : Nat} (h : tCh T n p = 97) (hd : ¬ tDg T n (p + 1)) : (tAct T n p).1 = false ∧ (tAct T n p).2.2 = p + 1 := by
  rw [tAct_a h, tNums_n hd]; exact ⟨rfl, rfl⟩
theorem tAct_a1 {T : Nat → Int} {n p : Nat} (h : tCh T n p = 97) (hd : tDg T n (p + 1)) (h2 : tCh T n (p + 1 + 1) ≠ 42) : (tAct T n p).1 = false ∧ (tAct T n p).2.2 = p + 1 + 1 := by
  rw [tAct_a h, tNums_o hd, tSig_n h2]; exact ⟨rfl, rfl⟩
theorem tAct_a2 {T : Nat → Int} {n p : Nat} (h : tCh T n p = 97) (hd : tDg T n (p + 1)) (h2 : tCh T n (p + 1 + 1) = 42) (h3 : ¬ tDg T n (p + 1 + 1 + 1)) : (tAct T n p).1 = false ∧ (tAct T n p).2.2 = p + 1 + 1 + 1 := by
  rw [tAct_a h, tNums_o hd, tSig_y (by decide) h2, tNum_n h3]; exact ⟨rfl, rfl⟩
theorem tAct_a3 {T : Nat → Int} {n p : Nat} (h : tCh T n p = 97) (hd : tDg T n (p + 1)) (h2 : tCh T n (p + 1 + 1) = 42) : tAct T n p = ((tNum T n (p + 1 + 1 + 1)).1, (tCh T n p, tCh T n (p + 1) - 48, 0, (tNum T n (p + 1 + 1 + 1)).2.1), (tNum T n (p + 1 + 1 + 1)).2.2) := by
  rw [tAct_a h, tNums_o hd, tSig_y (by decide) h2]
theorem tAct_f0 {T : Nat → Int} {n p : Nat} (h : tCh T n p = 102 ∨ tCh T n p = 108) (hd : ¬ tDg T n (p + 1)) : (tAct T n p).1 = false ∧ (tAct T n p).2.2 = p + 1 := by
  rw [tAct_fl h, tNums_n hd]; exact ⟨rfl, rfl⟩
theorem tAct_f1 {T : Nat → Int} {n p : Nat} (h : tCh T n p = 102 ∨ tCh T n p = 108) (hd : tDg T n (p + 1)) (h2 : tCh T n (p + 1 + 1) ≠ 64) : (tAct T n p).1 = false ∧ (tAct T n p).2.2 = p + 1 + 1 := by
  rw [tAct_fl h, tNums_w0 hd (by rw [tSig_n h2]), tSig_n h2]; exact ⟨rfl, rfl⟩
theorem tAct_f2 {T : Nat → Int} {n p : Nat} (h : tCh T n p = 102 ∨ tCh T n p = 108) (hd : tDg T n (p + 1)) (h2 : tCh T n (p + 1 + 1) = 64) (h3 : ¬ tDg T n (p + 1 + 1 + 1)) : (tAct T n p).1 = false ∧ (tAct T n p).2.2 = p + 1 + 1 + 1 := by
  have e : tSig T n (p + 1 + 1) 64 = (false, 0, p + 1 + 1 + 1) := by rw [tSig_y (by decide) h2, tNum_n h3]
  rw [tAct_fl h, tNums_w0 hd (by rw [e]), e]; exact ⟨rfl, rfl⟩
theorem tAct_f3 {T : Nat → Int} {n p : Nat} (h : tCh T n p = 102 ∨ tCh T n p = 108) (hd : tDg T n (p + 1)) (h2 : tCh T n (p + 1 + 1) = 64) (h4 : tCh T n (tNum T n (p + 1 + 1 + 1)).2.2 ≠ 42) : (tAct T n p).1 = false ∧ (tAct T n p).2.2 = (tNum T n (p + 1 + 1 + 1)).2.2 := by
  have e : tSig T n (p + 1 + 1) 64 = tNum T n (p + 1 + 1 + 1) := tSig_y (by decide) h2
  cases hb : (tNum T n (p + 1 + 1 + 1)).1 with
  | true => rw [tAct_fl h, tNums_w hd (by rw [e]; exact hb), e, tSig_n h4]; exact ⟨rfl, rfl⟩
  | false => rw [tAct_fl h, tNums_w0 hd (by rw [e]; exact hb), e]; exact ⟨rfl, rfl⟩
theorem tAct_f4 {T : Nat → Int} {n p : Nat} (h : tCh T n p = 102 ∨ tCh T n p = 108) (hd : tDg T n (p + 1)) (h2 : tCh T n (p + 1 + 1) = 64) (h3 : tDg T n (p + 1 + 1 + 1)) (h4 : tCh T n (tNum T n (p + 1 + 1 + 1)).2.2 = 42) (h5 : ¬ tDg T n ((tNum T n (p + 1 + 1 + 1)).2.2 + 1)) : (tAct T n p).1 = false ∧ (tAct T n p).2.2 = (tNum T n (p + 1 + 1 + 1)).2.2 + 1 := by
  have e : tSig T n (p + 1 + 1) 64 = tNum T n (p + 1 + 1 + 1) := tSig_y (by decide) h2
  rw [tAct_fl h, tNums_w hd (by rw [e]; exact tNum_t h3 (by decide) h4), e, tSig_y (by decide) h4, tNum_n h5]; exact ⟨rfl, rfl⟩
theorem tAct_f5 {T : Nat → Int} {n p : Nat} (h : tCh T n p = 102 ∨ tCh T n p = 108) (hd : tDg T n (p + 1)) (h2 : tCh T n (p + 1 + 1) = 64) (h3 : tDg T n (p + 1 + 1 + 1)) (h4 : tCh T n (tNum T n (p + 1 + 1 + 1)).2.2 = 42) : tAct T n p = ((tNum T n ((tNum T n (p + 1 + 1 + 1)).2.2 + 1)).1, (tCh T n p, tCh T n (p + 1) - 48, (tNum T n (p + 1 + 1 + 1)).2.1, (tNum T n ((tNum T n (p + 1 + 1 + 1)).2.2 + 1)).2.1), (tNum T n ((tNum T n (p + 1 + 1 + 1)).2.2 + 1)).2.2) := by
  have e : tSig T n (p + 1 + 1) 64 = tNum T n (p + 1 + 1 + 1) := tSig_y (by decide) h2
  rw [tAct_fl h, tNums_w hd (by rw [e]; exact tNum_t h3 (by decide) h4), e, tSig_y (by decide) h4]
/-- the reader stands at q; nothing but its cell has changed -/
def pS (D E : xD) (n q : Nat) : Prop := (∀ a, a ≠ 73 → E a = D a) ∧ E 73 1 = (n : Int) ∧ E 73 2 = (q : Int)
def rdC (F : Nat → Int) (a : tA) : Prop := F 3 = a.1 ∧ (a.1 = 110 → F 6 = a.2.1) ∧ (a.1 = 102 ∨ a.1 = 97 ∨ a.1 = 108 → F 4 = a.2.1 ∧ F 6 = a.2.2.2) ∧ (a.1 = 102 ∨ a.1 = 108 → F 5 = a.2.2.1)
def rdP (D E : xD) (n p : Nat) : Prop := pS D E n (tAct (D 74) n p).2.2 ∧ ((tAct (D 74) n p).1 = true → rdC (E 73) (tAct (D 74) n p).2.1)
theorem pS.T {D E : xD} {n q : Nat} (h : pS D E n q) : E 74 = D 74 := h.1 74 (by decide)
theorem pS.pu {D E : xD} {n q q' : Nat} (h : pS D E n q) {F : Nat → Int} (h1 : F 1 = (n : Int)) (h2 : F 2 = (q' : Int)) : pS D (xw E 73 F) n q' := ⟨fun a ha => (xw_ne _ _ _ ha).trans (h.1 a ha), by rw [xw_at]; exact h1, by rw [xw_at]; exact h2⟩
theorem pS.sg {D E D' : xD} {n q : Nat} (h : pS D E n q) (hD : D' = xw E 73 (fu (E 73) 2 ((q : Int) + 1))) : pS D D' n (q + 1) ∧ ∀ j, j ≠ 2 → D' 73 j = E 73 j := by
  subst hD
  exact ⟨h.pu ((fu_ne _ _ _ (by decide)).trans h.2.1) ((fu_at _ _ _).trans (by omega)), fun j hj => by rw [xw_at]; exact fu_ne _ _ _ hj⟩
theorem pS.kd {D : xD} {n q : Nat} (h1 : D 73 1 = (n : Int)) (h2 : D 73 2 = (q : Int)) (c : Int) : pS D (xu D 73 3 c) n q := by
  rw [xu_pd]
  exact ⟨fun a ha => xw_ne _ _ _ ha, by rw [xw_at]; exact (fu_ne _ _ _ (by decide)).trans h1, by rw [xw_at]; exact (fu_ne _ _ _ (by decide)).trans h2⟩
theorem pS.pr {D E D' : xD} {n q : Nat} {v : Int} (h : pS D E n q) (hD : D' = xw E 73 (fu (fu (E 73) 4 v) 2 ((q : Int) + 1))) : pS D D' n (q + 1) ∧ D' 73 4 = v ∧ ∀ j, j ≠ 2 → j ≠ 4 → D' 73 j = E 73 j := by
  subst hD
  exact ⟨h.pu (((fu_ne _ _ _ (by decide)).trans (fu_ne _ _ _ (by decide))).trans h.2.1) ((fu_at _ _ _).trans (by omega)), by rw [xw_at]; exact (fu_ne _ _ _ (by decide)).trans (fu_at _ _ _), fun j a b => by rw [xw_at]; exact (fu_ne _ _ _ a).trans (fu_ne _ _ _ b)⟩
theorem pS.p0 {D E D' : xD} {n q : Nat} {v : Int} (h : pS D E n q) (hD : D' = xw E 73 (fu (E 73) 4 v)) : pS D D' n q := by
  subst hD
  exact h.pu ((fu_ne _ _ _ (by decide)).trans h.2.1) ((fu_ne _ _ _ (by decide)).trans h.2.2)
theorem pS.w0 {D E D' : xD} {n q : Nat} {v : Int} (h : pS D E n q) (hD : D' = xw E 73 (fu (E 73) 5 v)) : pS D D' n q := by
  subst hD
  exact h.pu ((fu_ne _ _ _ (by decide)).trans h.2.1) ((fu_ne _ _ _ (by decide)).trans h.2.2)
theorem pS.wk {D E D' : xD} {n q P : Nat} {v : Int} (h : pS D E n q) (hD : rdW E D' P v) : pS D D' n P ∧ D' 73 5 = v ∧ ∀ j, j ≠ 2 → j ≠ 5 → j ≠ 6 → D' 73 j = E 73 j := by
  obtain ⟨F, rfl, h1, h2, h3, -⟩ := hD
  exact ⟨h.pu ((h1 1 (by decide) (by decide) (by decide)).trans h.2.1) h2, by rw [xw_at]; exact h3, fun j a b c => by rw [xw_at]; exact h1 j a b c⟩
theorem pS.nm {D E D' : xD} {n q P : Nat} {v : Int} (h : pS D E n q) (hD : rdN E D' P v) : pS D D' n P ∧ D' 73 6 = v ∧ ∀ j, j ≠ 2 → j ≠ 6 → D' 73 j = E 73 j := by
  obtain ⟨F, rfl, h1, h2, h3⟩ := hD
  exact ⟨h.pu ((h1 1 (by decide) (by decide)).trans h.2.1) h2, by rw [xw_at]; exact h3, fun j a c => by rw [xw_at]; exact h1 j a c⟩
theorem tDg_lt {T : Nat → Int} {n p : Nat} (h : tDg T n p) : p < n := (tDg_iff.1 h).1
theorem tCh_lt {T : Nat → Int} {n p : Nat} {c : Int} (hc : c ≠ 0) (h : tCh T n p = c) : p < n := by
  by_cases hp : p < n
  · exact hp
  · unfold tCh at h; rw [if_neg hp] at h; exact absurd h.symm hc
theorem tNum_le2 {T : Nat → Int} {n p : Nat} (h : p ≤ n) : (tNum T n p).2.2 ≤ n := (tNum_le T n p h).2
set_option maxRecDepth 100000 in
set_option maxHeartbeats 4000000 in
theorem c_rA_f0 {z : Nat} (D : xD) (r : xR) (hr : r 73 0 = some 74) (n p : Nat) (hT : tOk (D 74) n) (h1 : D 73 1 = (n : Int)) (h2 : D 73 2 = (p : Int)) (hp : p ≤ 80) (hc : tCh (D 74) n p = 102) (hg : ¬ tDg (D 74) n (p + 1)) : MX 4 mX1_readAct [.ref 73] (356, z) D r (356, z) (xEs (vi 0) (fun D' => rdP D D' n p) r) := by
  refine MX.of (by decide +kernel) [some (.ref 73)] rfl (Nat.le_of_ble_eq_true rfl) ?_
  intro γ hX hRX
  refine v_aload_n (q := 1) hX dX1_readAct_0 rfl rfl rfl ?_
  refine v_aload_n (q := 2) hX dX1_readAct_1 rfl rfl rfl ?_
  refine w_callV (q := 5) hX (c_X1_signHere _ _ hr n p hT h1 h2 hp) rfl kV_X1_signHere rfl (by decide) lk_X1_34 (by decide) rfl oPad (Nat.le_of_ble_eq_true rfl) dX1_readAct_2 rfl ?_
  have hcr := tCh_r (p := p) hT
  have hn80 := hT.1
  refine w_putC (q := 8) hX fl_X1_38 rfl (by omega) oPad dX1_readAct_5 rfl ?_
  have e0 := pS.kd h1 h2 (tCh (D 74) n p)
  have f0 : xu D 73 3 (tCh (D 74) n p) 73 3 = tCh (D 74) n p := xu_at _ _ _ _
  generalize xu D 73 3 (tCh (D 74) n p) = E0 at e0 f0 ⊢
  refine v_aload_n (q := 9) hX dX1_readAct_8 rfl rfl rfl ?_
  refine v_bipush (q := 11) hX (by decide) dX1_readAct_9 rfl ?_
  refine w_callVe (q := 14) hX (c_X1_readSign E0 _ hr n (p) (by rw [e0.T]; exact hT) e0.2.1 e0.2.2 (by omega) 102 (by decide) (by rw [e0.T]; exact hc)) rfl kV_X1_readSign rfl (by decide) lk_X1_42 (by decide) rfl oPad (Nat.le_of_ble_eq_true rfl) dX1_readAct_11 rfl (fun D1 hD1 => ?_)
  obtain ⟨e1, f1⟩ := e0.sg hD1
  have l1 := tCh_lt (by decide) (hc)
  refine v_if_ne (q := 17) (tgt := 26) hX ⟨by omega, by omega⟩ dX1_readAct_14 (by decide) rfl (fun h14 => ?_) (fun h14 => ?_)
  · refine v_aload_n (q := 27) hX dX1_readAct_26 rfl rfl rfl ?_
    refine w_callVe (q := 30) hX (c_X1_readProduct0 D1 _ hr n (p + 1) (by rw [e1.T]; exact hT) e1.2.1 e1.2.2 (by omega) (by rw [e1.T]; exact hg)) rfl kV_X1_readProduct rfl (by decide) lk_X1_46 (by decide) rfl oPad (Nat.le_of_ble_eq_true rfl) dX1_readAct_27 rfl (fun D2 hD2 => ?_)
    have e2 := e1.p0 hD2
    refine v_if_eq (q := 33) (tgt := 69) hX ⟨by omega, by omega⟩ dX1_readAct_30 (by decide) rfl (fun h30 => ?_) (fun h30 => ?_)
    · refine v_iconst (q := 70) hX dX1_readAct_69 rfl ?_
      refine v_ireturn hX hRX rfl (rfl) dX1_readAct_70 rfl ?_
      have hA := tAct_f0 (Or.inl hc) hg
      refine ⟨rfl, rfl, ?_, fun h => absurd (h.symm.trans hA.1) (by decide)⟩
      rw [hA.2]; exact e2
    · exact absurd h30 (by decide)
  · exact absurd h14 (by decide)

set_option maxRecDepth 100000 in
set_option maxHeartbeats 4000000 in
theorem c_rA_f1 {z : Nat} (D : xD) (r : xR) (hr : r 73 0 = some 74) (n p : Nat) (hT : tOk (D 74) n) (h1 : D 73 1 = (n : Int)) (h2 : D 73 2 = (p : Int)) (hp : p ≤ 80) (hc : tCh (D 74) n p = 102) (hg : tDg (D 74) n (p + 1)) (hs : tCh (D 74) n (p + 1 + 1) ≠ 64) : MX 4 mX1_readAct [.ref 73] (356, z) D r (356, z) (xEs (vi 0) (fun D' => rdP D D' n p) r) := by
  refine MX.of (by decide +kernel) [some (.ref 73)] rfl (Nat.le_of_ble_eq_true rfl) ?_
  intro γ hX hRX
  refine v_aload_n (q := 1) hX dX1_readAct_0 rfl rfl rfl ?_
  refine v_aload_n (q := 2) hX dX1_readAct_1 rfl rfl rfl ?_
  refine w_callV (q := 5) hX (c_X1_signHere _ _ hr n p hT h1 h2 hp) rfl kV_X1_signHere rfl (by decide) lk_X1_34 (by decide) rfl oPad (Nat.le_of_ble_eq_true rfl) dX1_readAct_2 rfl ?_
  have hcr := tCh_r (p := p) hT
  have hn80 := hT.1
  refine w_putC (q := 8) hX fl_X1_38 rfl (by omega) oPad dX1_readAct_5 rfl ?_
  have e0 := pS.kd h1 h2 (tCh (D 74) n p)
  have f0 : xu D 73 3 (tCh (D 74) n p) 73 3 = tCh (D 74) n p := xu_at _ _ _ _
  generalize xu D 73 3 (tCh (D 74) n p) = E0 at e0 f0 ⊢
  refine v_aload_n (q := 9) hX dX1_readAct_8 rfl rfl rfl ?_
  refine v_bipush (q := 11) hX (by decide) dX1_readAct_9 rfl ?_
  refine w_callVe (q := 14) hX (c_X1_readSign E0 _ hr n (p) (by rw [e0.T]; exact hT) e0.2.1 e0.2.2 (by omega) 102 (by decide) (by rw [e0.T]; exact hc)) rfl kV_X1_readSign rfl (by decide) lk_X1_42 (by decide) rfl oPad (Nat.le_of_ble_eq_true rfl) dX1_readAct_11 rfl (fun D1 hD1 => ?_)
  obtain ⟨e1, f1⟩ := e0.sg hD1
  have l1 := tCh_lt (by decide) (hc)
  refine v_if_ne (q := 17) (tgt := 26) hX ⟨by omega, by omega⟩ dX1_readAct_14 (by decide) rfl (fun h14 => ?_) (fun h14 => ?_)
  · refine v_aload_n (q := 27) hX dX1_readAct_26 rfl rfl rfl ?_
    refine w_callVe (q := 30) hX (c_X1_readProduct D1 _ hr n (p + 1) (by rw [e1.T]; exact hT) e1.2.1 e1.2.2 (by omega) (by rw [e1.T]; exact hg)) rfl kV_X1_readProduct rfl (by decide) lk_X1_46 (by decide) rfl oPad (Nat.le_of_ble_eq_true rfl) dX1_readAct_27 rfl (fun D2 hD2 => ?_)
    obtain ⟨e2, v2, f2⟩ := e1.pr hD2
    rw [e1.T] at v2
    have l2 := tDg_lt hg
    refine v_if_eq (q := 33) (tgt := 69) hX ⟨by omega, by omega⟩ dX1_readAct_30 (by decide) rfl (fun h30 => ?_) (fun h30 => ?_)
    · exact absurd h30 (by decide)
    · refine v_aload_n (q := 34) hX dX1_readAct_33 rfl rfl rfl ?_
      refine v_bipush (q := 36) hX (by decide) dX1_readAct_34 rfl ?_
      refine w_callV (q := 39) hX (c_X1_readSign0 D2 _ hr n (p + 1 + 1) (by rw [e2.T]; exact hT) e2.2.1 e2.2.2 (by omega) 64 (by decide) (by rw [e2.T]; exact hs)) rfl kV_X1_readSign rfl (by decide) lk_X1_42 (by decide) rfl oPad (Nat.le_of_ble_eq_true rfl) dX1_readAct_36 rfl ?_
      refine v_if_eq (q := 42) (tgt := 69) hX ⟨by omega, by omega⟩ dX1_readAct_39 (by decide) rfl (fun h39 => ?_) (fun h39 => ?_)
      · refine v_iconst (q := 70) hX dX1_readAct_69 rfl ?_
        refine v_ireturn hX hRX rfl (rfl) dX1_readAct_70 rfl ?_
        have hA := tAct_f1 (Or.inl hc) hg hs
        refine ⟨rfl, rfl, ?_, fun h => absurd (h.symm.trans hA.1) (by decide)⟩
        rw [hA.2]; exact e2
      · exact absurd h39 (by decide)
  · exact absurd h14 (by decide)

set_option maxRecDepth 100000 in
set_option maxHeartbeats 4000000 in
theorem c_rA_f2 {z : Nat} (D : xD) (r : xR) (hr : r 73 0 = some 74) (n p : Nat) (hT : tOk (D 74) n) (h1 : D 73 1 = (n : Int)) (h2 : D 73 2 = (p : Int)) (hp : p ≤ 80) (hc : tCh (D 74) n p = 102) (hg : tDg (D 74) n (p + 1)) (hs : tCh (D 74) n (p + 1 + 1) = 64) (hg2 : ¬ tDg (D 74) n (p + 1 + 1 + 1)) : MX 4 mX1_readAct [.ref 73] (356, z) D r (356, z) (xEs (vi 0) (fun D' => rdP D D' n p) r) := by
  refine MX.of (by decide +kernel) [some (.ref 73)] rfl (Nat.le_of_ble_eq_true rfl) ?_
  intro γ hX hRX
  refine v_aload_n (q := 1) hX dX1_readAct_0 rfl rfl rfl ?_
  refine v_aload_n (q := 2) hX dX1_readAct_1 rfl rfl rfl ?_
  refine w_callV (q := 5) hX (c_X1_signHere _ _ hr n p hT h1 h2 hp) rfl kV_X1_signHere rfl (by decide) lk_X1_34 (by decide) rfl oPad (Nat.le_of_ble_eq_true rfl) dX1_readAct_2 rfl ?_
  have hcr := tCh_r (p := p) hT
  have hn80 := hT.1
  refine w_putC (q := 8) hX fl_X1_38 rfl (by omega) oPad dX1_readAct_5 rfl ?_
  have e0 := pS.kd h1 h2 (tCh (D 74) n p)
  have f0 : xu D 73 3 (tCh (D 74) n p) 73 3 = tCh (D 74) n p := xu_at _ _ _ _
  generalize xu D 73 3 (tCh (D 74) n p) = E0 at e0 f0 ⊢
  refine v_aload_n (q := 9) hX dX1_readAct_8 rfl rfl rfl ?_
  refine v_bipush (q := 11) hX (by decide) dX1_readAct_9 rfl ?_
  refine w_callVe (q := 14) hX (c_X1_readSign E0 _ hr n (p) (by rw [e0.T]; exact hT) e0.2.1 e0.2.2 (by omega) 102 (by decide) (by rw [e0.T]; exact hc)) rfl kV_X1_readSign rfl (by decide) lk_X1_42 (by decide) rfl oPad (Nat.le_of_ble_eq_true rfl) dX1_readAct_11 rfl (fun D1 hD1 => ?_)
  obtain ⟨e1, f1⟩ := e0.sg hD1
  have l1 := tCh_lt (by decide) (hc)
  refine v_if_ne (q := 17) (tgt := 26) hX ⟨by omega, by omega⟩ dX1_readAct_14 (by decide) rfl (fun h14 => ?_) (fun h14 => ?_)
  · refine v_aload_n (q := 27) hX dX1_readAct_26 rfl rfl rfl ?_
    refine w_callVe (q := 30) hX (c_X1_readProduct D1 _ hr n (p + 1) (by rw [e1.T]; exact hT) e1.2.1 e1.2.2 (by omega) (by rw [e1.T]; exact hg)) rfl kV_X1_readProduct rfl (by decide) lk_X1_46 (by decide) rfl oPad (Nat.le_of_ble_eq_true rfl) dX1_readAct_27 rfl (fun D2 hD2 => ?_)
    obtain ⟨e2, v2, f2⟩ := e1.pr hD2
    rw [e1.T] at v2
    have l2 := tDg_lt hg
    refine v_if_eq (q := 33) (tgt := 69) hX ⟨by omega, by omega⟩ dX1_readAct_30 (by decide) rfl (fun h30 => ?_) (fun h30 => ?_)
    · exact absurd h30 (by decide)
    · refine v_aload_n (q := 34) hX dX1_readAct_33 rfl rfl rfl ?_
      refine v_bipush (q := 36) hX (by decide) dX1_readAct_34 rfl ?_
      refine w_callVe (q := 39) hX (c_X1_readSign D2 _ hr n (p + 1 + 1) (by rw [e2.T]; exact hT) e2.2.1 e2.2.2 (by omega) 64 (by decide) (by rw [e2.T]; exact hs)) rfl kV_X1_readSign rfl (by decide) lk_X1_42 (by decide) rfl oPad (Nat.le_of_ble_eq_true rfl) dX1_readAct_36 rfl (fun D3 hD3 => ?_)
      obtain ⟨e3, f3⟩ := e2.sg hD3
      have l3 := tCh_lt (by decide) (hs)
      refine v_if_eq (q := 42) (tgt := 69) hX ⟨by omega, by omega⟩ dX1_readAct_39 (by decide) rfl (fun h39 => ?_) (fun h39 => ?_)
      · exact absurd h39 (by decide)
      · refine v_aload_n (q := 43) hX dX1_readAct_42 rfl rfl rfl ?_
        refine w_callVe (q := 46) hX (c_X1_readWeek0 D3 _ hr n (p + 1 + 1 + 1) (by rw [e3.T]; exact hT) e3.2.1 e3.2.2 (by omega) (by rw [e3.T]; exact hg2)) rfl kV_X1_readWeek rfl (by decide) lk_X1_50 (by decide) rfl oPad (Nat.le_of_ble_eq_true rfl) dX1_readAct_43 rfl (fun D4 hD4 => ?_)
        have e4 := e3.w0 hD4
        refine v_if_eq (q := 49) (tgt := 69) hX ⟨by omega, by omega⟩ dX1_readAct_46 (by decide) rfl (fun h46 => ?_) (fun h46 => ?_)
        · refine v_iconst (q := 70) hX dX1_readAct_69 rfl ?_
          refine v_ireturn hX hRX rfl (rfl) dX1_readAct_70 rfl ?_
          have hA := tAct_f2 (Or.inl hc) hg hs hg2
          refine ⟨rfl, rfl, ?_, fun h => absurd (h.symm.trans hA.1) (by decide)⟩
          rw [hA.2]; exact e4
        · exact absurd h46 (by decide)
  · exact absurd h14 (by decide)

set_option maxRecDepth 100000 in
set_option maxHeartbeats 4000000 in
theorem c_rA_f3 {z : Nat} (D : xD) (r : xR) (hr : r 73 0 = some 74) (n p : Nat) (hT : tOk (D 74) n) (h1 : D 73 1 = (n : Int)) (h2 : D 73 2 = (p : Int)) (hp : p ≤ 80) (hc : tCh (D 74) n p = 102) (hg : tDg (D 74) n (p + 1)) (hs : tCh (D 74) n (p + 1 + 1) = 64) (hg2 : tDg (D 74) n (p + 1 + 1 + 1)) (hs2 : tCh (D 74) n (tNum (D 74) n (p + 1 + 1 + 1)).2.2 ≠ 42) : MX 4 mX1_readAct [.ref 73] (356, z) D r (356, z) (xEs (vi 0) (fun D' => rdP D D' n p) r) := by
  refine MX.of (by decide +kernel) [some (.ref 73)] rfl (Nat.le_of_ble_eq_true rfl) ?_
  intro γ hX hRX
  refine v_aload_n (q := 1) hX dX1_readAct_0 rfl rfl rfl ?_
  refine v_aload_n (q := 2) hX dX1_readAct_1 rfl rfl rfl ?_
  refine w_callV (q := 5) hX (c_X1_signHere _ _ hr n p hT h1 h2 hp) rfl kV_X1_signHere rfl (by decide) lk_X1_34 (by decide) rfl oPad (Nat.le_of_ble_eq_true rfl) dX1_readAct_2 rfl ?_
  have hcr := tCh_r (p := p) hT
  have hn80 := hT.1
  refine w_putC (q := 8) hX fl_X1_38 rfl (by omega) oPad dX1_readAct_5 rfl ?_
  have e0 := pS.kd h1 h2 (tCh (D 74) n p)
  have f0 : xu D 73 3 (tCh (D 74) n p) 73 3 = tCh (D 74) n p := xu_at _ _ _ _
  generalize xu D 73 3 (tCh (D 74) n p) = E0 at e0 f0 ⊢
  refine v_aload_n (q := 9) hX dX1_readAct_8 rfl rfl rfl ?_
  refine v_bipush (q := 11) hX (by decide) dX1_readAct_9 rfl ?_
  refine w_callVe (q := 14) hX (c_X1_readSign E0 _ hr n (p) (by rw [e0.T]; exact hT) e0.2.1 e0.2.2 (by omega) 102 (by decide) (by rw [e0.T]; exact hc)) rfl kV_X1_readSign rfl (by decide) lk_X1_42 (by decide) rfl oPad (Nat.le_of_ble_eq_true rfl) dX1_readAct_11 rfl (fun D1 hD1 => ?_)
  obtain ⟨e1, f1⟩ := e0.sg hD1
  have l1 := tCh_lt (by decide) (hc)
  refine v_if_ne (q := 17) (tgt := 26) hX ⟨by omega, by omega⟩ dX1_readAct_14 (by decide) rfl (fun h14 => ?_) (fun h14 => ?_)
  · refine v_aload_n (q := 27) hX dX1_readAct_26 rfl rfl rfl ?_
    refine w_callVe (q := 30) hX (c_X1_readProduct D1 _ hr n (p + 1) (by rw [e1.T]; exact hT) e1.2.1 e1.2.2 (by omega) (by rw [e1.T]; exact hg)) rfl kV_X1_readProduct rfl (by decide) lk_X1_46 (by decide) rfl oPad (Nat.le_of_ble_eq_true rfl) dX1_readAct_27 rfl (fun D2 hD2 => ?_)
    obtain ⟨e2, v2, f2⟩ := e1.pr hD2
    rw [e1.T] at v2
    have l2 := tDg_lt hg
    refine v_if_eq (q := 33) (tgt := 69) hX ⟨by omega, by omega⟩ dX1_readAct_30 (by decide) rfl (fun h30 => ?_) (fun h30 => ?_)
    · exact absurd h30 (by decide)
    · refine v_aload_n (q := 34) hX dX1_readAct_33 rfl rfl rfl ?_
      refine v_bipush (q := 36) hX (by decide) dX1_readAct_34 rfl ?_
      refine w_callVe (q := 39) hX (c_X1_readSign D2 _ hr n (p + 1 + 1) (by rw [e2.T]; exact hT) e2.2.1 e2.2.2 (by omega) 64 (by decide) (by rw [e2.T]; exact hs)) rfl kV_X1_readSign rfl (by decide) lk_X1_42 (by decide) rfl oPad (Nat.le_of_ble_eq_true rfl) dX1_readAct_36 rfl (fun D3 hD3 => ?_)
      obtain ⟨e3, f3⟩ := e2.sg hD3
      have l3 := tCh_lt (by decide) (hs)
      refine v_if_eq (q := 42) (tgt := 69) hX ⟨by omega, by omega⟩ dX1_readAct_39 (by decide) rfl (fun h39 => ?_) (fun h39 => ?_)
      · exact absurd h39 (by decide)
      · refine v_aload_n (q := 43) hX dX1_readAct_42 rfl rfl rfl ?_
        refine w_callVe (q := 46) hX (c_X1_readWeek D3 _ hr n (p + 1 + 1 + 1) (by rw [e3.T]; exact hT) e3.2.1 e3.2.2 (by omega) (by rw [e3.T]; exact hg2)) rfl kV_X1_readWeek rfl (by decide) lk_X1_50 (by decide) rfl oPad (Nat.le_of_ble_eq_true rfl) dX1_readAct_43 rfl (fun D4 hD4 => ?_)
        rw [e3.T] at hD4
        obtain ⟨e4, v4, f4⟩ := e3.wk hD4
        have l4 := tNum_le2 (T := D 74) (Nat.le_of_lt (tDg_lt hg2))
        refine v_if_eq (q := 49) (tgt := 69) hX ⟨by omega, by omega⟩ dX1_readAct_46 (by decide) rfl (fun h46 => ?_) (fun h46 => ?_)
        · exact absurd h46 (by decide)
        · refine v_aload_n (q := 50) hX dX1_readAct_49 rfl rfl rfl ?_
          refine v_bipush (q := 52) hX (by decide) dX1_readAct_50 rfl ?_
          refine w_callV (q := 55) hX (c_X1_readSign0 D4 _ hr n ((tNum (D 74) n (p + 1 + 1 + 1)).2.2) (by rw [e4.T]; exact hT) e4.2.1 e4.2.2 (by omega) 42 (by decide) (by rw [e4.T]; exact hs2)) rfl kV_X1_readSign rfl (by decide) lk_X1_42 (by decide) rfl oPad (Nat.le_of_ble_eq_true rfl) dX1_readAct_52 rfl ?_
          refine v_if_eq (q := 58) (tgt := 69) hX ⟨by omega, by omega⟩ dX1_readAct_55 (by decide) rfl (fun h55 => ?_) (fun h55 => ?_)
          · refine v_iconst (q := 70) hX dX1_readAct_69 rfl ?_
            refine v_ireturn hX hRX rfl (rfl) dX1_readAct_70 rfl ?_
            have hA := tAct_f3 (Or.inl hc) hg hs hs2
            refine ⟨rfl, rfl, ?_, fun h => absurd (h.symm.trans hA.1) (by decide)⟩
            rw [hA.2]; exact e4
          · exact absurd h55 (by decide)
  · exact absurd h14 (by decide)

set_option maxRecDepth 100000 in
set_option maxHeartbeats 4000000 in
theorem c_rA_f4 {z : Nat} (D : xD) (r : xR) (hr : r 73 0 = some 74) (n p : Nat) (hT : tOk (D 74) n) (h1 : D 73 1 = (n : Int)) (h2 : D 73 2 = (p : Int)) (hp : p ≤ 80) (hc : tCh (D 74) n p = 102) (hg : tDg (D 74) n (p + 1)) (hs : tCh (D 74) n (p + 1 + 1) = 64) (hg2 : tDg (D 74) n (p + 1 + 1 + 1)) (hs2 : tCh (D 74) n (tNum (D 74) n (p + 1 + 1 + 1)).2.2 = 42) (hg3 : ¬ tDg (D 74) n ((tNum (D 74) n (p + 1 + 1 + 1)).2.2 + 1)) : MX 4 mX1_readAct [.ref 73] (356, z) D r (356, z) (xEs (vi 0) (fun D' => rdP D D' n p) r) := by
  refine MX.of (by decide +kernel) [some (.ref 73)] rfl (Nat.le_of_ble_eq_true rfl) ?_
  intro γ hX hRX
  refine v_aload_n (q := 1) hX dX1_readAct_0 rfl rfl rfl ?_
  refine v_aload_n (q := 2) hX dX1_readAct_1 rfl rfl rfl ?_
  refine w_callV (q := 5) hX (c_X1_signHere _ _ hr n p hT h1 h2 hp) rfl kV_X1_signHere rfl (by decide) lk_X1_34 (by decide) rfl oPad (Nat.le_of_ble_eq_true rfl) dX1_readAct_2 rfl ?_
  have hcr := tCh_r (p := p) hT
  have hn80 := hT.1
  refine w_putC (q := 8) hX fl_X1_38 rfl (by omega) oPad dX1_readAct_5 rfl ?_
  have e0 := pS.kd h1 h2 (tCh (D 74) n p)
  have f0 : xu D 73 3 (tCh (D 74) n p) 73 3 = tCh (D 74) n p := xu_at _ _ _ _
  generalize xu D 73 3 (tCh (D 74) n p) = E0 at e0 f0 ⊢
  refine v_aload_n (q := 9) hX dX1_readAct_8 rfl rfl rfl ?_
  refine v_bipush (q := 11) hX (by decide) dX1_readAct_9 rfl ?_
  refine w_callVe (q := 14) hX (c_X1_readSign E0 _ hr n (p) (by rw [e0.T]; exact hT) e0.2.1 e0.2.2 (by omega) 102 (by decide) (by rw [e0.T]; exact hc)) rfl kV_X1_readSign rfl (by decide) lk_X1_42 (by decide) rfl oPad (Nat.le_of_ble_eq_true rfl) dX1_readAct_11 rfl (fun D1 hD1 => ?_)
  obtain ⟨e1, f1⟩ := e0.sg hD1
  have l1 := tCh_lt (by decide) (hc)
  refine v_if_ne (q := 17) (tgt := 26) hX ⟨by omega, by omega⟩ dX1_readAct_14 (by decide) rfl (fun h14 => ?_) (fun h14 => ?_)
  · refine v_aload_n (q := 27) hX dX1_readAct_26 rfl rfl rfl ?_
    refine w_callVe (q := 30) hX (c_X1_readProduct D1 _ hr n (p + 1) (by rw [e1.T]; exact hT) e1.2.1 e1.2.2 (by omega) (by rw [e1.T]; exact hg)) rfl kV_X1_readProduct rfl (by decide) lk_X1_46 (by decide) rfl oPad (Nat.le_of_ble_eq_true rfl) dX1_readAct_27 rfl (fun D2 hD2 => ?_)
    obtain ⟨e2, v2, f2⟩ := e1.pr hD2
    rw [e1.T] at v2
    have l2 := tDg_lt hg
    refine v_if_eq (q := 33) (tgt := 69) hX ⟨by omega, by omega⟩ dX1_readAct_30 (by decide) rfl (fun h30 => ?_) (fun h30 => ?_)
    · exact absurd h30 (by decide)
    · refine v_aload_n (q := 34) hX dX1_readAct_33 rfl rfl rfl ?_
      refine v_bipush (q := 36) hX (by decide) dX1_readAct_34 rfl ?_
      refine w_callVe (q := 39) hX (c_X1_readSign D2 _ hr n (p + 1 + 1) (by rw [e2.T]; exact hT) e2.2.1 e2.2.2 (by omega) 64 (by decide) (by rw [e2.T]; exact hs)) rfl kV_X1_readSign rfl (by decide) lk_X1_42 (by decide) rfl oPad (Nat.le_of_ble_eq_true rfl) dX1_readAct_36 rfl (fun D3 hD3 => ?_)
      obtain ⟨e3, f3⟩ := e2.sg hD3
      have l3 := tCh_lt (by decide) (hs)
      refine v_if_eq (q := 42) (tgt := 69) hX ⟨by omega, by omega⟩ dX1_readAct_39 (by decide) rfl (fun h39 => ?_) (fun h39 => ?_)
      · exact absurd h39 (by decide)
      · refine v_aload_n (q := 43) hX dX1_readAct_42 rfl rfl rfl ?_
        refine w_callVe (q := 46) hX (c_X1_readWeek D3 _ hr n (p + 1 + 1 + 1) (by rw [e3.T]; exact hT) e3.2.1 e3.2.2 (by omega) (by rw [e3.T]; exact hg2)) rfl kV_X1_readWeek rfl (by decide) lk_X1_50 (by decide) rfl oPad (Nat.le_of_ble_eq_true rfl) dX1_readAct_43 rfl (fun D4 hD4 => ?_)
        rw [e3.T] at hD4
        obtain ⟨e4, v4, f4⟩ := e3.wk hD4
        have l4 := tNum_le2 (T := D 74) (Nat.le_of_lt (tDg_lt hg2))
        refine v_if_eq (q := 49) (tgt := 69) hX ⟨by omega, by omega⟩ dX1_readAct_46 (by decide) rfl (fun h46 => ?_) (fun h46 => ?_)
        · exact absurd h46 (by decide)
        · refine v_aload_n (q := 50) hX dX1_readAct_49 rfl rfl rfl ?_
          refine v_bipush (q := 52) hX (by decide) dX1_readAct_50 rfl ?_
          refine w_callVe (q := 55) hX (c_X1_readSign D4 _ hr n ((tNum (D 74) n (p + 1 + 1 + 1)).2.2) (by rw [e4.T]; exact hT) e4.2.1 e4.2.2 (by omega) 42 (by decide) (by rw [e4.T]; exact hs2)) rfl kV_X1_readSign rfl (by decide) lk_X1_42 (by decide) rfl oPad (Nat.le_of_ble_eq_true rfl) dX1_readAct_52 rfl (fun D5 hD5 => ?_)
          obtain ⟨e5, f5⟩ := e4.sg hD5
          have l5 := tCh_lt (by decide) (hs2)
          refine v_if_eq (q := 58) (tgt := 69) hX ⟨by omega, by omega⟩ dX1_readAct_55 (by decide) rfl (fun h55 => ?_) (fun h55 => ?_)
          · exact absurd h55 (by decide)
          · refine v_aload_n (q := 59) hX dX1_readAct_58 rfl rfl rfl ?_
            refine w_callV (q := 62) hX (c_X1_readNumber0 D5 _ hr n ((tNum (D 74) n (p + 1 + 1 + 1)).2.2 + 1) (by rw [e5.T]; exact hT) e5.2.1 e5.2.2 (by omega) (by rw [e5.T]; exact hg3)) rfl kV_X1_readNumber rfl (by decide) lk_X1_53 (by decide) rfl oPad (Nat.le_of_ble_eq_true rfl) dX1_readAct_59 rfl ?_
            refine v_if_eq (q := 65) (tgt := 69) hX ⟨by omega, by omega⟩ dX1_readAct_62 (by decide) rfl (fun h62 => ?_) (fun h62 => ?_)
            · refine v_iconst (q := 70) hX dX1_readAct_69 rfl ?_
              refine v_ireturn hX hRX rfl (rfl) dX1_readAct_70 rfl ?_
              have hA := tAct_f4 (Or.inl hc) hg hs hg2 hs2 hg3
              refine ⟨rfl, rfl, ?_, fun h => absurd (h.symm.trans hA.1) (by decide)⟩
              rw [hA.2]; exact e5
            · exact absurd h62 (by decide)
  · exact absurd h14 (by decide)

set_option maxRecDepth 100000 in
set_option maxHeartbeats 4000000 in
theorem c_rA_f5 {z : Nat} (D : xD) (r : xR) (hr : r 73 0 = some 74) (n p : Nat) (hT : tOk (D 74) n) (h1 : D 73 1 = (n : Int)) (h2 : D 73 2 = (p : Int)) (hp : p ≤ 80) (hc : tCh (D 74) n p = 102) (hg : tDg (D 74) n (p + 1)) (hs : tCh (D 74) n (p + 1 + 1) = 64) (hg2 : tDg (D 74) n (p + 1 + 1 + 1)) (hs2 : tCh (D 74) n (tNum (D 74) n (p + 1 + 1 + 1)).2.2 = 42) (hg3 : tDg (D 74) n ((tNum (D 74) n (p + 1 + 1 + 1)).2.2 + 1)) : MX 4 mX1_readAct [.ref 73] (356, z) D r (356, z) (xEs (vi 1) (fun D' => rdP D D' n p) r) := by
  refine MX.of (by decide +kernel) [some (.ref 73)] rfl (Nat.le_of_ble_eq_true rfl) ?_
  intro γ hX hRX
  refine v_aload_n (q := 1) hX dX1_readAct_0 rfl rfl rfl ?_
  refine v_aload_n (q := 2) hX dX1_readAct_1 rfl rfl rfl ?_
  refine w_callV (q := 5) hX (c_X1_signHere _ _ hr n p hT h1 h2 hp) rfl kV_X1_signHere rfl (by decide) lk_X1_34 (by decide) rfl oPad (Nat.le_of_ble_eq_true rfl) dX1_readAct_2 rfl ?_
  have hcr := tCh_r (p := p) hT
  have hn80 := hT.1
  refine w_putC (q := 8) hX fl_X1_38 rfl (by omega) oPad dX1_readAct_5 rfl ?_
  have e0 := pS.kd h1 h2 (tCh (D 74) n p)
  have f0 : xu D 73 3 (tCh (D 74) n p) 73 3 = tCh (D 74) n p := xu_at _ _ _ _
  generalize xu D 73 3 (tCh (D 74) n p) = E0 at e0 f0 ⊢
  refine v_aload_n (q := 9) hX dX1_readAct_8 rfl rfl rfl ?_
  refine v_bipush (q := 11) hX (by decide) dX1_readAct_9 rfl ?_
  refine w_callVe (q := 14) hX (c_X1_readSign E0 _ hr n (p) (by rw [e0.T]; exact hT) e0.2.1 e0.2.2 (by omega) 102 (by decide) (by rw [e0.T]; exact hc)) rfl kV_X1_readSign rfl (by decide) lk_X1_42 (by decide) rfl oPad (Nat.le_of_ble_eq_true rfl) dX1_readAct_11 rfl (fun D1 hD1 => ?_)
  obtain ⟨e1, f1⟩ := e0.sg hD1
  have l1 := tCh_lt (by decide) (hc)
  refine v_if_ne (q := 17) (tgt := 26) hX ⟨by omega, by omega⟩ dX1_readAct_14 (by decide) rfl (fun h14 => ?_) (fun h14 => ?_)
  · refine v_aload_n (q := 27) hX dX1_readAct_26 rfl rfl rfl ?_
    refine w_callVe (q := 30) hX (c_X1_readProduct D1 _ hr n (p + 1) (by rw [e1.T]; exact hT) e1.2.1 e1.2.2 (by omega) (by rw [e1.T]; exact hg)) rfl kV_X1_readProduct rfl (by decide) lk_X1_46 (by decide) rfl oPad (Nat.le_of_ble_eq_true rfl) dX1_readAct_27 rfl (fun D2 hD2 => ?_)
    obtain ⟨e2, v2, f2⟩ := e1.pr hD2
    rw [e1.T] at v2
    have l2 := tDg_lt hg
    refine v_if_eq (q := 33) (tgt := 69) hX ⟨by omega, by omega⟩ dX1_readAct_30 (by decide) rfl (fun h30 => ?_) (fun h30 => ?_)
    · exact absurd h30 (by decide)
    · refine v_aload_n (q := 34) hX dX1_readAct_33 rfl rfl rfl ?_
      refine v_bipush (q := 36) hX (by decide) dX1_readAct_34 rfl ?_
      refine w_callVe (q := 39) hX (c_X1_readSign D2 _ hr n (p + 1 + 1) (by rw [e2.T]; exact hT) e2.2.1 e2.2.2 (by omega) 64 (by decide) (by rw [e2.T]; exact hs)) rfl kV_X1_readSign rfl (by decide) lk_X1_42 (by decide) rfl oPad (Nat.le_of_ble_eq_true rfl) dX1_readAct_36 rfl (fun D3 hD3 => ?_)
      obtain ⟨e3, f3⟩ := e2.sg hD3
      have l3 := tCh_lt (by decide) (hs)
      refine v_if_eq (q := 42) (tgt := 69) hX ⟨by omega, by omega⟩ dX1_readAct_39 (by decide) rfl (fun h39 => ?_) (fun h39 => ?_)
      · exact absurd h39 (by decide)
      · refine v_aload_n (q := 43) hX dX1_readAct_42 rfl rfl rfl ?_
        refine w_callVe (q := 46) hX (c_X1_readWeek D3 _ hr n (p + 1 + 1 + 1) (by rw [e3.T]; exact hT) e3.2.1 e3.2.2 (by omega) (by rw [e3.T]; exact hg2)) rfl kV_X1_readWeek rfl (by decide) lk_X1_50 (by decide) rfl oPad (Nat.le_of_ble_eq_true rfl) dX1_readAct_43 rfl (fun D4 hD4 => ?_)
        rw [e3.T] at hD4
        obtain ⟨e4, v4, f4⟩ := e3.wk hD4
        have l4 := tNum_le2 (T := D 74) (Nat.le_of_lt (tDg_lt hg2))
        refine v_if_eq (q := 49) (tgt := 69) hX ⟨by omega, by omega⟩ dX1_readAct_46 (by decide) rfl (fun h46 => ?_) (fun h46 => ?_)
        · exact absurd h46 (by decide)
        · refine v_aload_n (q := 50) hX dX1_readAct_49 rfl rfl rfl ?_
          refine v_bipush (q := 52) hX (by decide) dX1_readAct_50 rfl ?_
          refine w_callVe (q := 55) hX (c_X1_readSign D4 _ hr n ((tNum (D 74) n (p + 1 + 1 + 1)).2.2) (by rw [e4.T]; exact hT) e4.2.1 e4.2.2 (by omega) 42 (by decide) (by rw [e4.T]; exact hs2)) rfl kV_X1_readSign rfl (by decide) lk_X1_42 (by decide) rfl oPad (Nat.le_of_ble_eq_true rfl) dX1_readAct_52 rfl (fun D5 hD5 => ?_)
          obtain ⟨e5, f5⟩ := e4.sg hD5
          have l5 := tCh_lt (by decide) (hs2)
          refine v_if_eq (q := 58) (tgt := 69) hX ⟨by omega, by omega⟩ dX1_readAct_55 (by decide) rfl (fun h55 => ?_) (fun h55 => ?_)
          · exact absurd h55 (by decide)
          · refine v_aload_n (q := 59) hX dX1_readAct_58 rfl rfl rfl ?_
            refine w_callVe (q := 62) hX (c_X1_readNumber D5 _ hr n ((tNum (D 74) n (p + 1 + 1 + 1)).2.2 + 1) (by rw [e5.T]; exact hT) e5.2.1 e5.2.2 (by omega) (by rw [e5.T]; exact hg3)) rfl kV_X1_readNumber rfl (by decide) lk_X1_53 (by decide) rfl oPad (Nat.le_of_ble_eq_true rfl) dX1_readAct_59 rfl (fun D6 hD6 => ?_)
            rw [e5.T] at hD6
            obtain ⟨e6, v6, f6⟩ := e5.nm hD6
            refine v_if_eq (q := 65) (tgt := 69) hX ⟨by omega, by omega⟩ dX1_readAct_62 (by decide) rfl (fun h62 => ?_) (fun h62 => ?_)
            · exact absurd h62 (by decide)
            · refine v_iconst (q := 66) hX dX1_readAct_65 rfl ?_
              refine v_goto (tgt := 70) hX dX1_readAct_66 (by decide) ?_
              refine v_ireturn hX hRX rfl (rfl) dX1_readAct_70 rfl ?_
              have hA := tAct_f5 (Or.inl hc) hg hs hg2 hs2
              refine ⟨rfl, rfl, ?_, fun _ => ?_⟩
              · rw [hA]; exact e6
              · rw [hA]; exact ⟨((((((f6 3 (by decide) (by decide)).trans (f5 3 (by decide))).trans (f4 3 (by decide) (by decide) (by decide))).trans (f3 3 (by decide))).trans (f2 3 (by decide) (by decide))).trans (f1 3 (by decide))).trans f0, fun h => by have h : tCh (D 74) n p = 110 := h; omega, fun _ => ⟨((((f6 4 (by decide) (by decide)).trans (f5 4 (by decide))).trans (f4 4 (by decide) (by decide) (by decide))).trans (f3 4 (by decide))).trans v2, v6⟩, fun _ => ((f6 5 (by decide) (by decide)).trans (f5 5 (by decide))).trans v4⟩
  · exact absurd h14 (by decide)

set_option maxRecDepth 100000 in
set_option maxHeartbeats 4000000 in
theorem c_rA_l0 {z : Nat} (D : xD) (r : xR) (hr : r 73 0 = some 74) (n p : Nat) (hT : tOk (D 74) n) (h1 : D 73 1 = (n : Int)) (h2 : D 73 2 = (p : Int)) (hp : p ≤ 80) (hc : tCh (D 74) n p = 108) (hg : ¬ tDg (D 74) n (p + 1)) : MX 4 mX1_readAct [.ref 73] (356, z) D r (356, z) (xEs (vi 0) (fun D' => rdP D D' n p) r) := by
  refine MX.of (by decide +kernel) [some (.ref 73)] rfl (Nat.le_of_ble_eq_true rfl) ?_
  intro γ hX hRX
  refine v_aload_n (q := 1) hX dX1_readAct_0 rfl rfl rfl ?_
  refine v_aload_n (q := 2) hX dX1_readAct_1 rfl rfl rfl ?_
  refine w_callV (q := 5) hX (c_X1_signHere _ _ hr n p hT h1 h2 hp) rfl kV_X1_signHere rfl (by decide) lk_X1_34 (by decide) rfl oPad (Nat.le_of_ble_eq_true rfl) dX1_readAct_2 rfl ?_
  have hcr := tCh_r (p := p) hT
  have hn80 := hT.1
  refine w_putC (q := 8) hX fl_X1_38 rfl (by omega) oPad dX1_readAct_5 rfl ?_
  have e0 := pS.kd h1 h2 (tCh (D 74) n p)
  have f0 : xu D 73 3 (tCh (D 74) n p) 73 3 = tCh (D 74) n p := xu_at _ _ _ _
  generalize xu D 73 3 (tCh (D 74) n p) = E0 at e0 f0 ⊢
  refine v_aload_n (q := 9) hX dX1_readAct_8 rfl rfl rfl ?_
  refine v_bipush (q := 11) hX (by decide) dX1_readAct_9 rfl ?_
  refine w_callV (q := 14) hX (c_X1_readSign0 E0 _ hr n (p) (by rw [e0.T]; exact hT) e0.2.1 e0.2.2 (by omega) 102 (by decide) (by rw [e0.T]; exact (by rw [hc]; decide))) rfl kV_X1_readSign rfl (by decide) lk_X1_42 (by decide) rfl oPad (Nat.le_of_ble_eq_true rfl) dX1_readAct_11 rfl ?_
  refine v_if_ne (q := 17) (tgt := 26) hX ⟨by omega, by omega⟩ dX1_readAct_14 (by decide) rfl (fun h14 => ?_) (fun h14 => ?_)
  · exact absurd h14 (by decide)
  · refine v_aload_n (q := 18) hX dX1_readAct_17 rfl rfl rfl ?_
    refine v_bipush (q := 20) hX (by decide) dX1_readAct_18 rfl ?_
    refine w_callVe (q := 23) hX (c_X1_readSign E0 _ hr n (p) (by rw [e0.T]; exact hT) e0.2.1 e0.2.2 (by omega) 108 (by decide) (by rw [e0.T]; exact hc)) rfl kV_X1_readSign rfl (by decide) lk_X1_42 (by decide) rfl oPad (Nat.le_of_ble_eq_true rfl) dX1_readAct_20 rfl (fun D1 hD1 => ?_)
    obtain ⟨e1, f1⟩ := e0.sg hD1
    have l1 := tCh_lt (by decide) (hc)
    refine v_if_eq (q := 26) (tgt := 71) hX ⟨by omega, by omega⟩ dX1_readAct_23 (by decide) rfl (fun h23 => ?_) (fun h23 => ?_)
    · exact absurd h23 (by decide)
    · refine v_aload_n (q := 27) hX dX1_readAct_26 rfl rfl rfl ?_
      refine w_callVe (q := 30) hX (c_X1_readProduct0 D1 _ hr n (p + 1) (by rw [e1.T]; exact hT) e1.2.1 e1.2.2 (by omega) (by rw [e1.T]; exact hg)) rfl kV_X1_readProduct rfl (by decide) lk_X1_46 (by decide) rfl oPad (Nat.le_of_ble_eq_true rfl) dX1_readAct_27 rfl (fun D2 hD2 => ?_)
      have e2 := e1.p0 hD2
      refine v_if_eq (q := 33) (tgt := 69) hX ⟨by omega, by omega⟩ dX1_readAct_30 (by decide) rfl (fun h30 => ?_) (fun h30 => ?_)
      · refine v_iconst (q := 70) hX dX1_readAct_69 rfl ?_
        refine v_ireturn hX hRX rfl (rfl) dX1_readAct_70 rfl ?_
        have hA := tAct_f0 (Or.inr hc) hg
        refine ⟨rfl, rfl, ?_, fun h => absurd (h.symm.trans hA.1) (by decide)⟩
        rw [hA.2]; exact e2
      · exact absurd h30 (by decide)

set_option maxRecDepth 100000 in
set_option maxHeartbeats 4000000 in
theorem c_rA_l1 {z : Nat} (D : xD) (r : xR) (hr : r 73 0 = some 74) (n p : Nat) (hT : tOk (D 74) n) (h1 : D 73 1 = (n : Int)) (h2 : D 73 2 = (p : Int)) (hp : p ≤ 80) (hc : tCh (D 74) n p = 108) (hg : tDg (D 74) n (p + 1)) (hs : tCh (D 74) n (p + 1 + 1) ≠ 64) : MX 4 mX1_readAct [.ref 73] (356, z) D r (356, z) (xEs (vi 0) (fun D' => rdP D D' n p) r) := by
  refine MX.of (by decide +kernel) [some (.ref 73)] rfl (Nat.le_of_ble_eq_true rfl) ?_
  intro γ hX hRX
  refine v_aload_n (q := 1) hX dX1_readAct_0 rfl rfl rfl ?_
  refine v_aload_n (q := 2) hX dX1_readAct_1 rfl rfl rfl ?_
  refine w_callV (q := 5) hX (c_X1_signHere _ _ hr n p hT h1 h2 hp) rfl kV_X1_signHere rfl (by decide) lk_X1_34 (by decide) rfl oPad (Nat.le_of_ble_eq_true rfl) dX1_readAct_2 rfl ?_
  have hcr := tCh_r (p := p) hT
  have hn80 := hT.1
  refine w_putC (q := 8) hX fl_X1_38 rfl (by omega) oPad dX1_readAct_5 rfl ?_
  have e0 := pS.kd h1 h2 (tCh (D 74) n p)
  have f0 : xu D 73 3 (tCh (D 74) n p) 73 3 = tCh (D 74) n p := xu_at _ _ _ _
  generalize xu D 73 3 (tCh (D 74) n p) = E0 at e0 f0 ⊢
  refine v_aload_n (q := 9) hX dX1_readAct_8 rfl rfl rfl ?_
  refine v_bipush (q := 11) hX (by decide) dX1_readAct_9 rfl ?_
  refine w_callV (q := 14) hX (c_X1_readSign0 E0 _ hr n (p) (by rw [e0.T]; exact hT) e0.2.1 e0.2.2 (by omega) 102 (by decide) (by rw [e0.T]; exact (by rw [hc]; decide))) rfl kV_X1_readSign rfl (by decide) lk_X1_42 (by decide) rfl oPad (Nat.le_of_ble_eq_true rfl) dX1_readAct_11 rfl ?_
  refine v_if_ne (q := 17) (tgt := 26) hX ⟨by omega, by omega⟩ dX1_readAct_14 (by decide) rfl (fun h14 => ?_) (fun h14 => ?_)
  · exact absurd h14 (by decide)
  · refine v_aload_n (q := 18) hX dX1_readAct_17 rfl rfl rfl ?_
    refine v_bipush (q := 20) hX (by decide) dX1_readAct_18 rfl ?_
    refine w_callVe (q := 23) hX (c_X1_readSign E0 _ hr n (p) (by rw [e0.T]; exact hT) e0.2.1 e0.2.2 (by omega) 108 (by decide) (by rw [e0.T]; exact hc)) rfl kV_X1_readSign rfl (by decide) lk_X1_42 (by decide) rfl oPad (Nat.le_of_ble_eq_true rfl) dX1_readAct_20 rfl (fun D1 hD1 => ?_)
    obtain ⟨e1, f1⟩ := e0.sg hD1
    have l1 := tCh_lt (by decide) (hc)
    refine v_if_eq (q := 26) (tgt := 71) hX ⟨by omega, by omega⟩ dX1_readAct_23 (by decide) rfl (fun h23 => ?_) (fun h23 => ?_)
    · exact absurd h23 (by decide)
    · refine v_aload_n (q := 27) hX dX1_readAct_26 rfl rfl rfl ?_
      refine w_callVe (q := 30) hX (c_X1_readProduct D1 _ hr n (p + 1) (by rw [e1.T]; exact hT) e1.2.1 e1.2.2 (by omega) (by rw [e1.T]; exact hg)) rfl kV_X1_readProduct rfl (by decide) lk_X1_46 (by decide) rfl oPad (Nat.le_of_ble_eq_true rfl) dX1_readAct_27 rfl (fun D2 hD2 => ?_)
      obtain ⟨e2, v2, f2⟩ := e1.pr hD2
      rw [e1.T] at v2
      have l2 := tDg_lt hg
      refine v_if_eq (q := 33) (tgt := 69) hX ⟨by omega, by omega⟩ dX1_readAct_30 (by decide) rfl (fun h30 => ?_) (fun h30 => ?_)
      · exact absurd h30 (by decide)
      · refine v_aload_n (q := 34) hX dX1_readAct_33 rfl rfl rfl ?_
        refine v_bipush (q := 36) hX (by decide) dX1_readAct_34 rfl ?_
        refine w_callV (q := 39) hX (c_X1_readSign0 D2 _ hr n (p + 1 + 1) (by rw [e2.T]; exact hT) e2.2.1 e2.2.2 (by omega) 64 (by decide) (by rw [e2.T]; exact hs)) rfl kV_X1_readSign rfl (by decide) lk_X1_42 (by decide) rfl oPad (Nat.le_of_ble_eq_true rfl) dX1_readAct_36 rfl ?_
        refine v_if_eq (q := 42) (tgt := 69) hX ⟨by omega, by omega⟩ dX1_readAct_39 (by decide) rfl (fun h39 => ?_) (fun h39 => ?_)
        · refine v_iconst (q := 70) hX dX1_readAct_69 rfl ?_
          refine v_ireturn hX hRX rfl (rfl) dX1_readAct_70 rfl ?_
          have hA := tAct_f1 (Or.inr hc) hg hs
          refine ⟨rfl, rfl, ?_, fun h => absurd (h.symm.trans hA.1) (by decide)⟩
          rw [hA.2]; exact e2
        · exact absurd h39 (by decide)

set_option maxRecDepth 100000 in
set_option maxHeartbeats 4000000 in
theorem c_rA_l2 {z : Nat} (D : xD) (r : xR) (hr : r 73 0 = some 74) (n p : Nat) (hT : tOk (D 74) n) (h1 : D 73 1 = (n : Int)) (h2 : D 73 2 = (p : Int)) (hp : p ≤ 80) (hc : tCh (D 74) n p = 108) (hg : tDg (D 74) n (p + 1)) (hs : tCh (D 74) n (p + 1 + 1) = 64) (hg2 : ¬ tDg (D 74) n (p + 1 + 1 + 1)) : MX 4 mX1_readAct [.ref 73] (356, z) D r (356, z) (xEs (vi 0) (fun D' => rdP D D' n p) r) := by
  refine MX.of (by decide +kernel) [some (.ref 73)] rfl (Nat.le_of_ble_eq_true rfl) ?_
  intro γ hX hRX
  refine v_aload_n (q := 1) hX dX1_readAct_0 rfl rfl rfl ?_
  refine v_aload_n (q := 2) hX dX1_readAct_1 rfl rfl rfl ?_
  refine w_callV (q := 5) hX (c_X1_signHere _ _ hr n p hT h1 h2 hp) rfl kV_X1_signHere rfl (by decide) lk_X1_34 (by decide) rfl oPad (Nat.le_of_ble_eq_true rfl) dX1_readAct_2 rfl ?_
  have hcr := tCh_r (p := p) hT
  have hn80 := hT.1
  refine w_putC (q := 8) hX fl_X1_38 rfl (by omega) oPad dX1_readAct_5 rfl ?_
  have e0 := pS.kd h1 h2 (tCh (D 74) n p)
  have f0 : xu D 73 3 (tCh (D 74) n p) 73 3 = tCh (D 74) n p := xu_at _ _ _ _
  generalize xu D 73 3 (tCh (D 74) n p) = E0 at e0 f0 ⊢
  refine v_aload_n (q := 9) hX dX1_readAct_8 rfl rfl rfl ?_
  refine v_bipush (q := 11) hX (by decide) dX1_readAct_9 rfl ?_
  refine w_callV (q := 14) hX (c_X1_readSign0 E0 _ hr n (p) (by rw [e0.T]; exact hT) e0.2.1 e0.2.2 (by omega) 102 (by decide) (by rw [e0.T]; exact (by rw [hc]; decide))) rfl kV_X1_readSign rfl (by decide) lk_X1_42 (by decide) rfl oPad (Nat.le_of_ble_eq_true rfl) dX1_readAct_11 rfl ?_
  refine v_if_ne (q := 17) (tgt := 26) hX ⟨by omega, by omega⟩ dX1_readAct_14 (by decide) rfl (fun h14 => ?_) (fun h14 => ?_)
  · exact absurd h14 (by decide)
  · refine v_aload_n (q := 18) hX dX1_readAct_17 rfl rfl rfl ?_
    refine v_bipush (q := 20) hX (by decide) dX1_readAct_18 rfl ?_
    refine w_callVe (q := 23) hX (c_X1_readSign E0 _ hr n (p) (by rw [e0.T]; exact hT) e0.2.1 e0.2.2 (by omega) 108 (by decide) (by rw [e0.T]; exact hc)) rfl kV_X1_readSign rfl (by decide) lk_X1_42 (by decide) rfl oPad (Nat.le_of_ble_eq_true rfl) dX1_readAct_20 rfl (fun D1 hD1 => ?_)
    obtain ⟨e1, f1⟩ := e0.sg hD1
    have l1 := tCh_lt (by decide) (hc)
    refine v_if_eq (q := 26) (tgt := 71) hX ⟨by omega, by omega⟩ dX1_readAct_23 (by decide) rfl (fun h23 => ?_) (fun h23 => ?_)
    · exact absurd h23 (by decide)
    · refine v_aload_n (q := 27) hX dX1_readAct_26 rfl rfl rfl ?_
      refine w_callVe (q := 30) hX (c_X1_readProduct D1 _ hr n (p + 1) (by rw [e1.T]; exact hT) e1.2.1 e1.2.2 (by omega) (by rw [e1.T]; exact hg)) rfl kV_X1_readProduct rfl (by decide) lk_X1_46 (by decide) rfl oPad (Nat.le_of_ble_eq_true rfl) dX1_readAct_27 rfl (fun D2 hD2 => ?_)
      obtain ⟨e2, v2, f2⟩ := e1.pr hD2
      rw [e1.T] at v2
      have l2 := tDg_lt hg
      refine v_if_eq (q := 33) (tgt := 69) hX ⟨by omega, by omega⟩ dX1_readAct_30 (by decide) rfl (fun h30 => ?_) (fun h30 => ?_)
      · exact absurd h30 (by decide)
      · refine v_aload_n (q := 34) hX dX1_readAct_33 rfl rfl rfl ?_
        refine v_bipush (q := 36) hX (by decide) dX1_readAct_34 rfl ?_
        refine w_callVe (q := 39) hX (c_X1_readSign D2 _ hr n (p + 1 + 1) (by rw [e2.T]; exact hT) e2.2.1 e2.2.2 (by omega) 64 (by decide) (by rw [e2.T]; exact hs)) rfl kV_X1_readSign rfl (by decide) lk_X1_42 (by decide) rfl oPad (Nat.le_of_ble_eq_true rfl) dX1_readAct_36 rfl (fun D3 hD3 => ?_)
        obtain ⟨e3, f3⟩ := e2.sg hD3
        have l3 := tCh_lt (by decide) (hs)
        refine v_if_eq (q := 42) (tgt := 69) hX ⟨by omega, by omega⟩ dX1_readAct_39 (by decide) rfl (fun h39 => ?_) (fun h39 => ?_)
        · exact absurd h39 (by decide)
        · refine v_aload_n (q := 43) hX dX1_readAct_42 rfl rfl rfl ?_
          refine w_callVe (q := 46) hX (c_X1_readWeek0 D3 _ hr n (p + 1 + 1 + 1) (by rw [e3.T]; exact hT) e3.2.1 e3.2.2 (by omega) (by rw [e3.T]; exact hg2)) rfl kV_X1_readWeek rfl (by decide) lk_X1_50 (by decide) rfl oPad (Nat.le_of_ble_eq_true rfl) dX1_readAct_43 rfl (fun D4 hD4 => ?_)
          have e4 := e3.w0 hD4
          refine v_if_eq (q := 49) (tgt := 69) hX ⟨by omega, by omega⟩ dX1_readAct_46 (by decide) rfl (fun h46 => ?_) (fun h46 => ?_)
          · refine v_iconst (q := 70) hX dX1_readAct_69 rfl ?_
            refine v_ireturn hX hRX rfl (rfl) dX1_readAct_70 rfl ?_
            have hA := tAct_f2 (Or.inr hc) hg hs hg2
            refine ⟨rfl, rfl, ?_, fun h => absurd (h.symm.trans hA.1) (by decide)⟩
            rw [hA.2]; exact e4
          · exact absurd h46 (by decide)

set_option maxRecDepth 100000 in
set_option maxHeartbeats 4000000 in
theorem c_rA_l3 {z : Nat} (D : xD) (r : xR) (hr : r 73 0 = some 74) (n p : Nat) (hT : tOk (D 74) n) (h1 : D 73 1 = (n : Int)) (h2 : D 73 2 = (p : Int)) (hp : p ≤ 80) (hc : tCh (D 74) n p = 108) (hg : tDg (D 74) n (p + 1)) (hs : tCh (D 74) n (p + 1 + 1) = 64) (hg2 : tDg (D 74) n (p + 1 + 1 + 1)) (hs2 : tCh (D 74) n (tNum (D 74) n (p + 1 + 1 + 1)).2.2 ≠ 42) : MX 4 mX1_readAct [.ref 73] (356, z) D r (356, z) (xEs (vi 0) (fun D' => rdP D D' n p) r) := by
  refine MX.of (by decide +kernel) [some (.ref 73)] rfl (Nat.le_of_ble_eq_true rfl) ?_
  intro γ hX hRX
  refine v_aload_n (q := 1) hX dX1_readAct_0 rfl rfl rfl ?_
  refine v_aload_n (q := 2) hX dX1_readAct_1 rfl rfl rfl ?_
  refine w_callV (q := 5) hX (c_X1_signHere _ _ hr n p hT h1 h2 hp) rfl kV_X1_signHere rfl (by decide) lk_X1_34 (by decide) rfl oPad (Nat.le_of_ble_eq_true rfl) dX1_readAct_2 rfl ?_
  have hcr := tCh_r (p := p) hT
  have hn80 := hT.1
  refine w_putC (q := 8) hX fl_X1_38 rfl (by omega) oPad dX1_readAct_5 rfl ?_
  have e0 := pS.kd h1 h2 (tCh (D 74) n p)
  have f0 : xu D 73 3 (tCh (D 74) n p) 73 3 = tCh (D 74) n p := xu_at _ _ _ _
  generalize xu D 73 3 (tCh (D 74) n p) = E0 at e0 f0 ⊢
  refine v_aload_n (q := 9) hX dX1_readAct_8 rfl rfl rfl ?_
  refine v_bipush (q := 11) hX (by decide) dX1_readAct_9 rfl ?_
  refine w_callV (q := 14) hX (c_X1_readSign0 E0 _ hr n (p) (by rw [e0.T]; exact hT) e0.2.1 e0.2.2 (by omega) 102 (by decide) (by rw [e0.T]; exact (by rw [hc]; decide))) rfl kV_X1_readSign rfl (by decide) lk_X1_42 (by decide) rfl oPad (Nat.le_of_ble_eq_true rfl) dX1_readAct_11 rfl ?_
  refine v_if_ne (q := 17) (tgt := 26) hX ⟨by omega, by omega⟩ dX1_readAct_14 (by decide) rfl (fun h14 => ?_) (fun h14 => ?_)
  · exact absurd h14 (by decide)
  · refine v_aload_n (q := 18) hX dX1_readAct_17 rfl rfl rfl ?_
    refine v_bipush (q := 20) hX (by decide) dX1_readAct_18 rfl ?_
    refine w_callVe (q := 23) hX (c_X1_readSign E0 _ hr n (p) (by rw [e0.T]; exact hT) e0.2.1 e0.2.2 (by omega) 108 (by decide) (by rw [e0.T]; exact hc)) rfl kV_X1_readSign rfl (by decide) lk_X1_42 (by decide) rfl oPad (Nat.le_of_ble_eq_true rfl) dX1_readAct_20 rfl (fun D1 hD1 => ?_)
    obtain ⟨e1, f1⟩ := e0.sg hD1
    have l1 := tCh_lt (by decide) (hc)
    refine v_if_eq (q := 26) (tgt := 71) hX ⟨by omega, by omega⟩ dX1_readAct_23 (by decide) rfl (fun h23 => ?_) (fun h23 => ?_)
    · exact absurd h23 (by decide)
    · refine v_aload_n (q := 27) hX dX1_readAct_26 rfl rfl rfl ?_
      refine w_callVe (q := 30) hX (c_X1_readProduct D1 _ hr n (p + 1) (by rw [e1.T]; exact hT) e1.2.1 e1.2.2 (by omega) (by rw [e1.T]; exact hg)) rfl kV_X1_readProduct rfl (by decide) lk_X1_46 (by decide) rfl oPad (Nat.le_of_ble_eq_true rfl) dX1_readAct_27 rfl (fun D2 hD2 => ?_)
      obtain ⟨e2, v2, f2⟩ := e1.pr hD2
      rw [e1.T] at v2
      have l2 := tDg_lt hg
      refine v_if_eq (q := 33) (tgt := 69) hX ⟨by omega, by omega⟩ dX1_readAct_30 (by decide) rfl (fun h30 => ?_) (fun h30 => ?_)
      · exact absurd h30 (by decide)
      · refine v_aload_n (q := 34) hX dX1_readAct_33 rfl rfl rfl ?_
        refine v_bipush (q := 36) hX (by decide) dX1_readAct_34 rfl ?_
        refine w_callVe (q := 39) hX (c_X1_readSign D2 _ hr n (p + 1 + 1) (by rw [e2.T]; exact hT) e2.2.1 e2.2.2 (by omega) 64 (by decide) (by rw [e2.T]; exact hs)) rfl kV_X1_readSign rfl (by decide) lk_X1_42 (by decide) rfl oPad (Nat.le_of_ble_eq_true rfl) dX1_readAct_36 rfl (fun D3 hD3 => ?_)
        obtain ⟨e3, f3⟩ := e2.sg hD3
        have l3 := tCh_lt (by decide) (hs)
        refine v_if_eq (q := 42) (tgt := 69) hX ⟨by omega, by omega⟩ dX1_readAct_39 (by decide) rfl (fun h39 => ?_) (fun h39 => ?_)
        · exact absurd h39 (by decide)
        · refine v_aload_n (q := 43) hX dX1_readAct_42 rfl rfl rfl ?_
          refine w_callVe (q := 46) hX (c_X1_readWeek D3 _ hr n (p + 1 + 1 + 1) (by rw [e3.T]; exact hT) e3.2.1 e3.2.2 (by omega) (by rw [e3.T]; exact hg2)) rfl kV_X1_readWeek rfl (by decide) lk_X1_50 (by decide) rfl oPad (Nat.le_of_ble_eq_true rfl) dX1_readAct_43 rfl (fun D4 hD4 => ?_)
          rw [e3.T] at hD4
          obtain ⟨e4, v4, f4⟩ := e3.wk hD4
          have l4 := tNum_le2 (T := D 74) (Nat.le_of_lt (tDg_lt hg2))
          refine v_if_eq (q := 49) (tgt := 69) hX ⟨by omega, by omega⟩ dX1_readAct_46 (by decide) rfl (fun h46 => ?_) (fun h46 => ?_)
          · exact absurd h46 (by decide)
          · refine v_aload_n (q := 50) hX dX1_readAct_49 rfl rfl rfl ?_
            refine v_bipush (q := 52) hX (by decide) dX1_readAct_50 rfl ?_
            refine w_callV (q := 55) hX (c_X1_readSign0 D4 _ hr n ((tNum (D 74) n (p + 1 + 1 + 1)).2.2) (by rw [e4.T]; exact hT) e4.2.1 e4.2.2 (by omega) 42 (by decide) (by rw [e4.T]; exact hs2)) rfl kV_X1_readSign rfl (by decide) lk_X1_42 (by decide) rfl oPad (Nat.le_of_ble_eq_true rfl) dX1_readAct_52 rfl ?_
            refine v_if_eq (q := 58) (tgt := 69) hX ⟨by omega, by omega⟩ dX1_readAct_55 (by decide) rfl (fun h55 => ?_) (fun h55 => ?_)
            · refine v_iconst (q := 70) hX dX1_readAct_69 rfl ?_
              refine v_ireturn hX hRX rfl (rfl) dX1_readAct_70 rfl ?_
              have hA := tAct_f3 (Or.inr hc) hg hs hs2
              refine ⟨rfl, rfl, ?_, fun h => absurd (h.symm.trans hA.1) (by decide)⟩
              rw [hA.2]; exact e4
            · exact absurd h55 (by decide)

set_option maxRecDepth 100000 in
set_option maxHeartbeats 4000000 in
theorem c_rA_l4 {z : Nat} (D : xD) (r : xR) (hr : r 73 0 = some 74) (n p : Nat) (hT : tOk (D 74) n) (h1 : D 73 1 = (n : Int)) (h2 : D 73 2 = (p : Int)) (hp : p ≤ 80) (hc : tCh (D 74) n p = 108) (hg : tDg (D 74) n (p + 1)) (hs : tCh (D 74) n (p + 1 + 1) = 64) (hg2 : tDg (D 74) n (p + 1 + 1 + 1)) (hs2 : tCh (D 74) n (tNum (D 74) n (p + 1 + 1 + 1)).2.2 = 42) (hg3 : ¬ tDg (D 74) n ((tNum (D 74) n (p + 1 + 1 + 1)).2.2 + 1)) : MX 4 mX1_readAct [.ref 73] (356, z) D r (356, z) (xEs (vi 0) (fun D' => rdP D D' n p) r) := by
  refine MX.of (by decide +kernel) [some (.ref 73)] rfl (Nat.le_of_ble_eq_true rfl) ?_
  intro γ hX hRX
  refine v_aload_n (q := 1) hX dX1_readAct_0 rfl rfl rfl ?_
  refine v_aload_n (q := 2) hX dX1_readAct_1 rfl rfl rfl ?_
  refine w_callV (q := 5) hX (c_X1_signHere _ _ hr n p hT h1 h2 hp) rfl kV_X1_signHere rfl (by decide) lk_X1_34 (by decide) rfl oPad (Nat.le_of_ble_eq_true rfl) dX1_readAct_2 rfl ?_
  have hcr := tCh_r (p := p) hT
  have hn80 := hT.1
  refine w_putC (q := 8) hX fl_X1_38 rfl (by omega) oPad dX1_readAct_5 rfl ?_
  have e0 := pS.kd h1 h2 (tCh (D 74) n p)
  have f0 : xu D 73 3 (tCh (D 74) n p) 73 3 = tCh (D 74) n p := xu_at _ _ _ _
  generalize xu D 73 3 (tCh (D 74) n p) = E0 at e0 f0 ⊢
  refine v_aload_n (q := 9) hX dX1_readAct_8 rfl rfl rfl ?_
  refine v_bipush (q := 11) hX (by decide) dX1_readAct_9 rfl ?_
  refine w_callV (q := 14) hX (c_X1_readSign0 E0 _ hr n (p) (by rw [e0.T]; exact hT) e0.2.1 e0.2.2 (by omega) 102 (by decide) (by rw [e0.T]; exact (by rw [hc]; decide))) rfl kV_X1_readSign rfl (by decide) lk_X1_42 (by decide) rfl oPad (Nat.le_of_ble_eq_true rfl) dX1_readAct_11 rfl ?_
  refine v_if_ne (q := 17) (tgt := 26) hX ⟨by omega, by omega⟩ dX1_readAct_14 (by decide) rfl (fun h14 => ?_) (fun h14 => ?_)
  · exact absurd h14 (by decide)
  · refine v_aload_n (q := 18) hX dX1_readAct_17 rfl rfl rfl ?_
    refine v_bipush (q := 20) hX (by decide) dX1_readAct_18 rfl ?_
    refine w_callVe (q := 23) hX (c_X1_readSign E0 _ hr n (p) (by rw [e0.T]; exact hT) e0.2.1 e0.2.2 (by omega) 108 (by decide) (by rw [e0.T]; exact hc)) rfl kV_X1_readSign rfl (by decide) lk_X1_42 (by decide) rfl oPad (Nat.le_of_ble_eq_true rfl) dX1_readAct_20 rfl (fun D1 hD1 => ?_)
    obtain ⟨e1, f1⟩ := e0.sg hD1
    have l1 := tCh_lt (by decide) (hc)
    refine v_if_eq (q := 26) (tgt := 71) hX ⟨by omega, by omega⟩ dX1_readAct_23 (by decide) rfl (fun h23 => ?_) (fun h23 => ?_)
    · exact absurd h23 (by decide)
    · refine v_aload_n (q := 27) hX dX1_readAct_26 rfl rfl rfl ?_
      refine w_callVe (q := 30) hX (c_X1_readProduct D1 _ hr n (p + 1) (by rw [e1.T]; exact hT) e1.2.1 e1.2.2 (by omega) (by rw [e1.T]; exact hg)) rfl kV_X1_readProduct rfl (by decide) lk_X1_46 (by decide) rfl oPad (Nat.le_of_ble_eq_true rfl) dX1_readAct_27 rfl (fun D2 hD2 => ?_)
      obtain ⟨e2, v2, f2⟩ := e1.pr hD2
      rw [e1.T] at v2
      have l2 := tDg_lt hg
      refine v_if_eq (q := 33) (tgt := 69) hX ⟨by omega, by omega⟩ dX1_readAct_30 (by decide) rfl (fun h30 => ?_) (fun h30 => ?_)
      · exact absurd h30 (by decide)
      · refine v_aload_n (q := 34) hX dX1_readAct_33 rfl rfl rfl ?_
        refine v_bipush (q := 36) hX (by decide) dX1_readAct_34 rfl ?_
        refine w_callVe (q := 39) hX (c_X1_readSign D2 _ hr n (p + 1 + 1) (by rw [e2.T]; exact hT) e2.2.1 e2.2.2 (by omega) 64 (by decide) (by rw [e2.T]; exact hs)) rfl kV_X1_readSign rfl (by decide) lk_X1_42 (by decide) rfl oPad (Nat.le_of_ble_eq_true rfl) dX1_readAct_36 rfl (fun D3 hD3 => ?_)
        obtain ⟨e3, f3⟩ := e2.sg hD3
        have l3 := tCh_lt (by decide) (hs)
        refine v_if_eq (q := 42) (tgt := 69) hX ⟨by omega, by omega⟩ dX1_readAct_39 (by decide) rfl (fun h39 => ?_) (fun h39 => ?_)
        · exact absurd h39 (by decide)
        · refine v_aload_n (q := 43) hX dX1_readAct_42 rfl rfl rfl ?_
          refine w_callVe (q := 46) hX (c_X1_readWeek D3 _ hr n (p + 1 + 1 + 1) (by rw [e3.T]; exact hT) e3.2.1 e3.2.2 (by omega) (by rw [e3.T]; exact hg2)) rfl kV_X1_readWeek rfl (by decide) lk_X1_50 (by decide) rfl oPad (Nat.le_of_ble_eq_true rfl) dX1_readAct_43 rfl (fun D4 hD4 => ?_)
          rw [e3.T] at hD4
          obtain ⟨e4, v4, f4⟩ := e3.wk hD4
          have l4 := tNum_le2 (T := D 74) (Nat.le_of_lt (tDg_lt hg2))
          refine v_if_eq (q := 49) (tgt := 69) hX ⟨by omega, by omega⟩ dX1_readAct_46 (by decide) rfl (fun h46 => ?_) (fun h46 => ?_)
          · exact absurd h46 (by decide)
          · refine v_aload_n (q := 50) hX dX1_readAct_49 rfl rfl rfl ?_
            refine v_bipush (q := 52) hX (by decide) dX1_readAct_50 rfl ?_
            refine w_callVe (q := 55) hX (c_X1_readSign D4 _ hr n ((tNum (D 74) n (p + 1 + 1 + 1)).2.2) (by rw [e4.T]; exact hT) e4.2.1 e4.2.2 (by omega) 42 (by decide) (by rw [e4.T]; exact hs2)) rfl kV_X1_readSign rfl (by decide) lk_X1_42 (by decide) rfl oPad (Nat.le_of_ble_eq_true rfl) dX1_readAct_52 rfl (fun D5 hD5 => ?_)
            obtain ⟨e5, f5⟩ := e4.sg hD5
            have l5 := tCh_lt (by decide) (hs2)
            refine v_if_eq (q := 58) (tgt := 69) hX ⟨by omega, by omega⟩ dX1_readAct_55 (by decide) rfl (fun h55 => ?_) (fun h55 => ?_)
            · exact absurd h55 (by decide)
            · refine v_aload_n (q := 59) hX dX1_readAct_58 rfl rfl rfl ?_
              refine w_callV (q := 62) hX (c_X1_readNumber0 D5 _ hr n ((tNum (D 74) n (p + 1 + 1 + 1)).2.2 + 1) (by rw [e5.T]; exact hT) e5.2.1 e5.2.2 (by omega) (by rw [e5.T]; exact hg3)) rfl kV_X1_readNumber rfl (by decide) lk_X1_53 (by decide) rfl oPad (Nat.le_of_ble_eq_true rfl) dX1_readAct_59 rfl ?_
              refine v_if_eq (q := 65) (tgt := 69) hX ⟨by omega, by omega⟩ dX1_readAct_62 (by decide) rfl (fun h62 => ?_) (fun h62 => ?_)
              · refine v_iconst (q := 70) hX dX1_readAct_69 rfl ?_
                refine v_ireturn hX hRX rfl (rfl) dX1_readAct_70 rfl ?_
                have hA := tAct_f4 (Or.inr hc) hg hs hg2 hs2 hg3
                refine ⟨rfl, rfl, ?_, fun h => absurd (h.symm.trans hA.1) (by decide)⟩
                rw [hA.2]; exact e5
              · exact absurd h62 (by decide)

set_option maxRecDepth 100000 in
set_option maxHeartbeats 4000000 in
theorem c_rA_l5 {z : Nat} (D : xD) (r : xR) (hr : r 73 0 = some 74) (n p : Nat) (hT : tOk (D 74) n) (h1 : D 73 1 = (n : Int)) (h2 : D 73 2 = (p : Int)) (hp : p ≤ 80) (hc : tCh (D 74) n p = 108) (hg : tDg (D 74) n (p + 1)) (hs : tCh (D 74) n (p + 1 + 1) = 64) (hg2 : tDg (D 74) n (p + 1 + 1 + 1)) (hs2 : tCh (D 74) n (tNum (D 74) n (p + 1 + 1 + 1)).2.2 = 42) (hg3 : tDg (D 74) n ((tNum (D 74) n (p + 1 + 1 + 1)).2.2 + 1)) : MX 4 mX1_readAct [.ref 73] (356, z) D r (356, z) (xEs (vi 1) (fun D' => rdP D D' n p) r) := by
  refine MX.of (by decide +kernel) [some (.ref 73)] rfl (Nat.le_of_ble_eq_true rfl) ?_
  intro γ hX hRX
  refine v_aload_n (q := 1) hX dX1_readAct_0 rfl rfl rfl ?_
  refine v_aload_n (q := 2) hX dX1_readAct_1 rfl rfl rfl ?_
  refine w_callV (q := 5) hX (c_X1_signHere _ _ hr n p hT h1 h2 hp) rfl kV_X1_signHere rfl (by decide) lk_X1_34 (by decide) rfl oPad (Nat.le_of_ble_eq_true rfl) dX1_readAct_2 rfl ?_
  have hcr := tCh_r (p := p) hT
  have hn80 := hT.1
  refine w_putC (q := 8) hX fl_X1_38 rfl (by omega) oPad dX1_readAct_5 rfl ?_
  have e0 := pS.kd h1 h2 (tCh (D 74) n p)
  have f0 : xu D 73 3 (tCh (D 74) n p) 73 3 = tCh (D 74) n p := xu_at _ _ _ _
  generalize xu D 73 3 (tCh (D 74) n p) = E0 at e0 f0 ⊢
  refine v_aload_n (q := 9) hX dX1_readAct_8 rfl rfl rfl ?_
  refine v_bipush (q := 11) hX (by decide) dX1_readAct_9 rfl ?_
  refine w_callV (q := 14) hX (c_X1_readSign0 E0 _ hr n (p) (by rw [e0.T]; exact hT) e0.2.1 e0.2.2 (by omega) 102 (by decide) (by rw [e0.T]; exact (by rw [hc]; decide))) rfl kV_X1_readSign rfl (by decide) lk_X1_42 (by decide) rfl oPad (Nat.le_of_ble_eq_true rfl) dX1_readAct_11 rfl ?_
  refine v_if_ne (q := 17) (tgt := 26) hX ⟨by omega, by omega⟩ dX1_readAct_14 (by decide) rfl (fun h14 => ?_) (fun h14 => ?_)
  · exact absurd h14 (by decide)
  · refine v_aload_n (q := 18) hX dX1_readAct_17 rfl rfl rfl ?_
    refine v_bipush (q := 20) hX (by decide) dX1_readAct_18 rfl ?_
    refine w_callVe (q := 23) hX (c_X1_readSign E0 _ hr n (p) (by rw [e0.T]; exact hT) e0.2.1 e0.2.2 (by omega) 108 (by decide) (by rw [e0.T]; exact hc)) rfl kV_X1_readSign rfl (by decide) lk_X1_42 (by decide) rfl oPad (Nat.le_of_ble_eq_true rfl) dX1_readAct_20 rfl (fun D1 hD1 => ?_)
    obtain ⟨e1, f1⟩ := e0.sg hD1
    have l1 := tCh_lt (by decide) (hc)
    refine v_if_eq (q := 26) (tgt := 71) hX ⟨by omega, by omega⟩ dX1_readAct_23 (by decide) rfl (fun h23 => ?_) (fun h23 => ?_)
    · exact absurd h23 (by decide)
    · refine v_aload_n (q := 27) hX dX1_readAct_26 rfl rfl rfl ?_
      refine w_callVe (q := 30) hX (c_X1_readProduct D1 _ hr n (p + 1) (by rw [e1.T]; exact hT) e1.2.1 e1.2.2 (by omega) (by rw [e1.T]; exact hg)) rfl kV_X1_readProduct rfl (by decide) lk_X1_46 (by decide) rfl oPad (Nat.le_of_ble_eq_true rfl) dX1_readAct_27 rfl (fun D2 hD2 => ?_)
      obtain ⟨e2, v2, f2⟩ := e1.pr hD2
      rw [e1.T] at v2
      have l2 := tDg_lt hg
      refine v_if_eq (q := 33) (tgt := 69) hX ⟨by omega, by omega⟩ dX1_readAct_30 (by decide) rfl (fun h30 => ?_) (fun h30 => ?_)
      · exact absurd h30 (by decide)
      · refine v_aload_n (q := 34) hX dX1_readAct_33 rfl rfl rfl ?_
        refine v_bipush (q := 36) hX (by decide) dX1_readAct_34 rfl ?_
        refine w_callVe (q := 39) hX (c_X1_readSign D2 _ hr n (p + 1 + 1) (by rw [e2.T]; exact hT) e2.2.1 e2.2.2 (by omega) 64 (by decide) (by rw [e2.T]; exact hs)) rfl kV_X1_readSign rfl (by decide) lk_X1_42 (by decide) rfl oPad (Nat.le_of_ble_eq_true rfl) dX1_readAct_36 rfl (fun D3 hD3 => ?_)
        obtain ⟨e3, f3⟩ := e2.sg hD3
        have l3 := tCh_lt (by decide) (hs)
        refine v_if_eq (q := 42) (tgt := 69) hX ⟨by omega, by omega⟩ dX1_readAct_39 (by decide) rfl (fun h39 => ?_) (fun h39 => ?_)
        · exact absurd h39 (by decide)
        · refine v_aload_n (q := 43) hX dX1_readAct_42 rfl rfl rfl ?_
          refine w_callVe (q := 46) hX (c_X1_readWeek D3 _ hr n (p + 1 + 1 + 1) (by rw [e3.T]; exact hT) e3.2.1 e3.2.2 (by omega) (by rw [e3.T]; exact hg2)) rfl kV_X1_readWeek rfl (by decide) lk_X1_50 (by decide) rfl oPad (Nat.le_of_ble_eq_true rfl) dX1_readAct_43 rfl (fun D4 hD4 => ?_)
          rw [e3.T] at hD4
          obtain ⟨e4, v4, f4⟩ := e3.wk hD4
          have l4 := tNum_le2 (T := D 74) (Nat.le_of_lt (tDg_lt hg2))
          refine v_if_eq (q := 49) (tgt := 69) hX ⟨by omega, by omega⟩ dX1_readAct_46 (by decide) rfl (fun h46 => ?_) (fun h46 => ?_)
          · exact absurd h46 (by decide)
          · refine v_aload_n (q := 50) hX dX1_readAct_49 rfl rfl rfl ?_
            refine v_bipush (q := 52) hX (by decide) dX1_readAct_50 rfl ?_
            refine w_callVe (q := 55) hX (c_X1_readSign D4 _ hr n ((tNum (D 74) n (p + 1 + 1 + 1)).2.2) (by rw [e4.T]; exact hT) e4.2.1 e4.2.2 (by omega) 42 (by decide) (by rw [e4.T]; exact hs2)) rfl kV_X1_readSign rfl (by decide) lk_X1_42 (by decide) rfl oPad (Nat.le_of_ble_eq_true rfl) dX1_readAct_52 rfl (fun D5 hD5 => ?_)
            obtain ⟨e5, f5⟩ := e4.sg hD5
            have l5 := tCh_lt (by decide) (hs2)
            refine v_if_eq (q := 58) (tgt := 69) hX ⟨by omega, by omega⟩ dX1_readAct_55 (by decide) rfl (fun h55 => ?_) (fun h55 => ?_)
            · exact absurd h55 (by decide)
            · refine v_aload_n (q := 59) hX dX1_readAct_58 rfl rfl rfl ?_
              refine w_callVe (q := 62) hX (c_X1_readNumber D5 _ hr n ((tNum (D 74) n (p + 1 + 1 + 1)).2.2 + 1) (by rw [e5.T]; exact hT) e5.2.1 e5.2.2 (by omega) (by rw [e5.T]; exact hg3)) rfl kV_X1_readNumber rfl (by decide) lk_X1_53 (by decide) rfl oPad (Nat.le_of_ble_eq_true rfl) dX1_readAct_59 rfl (fun D6 hD6 => ?_)
              rw [e5.T] at hD6
              obtain ⟨e6, v6, f6⟩ := e5.nm hD6
              refine v_if_eq (q := 65) (tgt := 69) hX ⟨by omega, by omega⟩ dX1_readAct_62 (by decide) rfl (fun h62 => ?_) (fun h62 => ?_)
              · exact absurd h62 (by decide)
              · refine v_iconst (q := 66) hX dX1_readAct_65 rfl ?_
                refine v_goto (tgt := 70) hX dX1_readAct_66 (by decide) ?_
                refine v_ireturn hX hRX rfl (rfl) dX1_readAct_70 rfl ?_
                have hA := tAct_f5 (Or.inr hc) hg hs hg2 hs2
                refine ⟨rfl, rfl, ?_, fun _ => ?_⟩
                · rw [hA]; exact e6
                · rw [hA]; exact ⟨((((((f6 3 (by decide) (by decide)).trans (f5 3 (by decide))).trans (f4 3 (by decide) (by decide) (by decide))).trans (f3 3 (by decide))).trans (f2 3 (by decide) (by decide))).trans (f1 3 (by decide))).trans f0, fun h => by have h : tCh (D 74) n p = 110 := h; omega, fun _ => ⟨((((f6 4 (by decide) (by decide)).trans (f5 4 (by decide))).trans (f4 4 (by decide) (by decide) (by decide))).trans (f3 4 (by decide))).trans v2, v6⟩, fun _ => ((f6 5 (by decide) (by decide)).trans (f5 5 (by decide))).trans v4⟩

set_option maxRecDepth 100000 in
set_option maxHeartbeats 4000000 in
theorem c_rA_a0 {z : Nat} (D : xD) (r : xR) (hr : r 73 0 = some 74) (n p : Nat) (hT : tOk (D 74) n) (h1 : D 73 1 = (n : Int)) (h2 : D 73 2 = (p : Int)) (hp : p ≤ 80) (hc : tCh (D 74) n p = 97) (hg : ¬ tDg (D 74) n (p + 1)) : MX 4 mX1_readAct [.ref 73] (356, z) D r (356, z) (xEs (vi 0) (fun D' => rdP D D' n p) r) := by
  refine MX.of (by decide +kernel) [some (.ref 73)] rfl (Nat.le_of_ble_eq_true rfl) ?_
  intro γ hX hRX
  refine v_aload_n (q := 1) hX dX1_readAct_0 rfl rfl rfl ?_
  refine v_aload_n (q := 2) hX dX1_readAct_1 rfl rfl rfl ?_
  refine w_callV (q := 5) hX (c_X1_signHere _ _ hr n p hT h1 h2 hp) rfl kV_X1_signHere rfl (by decide) lk_X1_34 (by decide) rfl oPad (Nat.le_of_ble_eq_true rfl) dX1_readAct_2 rfl ?_
  have hcr := tCh_r (p := p) hT
  have hn80 := hT.1
  refine w_putC (q := 8) hX fl_X1_38 rfl (by omega) oPad dX1_readAct_5 rfl ?_
  have e0 := pS.kd h1 h2 (tCh (D 74) n p)
  have f0 : xu D 73 3 (tCh (D 74) n p) 73 3 = tCh (D 74) n p := xu_at _ _ _ _
  generalize xu D 73 3 (tCh (D 74) n p) = E0 at e0 f0 ⊢
  refine v_aload_n (q := 9) hX dX1_readAct_8 rfl rfl rfl ?_
  refine v_bipush (q := 11) hX (by decide) dX1_readAct_9 rfl ?_
  refine w_callV (q := 14) hX (c_X1_readSign0 E0 _ hr n (p) (by rw [e0.T]; exact hT) e0.2.1 e0.2.2 (by omega) 102 (by decide) (by rw [e0.T]; exact (by rw [hc]; decide))) rfl kV_X1_readSign rfl (by decide) lk_X1_42 (by decide) rfl oPad (Nat.le_of_ble_eq_true rfl) dX1_readAct_11 rfl ?_
  refine v_if_ne (q := 17) (tgt := 26) hX ⟨by omega, by omega⟩ dX1_readAct_14 (by decide) rfl (fun h14 => ?_) (fun h14 => ?_)
  · exact absurd h14 (by decide)
  · refine v_aload_n (q := 18) hX dX1_readAct_17 rfl rfl rfl ?_
    refine v_bipush (q := 20) hX (by decide) dX1_readAct_18 rfl ?_
    refine w_callV (q := 23) hX (c_X1_readSign0 E0 _ hr n (p) (by rw [e0.T]; exact hT) e0.2.1 e0.2.2 (by omega) 108 (by decide) (by rw [e0.T]; exact (by rw [hc]; decide))) rfl kV_X1_readSign rfl (by decide) lk_X1_42 (by decide) rfl oPad (Nat.le_of_ble_eq_true rfl) dX1_readAct_20 rfl ?_
    refine v_if_eq (q := 26) (tgt := 71) hX ⟨by omega, by omega⟩ dX1_readAct_23 (by decide) rfl (fun h23 => ?_) (fun h23 => ?_)
    · refine v_aload_n (q := 72) hX dX1_readAct_71 rfl rfl rfl ?_
      refine v_bipush (q := 74) hX (by decide) dX1_readAct_72 rfl ?_
      refine w_callVe (q := 77) hX (c_X1_readSign E0 _ hr n (p) (by rw [e0.T]; exact hT) e0.2.1 e0.2.2 (by omega) 97 (by decide) (by rw [e0.T]; exact hc)) rfl kV_X1_readSign rfl (by decide) lk_X1_42 (by decide) rfl oPad (Nat.le_of_ble_eq_true rfl) dX1_readAct_74 rfl (fun D1 hD1 => ?_)
      obtain ⟨e1, f1⟩ := e0.sg hD1
      have l1 := tCh_lt (by decide) (hc)
      refine v_if_eq (q := 80) (tgt := 109) hX ⟨by omega, by omega⟩ dX1_readAct_77 (by decide) rfl (fun h77 => ?_) (fun h77 => ?_)
      · exact absurd h77 (by decide)
      · refine v_aload_n (q := 81) hX dX1_readAct_80 rfl rfl rfl ?_
        refine w_callVe (q := 84) hX (c_X1_readProduct0 D1 _ hr n (p + 1) (by rw [e1.T]; exact hT) e1.2.1 e1.2.2 (by omega) (by rw [e1.T]; exact hg)) rfl kV_X1_readProduct rfl (by decide) lk_X1_46 (by decide) rfl oPad (Nat.le_of_ble_eq_true rfl) dX1_readAct_81 rfl (fun D2 hD2 => ?_)
        have e2 := e1.p0 hD2
        refine v_if_eq (q := 87) (tgt := 107) hX ⟨by omega, by omega⟩ dX1_readAct_84 (by decide) rfl (fun h84 => ?_) (fun h84 => ?_)
        · refine v_iconst (q := 108) hX dX1_readAct_107 rfl ?_
          refine v_ireturn hX hRX rfl (rfl) dX1_readAct_108 rfl ?_
          have hA := tAct_a0 hc hg
          refine ⟨rfl, rfl, ?_, fun h => absurd (h.symm.trans hA.1) (by decide)⟩
          rw [hA.2]; exact e2
        · exact absurd h84 (by decide)
    · exact absurd h23 (by decide)

set_option maxRecDepth 100000 in
set_option maxHeartbeats 4000000 in
theorem c_rA_a1 {z : Nat} (D : xD) (r : xR) (hr : r 73 0 = some 74) (n p : Nat) (hT : tOk (D 74) n) (h1 : D 73 1 = (n : Int)) (h2 : D 73 2 = (p : Int)) (hp : p ≤ 80) (hc : tCh (D 74) n p = 97) (hg : tDg (D 74) n (p + 1)) (hs : tCh (D 74) n (p + 1 + 1) ≠ 42) : MX 4 mX1_readAct [.ref 73] (356, z) D r (356, z) (xEs (vi 0) (fun D' => rdP D D' n p) r) := by
  refine MX.of (by decide +kernel) [some (.ref 73)] rfl (Nat.le_of_ble_eq_true rfl) ?_
  intro γ hX hRX
  refine v_aload_n (q := 1) hX dX1_readAct_0 rfl rfl rfl ?_
  refine v_aload_n (q := 2) hX dX1_readAct_1 rfl rfl rfl ?_
  refine w_callV (q := 5) hX (c_X1_signHere _ _ hr n p hT h1 h2 hp) rfl kV_X1_signHere rfl (by decide) lk_X1_34 (by decide) rfl oPad (Nat.le_of_ble_eq_true rfl) dX1_readAct_2 rfl ?_
  have hcr := tCh_r (p := p) hT
  have hn80 := hT.1
  refine w_putC (q := 8) hX fl_X1_38 rfl (by omega) oPad dX1_readAct_5 rfl ?_
  have e0 := pS.kd h1 h2 (tCh (D 74) n p)
  have f0 : xu D 73 3 (tCh (D 74) n p) 73 3 = tCh (D 74) n p := xu_at _ _ _ _
  generalize xu D 73 3 (tCh (D 74) n p) = E0 at e0 f0 ⊢
  refine v_aload_n (q := 9) hX dX1_readAct_8 rfl rfl rfl ?_
  refine v_bipush (q := 11) hX (by decide) dX1_readAct_9 rfl ?_
  refine w_callV (q := 14) hX (c_X1_readSign0 E0 _ hr n (p) (by rw [e0.T]; exact hT) e0.2.1 e0.2.2 (by omega) 102 (by decide) (by rw [e0.T]; exact (by rw [hc]; decide))) rfl kV_X1_readSign rfl (by decide) lk_X1_42 (by decide) rfl oPad (Nat.le_of_ble_eq_true rfl) dX1_readAct_11 rfl ?_
  refine v_if_ne (q := 17) (tgt := 26) hX ⟨by omega, by omega⟩ dX1_readAct_14 (by decide) rfl (fun h14 => ?_) (fun h14 => ?_)
  · exact absurd h14 (by decide)
  · refine v_aload_n (q := 18) hX dX1_readAct_17 rfl rfl rfl ?_
    refine v_bipush (q := 20) hX (by decide) dX1_readAct_18 rfl ?_
    refine w_callV (q := 23) hX (c_X1_readSign0 E0 _ hr n (p) (by rw [e0.T]; exact hT) e0.2.1 e0.2.2 (by omega) 108 (by decide) (by rw [e0.T]; exact (by rw [hc]; decide))) rfl kV_X1_readSign rfl (by decide) lk_X1_42 (by decide) rfl oPad (Nat.le_of_ble_eq_true rfl) dX1_readAct_20 rfl ?_
    refine v_if_eq (q := 26) (tgt := 71) hX ⟨by omega, by omega⟩ dX1_readAct_23 (by decide) rfl (fun h23 => ?_) (fun h23 => ?_)
    · refine v_aload_n (q := 72) hX dX1_readAct_71 rfl rfl rfl ?_
      refine v_bipush (q := 74) hX (by decide) dX1_readAct_72 rfl ?_
      refine w_callVe (q := 77) hX (c_X1_readSign E0 _ hr n (p) (by rw [e0.T]; exact hT) e0.2.1 e0.2.2 (by omega) 97 (by decide) (by rw [e0.T]; exact hc)) rfl kV_X1_readSign rfl (by decide) lk_X1_42 (by decide) rfl oPad (Nat.le_of_ble_eq_true rfl) dX1_readAct_74 rfl (fun D1 hD1 => ?_)
      obtain ⟨e1, f1⟩ := e0.sg hD1
      have l1 := tCh_lt (by decide) (hc)
      refine v_if_eq (q := 80) (tgt := 109) hX ⟨by omega, by omega⟩ dX1_readAct_77 (by decide) rfl (fun h77 => ?_) (fun h77 => ?_)
      · exact absurd h77 (by decide)
      · refine v_aload_n (q := 81) hX dX1_readAct_80 rfl rfl rfl ?_
        refine w_callVe (q := 84) hX (c_X1_readProduct D1 _ hr n (p + 1) (by rw [e1.T]; exact hT) e1.2.1 e1.2.2 (by omega) (by rw [e1.T]; exact hg)) rfl kV_X1_readProduct rfl (by decide) lk_X1_46 (by decide) rfl oPad (Nat.le_of_ble_eq_true rfl) dX1_readAct_81 rfl (fun D2 hD2 => ?_)
        obtain ⟨e2, v2, f2⟩ := e1.pr hD2
        rw [e1.T] at v2
        have l2 := tDg_lt hg
        refine v_if_eq (q := 87) (tgt := 107) hX ⟨by omega, by omega⟩ dX1_readAct_84 (by decide) rfl (fun h84 => ?_) (fun h84 => ?_)
        · exact absurd h84 (by decide)
        · refine v_aload_n (q := 88) hX dX1_readAct_87 rfl rfl rfl ?_
          refine v_bipush (q := 90) hX (by decide) dX1_readAct_88 rfl ?_
          refine w_callV (q := 93) hX (c_X1_readSign0 D2 _ hr n (p + 1 + 1) (by rw [e2.T]; exact hT) e2.2.1 e2.2.2 (by omega) 42 (by decide) (by rw [e2.T]; exact hs)) rfl kV_X1_readSign rfl (by decide) lk_X1_42 (by decide) rfl oPad (Nat.le_of_ble_eq_true rfl) dX1_readAct_90 rfl ?_
          refine v_if_eq (q := 96) (tgt := 107) hX ⟨by omega, by omega⟩ dX1_readAct_93 (by decide) rfl (fun h93 => ?_) (fun h93 => ?_)
          · refine v_iconst (q := 108) hX dX1_readAct_107 rfl ?_
            refine v_ireturn hX hRX rfl (rfl) dX1_readAct_108 rfl ?_
            have hA := tAct_a1 hc hg hs
            refine ⟨rfl, rfl, ?_, fun h => absurd (h.symm.trans hA.1) (by decide)⟩
            rw [hA.2]; exact e2
          · exact absurd h93 (by decide)
    · exact absurd h23 (by decide)

set_option maxRecDepth 100000 in
set_option maxHeartbeats 4000000 in
theorem c_rA_a2 {z : Nat} (D : xD) (r : xR) (hr : r 73 0 = some 74) (n p : Nat) (hT : tOk (D 74) n) (h1 : D 73 1 = (n : Int)) (h2 : D 73 2 = (p : Int)) (hp : p ≤ 80) (hc : tCh (D 74) n p = 97) (hg : tDg (D 74) n (p + 1)) (hs : tCh (D 74) n (p + 1 + 1) = 42) (hg2 : ¬ tDg (D 74) n (p + 1 + 1 + 1)) : MX 4 mX1_readAct [.ref 73] (356, z) D r (356, z) (xEs (vi 0) (fun D' => rdP D D' n p) r) := by
  refine MX.of (by decide +kernel) [some (.ref 73)] rfl (Nat.le_of_ble_eq_true rfl) ?_
  intro γ hX hRX
  refine v_aload_n (q := 1) hX dX1_readAct_0 rfl rfl rfl ?_
  refine v_aload_n (q := 2) hX dX1_readAct_1 rfl rfl rfl ?_
  refine w_callV (q := 5) hX (c_X1_signHere _ _ hr n p hT h1 h2 hp) rfl kV_X1_signHere rfl (by decide) lk_X1_34 (by decide) rfl oPad (Nat.le_of_ble_eq_true rfl) dX1_readAct_2 rfl ?_
  have hcr := tCh_r (p := p) hT
  have hn80 := hT.1
  refine w_putC (q := 8) hX fl_X1_38 rfl (by omega) oPad dX1_readAct_5 rfl ?_
  have e0 := pS.kd h1 h2 (tCh (D 74) n p)
  have f0 : xu D 73 3 (tCh (D 74) n p) 73 3 = tCh (D 74) n p := xu_at _ _ _ _
  generalize xu D 73 3 (tCh (D 74) n p) = E0 at e0 f0 ⊢
  refine v_aload_n (q := 9) hX dX1_readAct_8 rfl rfl rfl ?_
  refine v_bipush (q := 11) hX (by decide) dX1_readAct_9 rfl ?_
  refine w_callV (q := 14) hX (c_X1_readSign0 E0 _ hr n (p) (by rw [e0.T]; exact hT) e0.2.1 e0.2.2 (by omega) 102 (by decide) (by rw [e0.T]; exact (by rw [hc]; decide))) rfl kV_X1_readSign rfl (by decide) lk_X1_42 (by decide) rfl oPad (Nat.le_of_ble_eq_true rfl) dX1_readAct_11 rfl ?_
  refine v_if_ne (q := 17) (tgt := 26) hX ⟨by omega, by omega⟩ dX1_readAct_14 (by decide) rfl (fun h14 => ?_) (fun h14 => ?_)
  · exact absurd h14 (by decide)
  · refine v_aload_n (q := 18) hX dX1_readAct_17 rfl rfl rfl ?_
    refine v_bipush (q := 20) hX (by decide) dX1_readAct_18 rfl ?_
    refine w_callV (q := 23) hX (c_X1_readSign0 E0 _ hr n (p) (by rw [e0.T]; exact hT) e0.2.1 e0.2.2 (by omega) 108 (by decide) (by rw [e0.T]; exact (by rw [hc]; decide))) rfl kV_X1_readSign rfl (by decide) lk_X1_42 (by decide) rfl oPad (Nat.le_of_ble_eq_true rfl) dX1_readAct_20 rfl ?_
    refine v_if_eq (q := 26) (tgt := 71) hX ⟨by omega, by omega⟩ dX1_readAct_23 (by decide) rfl (fun h23 => ?_) (fun h23 => ?_)
    · refine v_aload_n (q := 72) hX dX1_readAct_71 rfl rfl rfl ?_
      refine v_bipush (q := 74) hX (by decide) dX1_readAct_72 rfl ?_
      refine w_callVe (q := 77) hX (c_X1_readSign E0 _ hr n (p) (by rw [e0.T]; exact hT) e0.2.1 e0.2.2 (by omega) 97 (by decide) (by rw [e0.T]; exact hc)) rfl kV_X1_readSign rfl (by decide) lk_X1_42 (by decide) rfl oPad (Nat.le_of_ble_eq_true rfl) dX1_readAct_74 rfl (fun D1 hD1 => ?_)
      obtain ⟨e1, f1⟩ := e0.sg hD1
      have l1 := tCh_lt (by decide) (hc)
      refine v_if_eq (q := 80) (tgt := 109) hX ⟨by omega, by omega⟩ dX1_readAct_77 (by decide) rfl (fun h77 => ?_) (fun h77 => ?_)
      · exact absurd h77 (by decide)
      · refine v_aload_n (q := 81) hX dX1_readAct_80 rfl rfl rfl ?_
        refine w_callVe (q := 84) hX (c_X1_readProduct D1 _ hr n (p + 1) (by rw [e1.T]; exact hT) e1.2.1 e1.2.2 (by omega) (by rw [e1.T]; exact hg)) rfl kV_X1_readProduct rfl (by decide) lk_X1_46 (by decide) rfl oPad (Nat.le_of_ble_eq_true rfl) dX1_readAct_81 rfl (fun D2 hD2 => ?_)
        obtain ⟨e2, v2, f2⟩ := e1.pr hD2
        rw [e1.T] at v2
        have l2 := tDg_lt hg
        refine v_if_eq (q := 87) (tgt := 107) hX ⟨by omega, by omega⟩ dX1_readAct_84 (by decide) rfl (fun h84 => ?_) (fun h84 => ?_)
        · exact absurd h84 (by decide)
        · refine v_aload_n (q := 88) hX dX1_readAct_87 rfl rfl rfl ?_
          refine v_bipush (q := 90) hX (by decide) dX1_readAct_88 rfl ?_
          refine w_callVe (q := 93) hX (c_X1_readSign D2 _ hr n (p + 1 + 1) (by rw [e2.T]; exact hT) e2.2.1 e2.2.2 (by omega) 42 (by decide) (by rw [e2.T]; exact hs)) rfl kV_X1_readSign rfl (by decide) lk_X1_42 (by decide) rfl oPad (Nat.le_of_ble_eq_true rfl) dX1_readAct_90 rfl (fun D3 hD3 => ?_)
          obtain ⟨e3, f3⟩ := e2.sg hD3
          have l3 := tCh_lt (by decide) (hs)
          refine v_if_eq (q := 96) (tgt := 107) hX ⟨by omega, by omega⟩ dX1_readAct_93 (by decide) rfl (fun h93 => ?_) (fun h93 => ?_)
          · exact absurd h93 (by decide)
          · refine v_aload_n (q := 97) hX dX1_readAct_96 rfl rfl rfl ?_
            refine w_callV (q := 100) hX (c_X1_readNumber0 D3 _ hr n (p + 1 + 1 + 1) (by rw [e3.T]; exact hT) e3.2.1 e3.2.2 (by omega) (by rw [e3.T]; exact hg2)) rfl kV_X1_readNumber rfl (by decide) lk_X1_53 (by decide) rfl oPad (Nat.le_of_ble_eq_true rfl) dX1_readAct_97 rfl ?_
            refine v_if_eq (q := 103) (tgt := 107) hX ⟨by omega, by omega⟩ dX1_readAct_100 (by decide) rfl (fun h100 => ?_) (fun h100 => ?_)
            · refine v_iconst (q := 108) hX dX1_readAct_107 rfl ?_
              refine v_ireturn hX hRX rfl (rfl) dX1_readAct_108 rfl ?_
              have hA := tAct_a2 hc hg hs hg2
              refine ⟨rfl, rfl, ?_, fun h => absurd (h.symm.trans hA.1) (by decide)⟩
              rw [hA.2]; exact e3
            · exact absurd h100 (by decide)
    · exact absurd h23 (by decide)

set_option maxRecDepth 100000 in
set_option maxHeartbeats 4000000 in
theorem c_rA_a3 {z : Nat} (D : xD) (r : xR) (hr : r 73 0 = some 74) (n p : Nat) (hT : tOk (D 74) n) (h1 : D 73 1 = (n : Int)) (h2 : D 73 2 = (p : Int)) (hp : p ≤ 80) (hc : tCh (D 74) n p = 97) (hg : tDg (D 74) n (p + 1)) (hs : tCh (D 74) n (p + 1 + 1) = 42) (hg2 : tDg (D 74) n (p + 1 + 1 + 1)) : MX 4 mX1_readAct [.ref 73] (356, z) D r (356, z) (xEs (vi 1) (fun D' => rdP D D' n p) r) := by
  refine MX.of (by decide +kernel) [some (.ref 73)] rfl (Nat.le_of_ble_eq_true rfl) ?_
  intro γ hX hRX
  refine v_aload_n (q := 1) hX dX1_readAct_0 rfl rfl rfl ?_
  refine v_aload_n (q := 2) hX dX1_readAct_1 rfl rfl rfl ?_
  refine w_callV (q := 5) hX (c_X1_signHere _ _ hr n p hT h1 h2 hp) rfl kV_X1_signHere rfl (by decide) lk_X1_34 (by decide) rfl oPad (Nat.le_of_ble_eq_true rfl) dX1_readAct_2 rfl ?_
  have hcr := tCh_r (p := p) hT
  have hn80 := hT.1
  refine w_putC (q := 8) hX fl_X1_38 rfl (by omega) oPad dX1_readAct_5 rfl ?_
  have e0 := pS.kd h1 h2 (tCh (D 74) n p)
  have f0 : xu D 73 3 (tCh (D 74) n p) 73 3 = tCh (D 74) n p := xu_at _ _ _ _
  generalize xu D 73 3 (tCh (D 74) n p) = E0 at e0 f0 ⊢
  refine v_aload_n (q := 9) hX dX1_readAct_8 rfl rfl rfl ?_
  refine v_bipush (q := 11) hX (by decide) dX1_readAct_9 rfl ?_
  refine w_callV (q := 14) hX (c_X1_readSign0 E0 _ hr n (p) (by rw [e0.T]; exact hT) e0.2.1 e0.2.2 (by omega) 102 (by decide) (by rw [e0.T]; exact (by rw [hc]; decide))) rfl kV_X1_readSign rfl (by decide) lk_X1_42 (by decide) rfl oPad (Nat.le_of_ble_eq_true rfl) dX1_readAct_11 rfl ?_
  refine v_if_ne (q := 17) (tgt := 26) hX ⟨by omega, by omega⟩ dX1_readAct_14 (by decide) rfl (fun h14 => ?_) (fun h14 => ?_)
  · exact absurd h14 (by decide)
  · refine v_aload_n (q := 18) hX dX1_readAct_17 rfl rfl rfl ?_
    refine v_bipush (q := 20) hX (by decide) dX1_readAct_18 rfl ?_
    refine w_callV (q := 23) hX (c_X1_readSign0 E0 _ hr n (p) (by rw [e0.T]; exact hT) e0.2.1 e0.2.2 (by omega) 108 (by decide) (by rw [e0.T]; exact (by rw [hc]; decide))) rfl kV_X1_readSign rfl (by decide) lk_X1_42 (by decide) rfl oPad (Nat.le_of_ble_eq_true rfl) dX1_readAct_20 rfl ?_
    refine v_if_eq (q := 26) (tgt := 71) hX ⟨by omega, by omega⟩ dX1_readAct_23 (by decide) rfl (fun h23 => ?_) (fun h23 => ?_)
    · refine v_aload_n (q := 72) hX dX1_readAct_71 rfl rfl rfl ?_
      refine v_bipush (q := 74) hX (by decide) dX1_readAct_72 rfl ?_
      refine w_callVe (q := 77) hX (c_X1_readSign E0 _ hr n (p) (by rw [e0.T]; exact hT) e0.2.1 e0.2.2 (by omega) 97 (by decide) (by rw [e0.T]; exact hc)) rfl kV_X1_readSign rfl (by decide) lk_X1_42 (by decide) rfl oPad (Nat.le_of_ble_eq_true rfl) dX1_readAct_74 rfl (fun D1 hD1 => ?_)
      obtain ⟨e1, f1⟩ := e0.sg hD1
      have l1 := tCh_lt (by decide) (hc)
      refine v_if_eq (q := 80) (tgt := 109) hX ⟨by omega, by omega⟩ dX1_readAct_77 (by decide) rfl (fun h77 => ?_) (fun h77 => ?_)
      · exact absurd h77 (by decide)
      · refine v_aload_n (q := 81) hX dX1_readAct_80 rfl rfl rfl ?_
        refine w_callVe (q := 84) hX (c_X1_readProduct D1 _ hr n (p + 1) (by rw [e1.T]; exact hT) e1.2.1 e1.2.2 (by omega) (by rw [e1.T]; exact hg)) rfl kV_X1_readProduct rfl (by decide) lk_X1_46 (by decide) rfl oPad (Nat.le_of_ble_eq_true rfl) dX1_readAct_81 rfl (fun D2 hD2 => ?_)
        obtain ⟨e2, v2, f2⟩ := e1.pr hD2
        rw [e1.T] at v2
        have l2 := tDg_lt hg
        refine v_if_eq (q := 87) (tgt := 107) hX ⟨by omega, by omega⟩ dX1_readAct_84 (by decide) rfl (fun h84 => ?_) (fun h84 => ?_)
        · exact absurd h84 (by decide)
        · refine v_aload_n (q := 88) hX dX1_readAct_87 rfl rfl rfl ?_
          refine v_bipush (q := 90) hX (by decide) dX1_readAct_88 rfl ?_
          refine w_callVe (q := 93) hX (c_X1_readSign D2 _ hr n (p + 1 + 1) (by rw [e2.T]; exact hT) e2.2.1 e2.2.2 (by omega) 42 (by decide) (by rw [e2.T]; exact hs)) rfl kV_X1_readSign rfl (by decide) lk_X1_42 (by decide) rfl oPad (Nat.le_of_ble_eq_true rfl) dX1_readAct_90 rfl (fun D3 hD3 => ?_)
          obtain ⟨e3, f3⟩ := e2.sg hD3
          have l3 := tCh_lt (by decide) (hs)
          refine v_if_eq (q := 96) (tgt := 107) hX ⟨by omega, by omega⟩ dX1_readAct_93 (by decide) rfl (fun h93 => ?_) (fun h93 => ?_)
          · exact absurd h93 (by decide)
          · refine v_aload_n (q := 97) hX dX1_readAct_96 rfl rfl rfl ?_
            refine w_callVe (q := 100) hX (c_X1_readNumber D3 _ hr n (p + 1 + 1 + 1) (by rw [e3.T]; exact hT) e3.2.1 e3.2.2 (by omega) (by rw [e3.T]; exact hg2)) rfl kV_X1_readNumber rfl (by decide) lk_X1_53 (by decide) rfl oPad (Nat.le_of_ble_eq_true rfl) dX1_readAct_97 rfl (fun D4 hD4 => ?_)
            rw [e3.T] at hD4
            obtain ⟨e4, v4, f4⟩ := e3.nm hD4
            refine v_if_eq (q := 103) (tgt := 107) hX ⟨by omega, by omega⟩ dX1_readAct_100 (by decide) rfl (fun h100 => ?_) (fun h100 => ?_)
            · exact absurd h100 (by decide)
            · refine v_iconst (q := 104) hX dX1_readAct_103 rfl ?_
              refine v_goto (tgt := 108) hX dX1_readAct_104 (by decide) ?_
              refine v_ireturn hX hRX rfl (rfl) dX1_readAct_108 rfl ?_
              have hA := tAct_a3 hc hg hs
              refine ⟨rfl, rfl, ?_, fun _ => ?_⟩
              · rw [hA]; exact e4
              · rw [hA]; exact ⟨((((f4 3 (by decide) (by decide)).trans (f3 3 (by decide))).trans (f2 3 (by decide) (by decide))).trans (f1 3 (by decide))).trans f0, fun h => by have h : tCh (D 74) n p = 110 := h; omega, fun _ => ⟨((f4 4 (by decide) (by decide)).trans (f3 4 (by decide))).trans v2, v4⟩, fun h => by have h : tCh (D 74) n p = 102 ∨ tCh (D 74) n p = 108 := h; omega⟩
    · exact absurd h23 (by decide)

set_option maxRecDepth 100000 in
set_option maxHeartbeats 4000000 in
theorem c_rA_n0 {z : Nat} (D : xD) (r : xR) (hr : r 73 0 = some 74) (n p : Nat) (hT : tOk (D 74) n) (h1 : D 73 1 = (n : Int)) (h2 : D 73 2 = (p : Int)) (hp : p ≤ 80) (hc : tCh (D 74) n p = 110) (hg : ¬ tDg (D 74) n (p + 1)) : MX 4 mX1_readAct [.ref 73] (356, z) D r (356, z) (xEs (vi 0) (fun D' => rdP D D' n p) r) := by
  refine MX.of (by decide +kernel) [some (.ref 73)] rfl (Nat.le_of_ble_eq_true rfl) ?_
  intro γ hX hRX
  refine v_aload_n (q := 1) hX dX1_readAct_0 rfl rfl rfl ?_
  refine v_aload_n (q := 2) hX dX1_readAct_1 rfl rfl rfl ?_
  refine w_callV (q := 5) hX (c_X1_signHere _ _ hr n p hT h1 h2 hp) rfl kV_X1_signHere rfl (by decide) lk_X1_34 (by decide) rfl oPad (Nat.le_of_ble_eq_true rfl) dX1_readAct_2 rfl ?_
  have hcr := tCh_r (p := p) hT
  have hn80 := hT.1
  refine w_putC (q := 8) hX fl_X1_38 rfl (by omega) oPad dX1_readAct_5 rfl ?_
  have e0 := pS.kd h1 h2 (tCh (D 74) n p)
  have f0 : xu D 73 3 (tCh (D 74) n p) 73 3 = tCh (D 74) n p := xu_at _ _ _ _
  generalize xu D 73 3 (tCh (D 74) n p) = E0 at e0 f0 ⊢
  refine v_aload_n (q := 9) hX dX1_readAct_8 rfl rfl rfl ?_
  refine v_bipush (q := 11) hX (by decide) dX1_readAct_9 rfl ?_
  refine w_callV (q := 14) hX (c_X1_readSign0 E0 _ hr n (p) (by rw [e0.T]; exact hT) e0.2.1 e0.2.2 (by omega) 102 (by decide) (by rw [e0.T]; exact (by rw [hc]; decide))) rfl kV_X1_readSign rfl (by decide) lk_X1_42 (by decide) rfl oPad (Nat.le_of_ble_eq_true rfl) dX1_readAct_11 rfl ?_
  refine v_if_ne (q := 17) (tgt := 26) hX ⟨by omega, by omega⟩ dX1_readAct_14 (by decide) rfl (fun h14 => ?_) (fun h14 => ?_)
  · exact absurd h14 (by decide)
  · refine v_aload_n (q := 18) hX dX1_readAct_17 rfl rfl rfl ?_
    refine v_bipush (q := 20) hX (by decide) dX1_readAct_18 rfl ?_
    refine w_callV (q := 23) hX (c_X1_readSign0 E0 _ hr n (p) (by rw [e0.T]; exact hT) e0.2.1 e0.2.2 (by omega) 108 (by decide) (by rw [e0.T]; exact (by rw [hc]; decide))) rfl kV_X1_readSign rfl (by decide) lk_X1_42 (by decide) rfl oPad (Nat.le_of_ble_eq_true rfl) dX1_readAct_20 rfl ?_
    refine v_if_eq (q := 26) (tgt := 71) hX ⟨by omega, by omega⟩ dX1_readAct_23 (by decide) rfl (fun h23 => ?_) (fun h23 => ?_)
    · refine v_aload_n (q := 72) hX dX1_readAct_71 rfl rfl rfl ?_
      refine v_bipush (q := 74) hX (by decide) dX1_readAct_72 rfl ?_
      refine w_callV (q := 77) hX (c_X1_readSign0 E0 _ hr n (p) (by rw [e0.T]; exact hT) e0.2.1 e0.2.2 (by omega) 97 (by decide) (by rw [e0.T]; exact (by rw [hc]; decide))) rfl kV_X1_readSign rfl (by decide) lk_X1_42 (by decide) rfl oPad (Nat.le_of_ble_eq_true rfl) dX1_readAct_74 rfl ?_
      refine v_if_eq (q := 80) (tgt := 109) hX ⟨by omega, by omega⟩ dX1_readAct_77 (by decide) rfl (fun h77 => ?_) (fun h77 => ?_)
      · refine v_aload_n (q := 110) hX dX1_readAct_109 rfl rfl rfl ?_
        refine v_bipush (q := 112) hX (by decide) dX1_readAct_110 rfl ?_
        refine w_callVe (q := 115) hX (c_X1_readSign E0 _ hr n (p) (by rw [e0.T]; exact hT) e0.2.1 e0.2.2 (by omega) 110 (by decide) (by rw [e0.T]; exact hc)) rfl kV_X1_readSign rfl (by decide) lk_X1_42 (by decide) rfl oPad (Nat.le_of_ble_eq_true rfl) dX1_readAct_112 rfl (fun D1 hD1 => ?_)
        obtain ⟨e1, f1⟩ := e0.sg hD1
        have l1 := tCh_lt (by decide) (hc)
        refine v_if_eq (q := 118) (tgt := 123) hX ⟨by omega, by omega⟩ dX1_readAct_115 (by decide) rfl (fun h115 => ?_) (fun h115 => ?_)
        · exact absurd h115 (by decide)
        · refine v_aload_n (q := 119) hX dX1_readAct_118 rfl rfl rfl ?_
          refine w_callV (q := 122) hX (c_X1_readNumber0 D1 _ hr n (p + 1) (by rw [e1.T]; exact hT) e1.2.1 e1.2.2 (by omega) (by rw [e1.T]; exact hg)) rfl kV_X1_readNumber rfl (by decide) lk_X1_53 (by decide) rfl oPad (Nat.le_of_ble_eq_true rfl) dX1_readAct_119 rfl ?_
          refine v_ireturn hX hRX rfl (rfl) dX1_readAct_122 rfl ?_
          have hA := tAct_n0 hc hg
          refine ⟨rfl, rfl, ?_, fun h => absurd (h.symm.trans hA.1) (by decide)⟩
          rw [hA.2]; exact e1
      · exact absurd h77 (by decide)
    · exact absurd h23 (by decide)

set_option maxRecDepth 100000 in
set_option maxHeartbeats 4000000 in
theorem c_rA_n1 {z : Nat} (D : xD) (r : xR) (hr : r 73 0 = some 74) (n p : Nat) (hT : tOk (D 74) n) (h1 : D 73 1 = (n : Int)) (h2 : D 73 2 = (p : Int)) (hp : p ≤ 80) (hc : tCh (D 74) n p = 110) (hg : tDg (D 74) n (p + 1)) : MX 4 mX1_readAct [.ref 73] (356, z) D r (356, z) (xEs (vi 1) (fun D' => rdP D D' n p) r) := by
  refine MX.of (by decide +kernel) [some (.ref 73)] rfl (Nat.le_of_ble_eq_true rfl) ?_
  intro γ hX hRX
  refine v_aload_n (q := 1) hX dX1_readAct_0 rfl rfl rfl ?_
  refine v_aload_n (q := 2) hX dX1_readAct_1 rfl rfl rfl ?_
  refine w_callV (q := 5) hX (c_X1_signHere _ _ hr n p hT h1 h2 hp) rfl kV_X1_signHere rfl (by decide) lk_X1_34 (by decide) rfl oPad (Nat.le_of_ble_eq_true rfl) dX1_readAct_2 rfl ?_
  have hcr := tCh_r (p := p) hT
  have hn80 := hT.1
  refine w_putC (q := 8) hX fl_X1_38 rfl (by omega) oPad dX1_readAct_5 rfl ?_
  have e0 := pS.kd h1 h2 (tCh (D 74) n p)
  have f0 : xu D 73 3 (tCh (D 74) n p) 73 3 = tCh (D 74) n p := xu_at _ _ _ _
  generalize xu D 73 3 (tCh (D 74) n p) = E0 at e0 f0 ⊢
  refine v_aload_n (q := 9) hX dX1_readAct_8 rfl rfl rfl ?_
  refine v_bipush (q := 11) hX (by decide) dX1_readAct_9 rfl ?_
  refine w_callV (q := 14) hX (c_X1_readSign0 E0 _ hr n (p) (by rw [e0.T]; exact hT) e0.2.1 e0.2.2 (by omega) 102 (by decide) (by rw [e0.T]; exact (by rw [hc]; decide))) rfl kV_X1_readSign rfl (by decide) lk_X1_42 (by decide) rfl oPad (Nat.le_of_ble_eq_true rfl) dX1_readAct_11 rfl ?_
  refine v_if_ne (q := 17) (tgt := 26) hX ⟨by omega, by omega⟩ dX1_readAct_14 (by decide) rfl (fun h14 => ?_) (fun h14 => ?_)
  · exact absurd h14 (by decide)
  · refine v_aload_n (q := 18) hX dX1_readAct_17 rfl rfl rfl ?_
    refine v_bipush (q := 20) hX (by decide) dX1_readAct_18 rfl ?_
    refine w_callV (q := 23) hX (c_X1_readSign0 E0 _ hr n (p) (by rw [e0.T]; exact hT) e0.2.1 e0.2.2 (by omega) 108 (by decide) (by rw [e0.T]; exact (by rw [hc]; decide))) rfl kV_X1_readSign rfl (by decide) lk_X1_42 (by decide) rfl oPad (Nat.le_of_ble_eq_true rfl) dX1_readAct_20 rfl ?_
    refine v_if_eq (q := 26) (tgt := 71) hX ⟨by omega, by omega⟩ dX1_readAct_23 (by decide) rfl (fun h23 => ?_) (fun h23 => ?_)
    · refine v_aload_n (q := 72) hX dX1_readAct_71 rfl rfl rfl ?_
      refine v_bipush (q := 74) hX (by decide) dX1_readAct_72 rfl ?_
      refine w_callV (q := 77) hX (c_X1_readSign0 E0 _ hr n (p) (by rw [e0.T]; exact hT) e0.2.1 e0.2.2 (by omega) 97 (by decide) (by rw [e0.T]; exact (by rw [hc]; decide))) rfl kV_X1_readSign rfl (by decide) lk_X1_42 (by decide) rfl oPad (Nat.le_of_ble_eq_true rfl) dX1_readAct_74 rfl ?_
      refine v_if_eq (q := 80) (tgt := 109) hX ⟨by omega, by omega⟩ dX1_readAct_77 (by decide) rfl (fun h77 => ?_) (fun h77 => ?_)
      · refine v_aload_n (q := 110) hX dX1_readAct_109 rfl rfl rfl ?_
        refine v_bipush (q := 112) hX (by decide) dX1_readAct_110 rfl ?_
        refine w_callVe (q := 115) hX (c_X1_readSign E0 _ hr n (p) (by rw [e0.T]; exact hT) e0.2.1 e0.2.2 (by omega) 110 (by decide) (by rw [e0.T]; exact hc)) rfl kV_X1_readSign rfl (by decide) lk_X1_42 (by decide) rfl oPad (Nat.le_of_ble_eq_true rfl) dX1_readAct_112 rfl (fun D1 hD1 => ?_)
        obtain ⟨e1, f1⟩ := e0.sg hD1
        have l1 := tCh_lt (by decide) (hc)
        refine v_if_eq (q := 118) (tgt := 123) hX ⟨by omega, by omega⟩ dX1_readAct_115 (by decide) rfl (fun h115 => ?_) (fun h115 => ?_)
        · exact absurd h115 (by decide)
        · refine v_aload_n (q := 119) hX dX1_readAct_118 rfl rfl rfl ?_
          refine w_callVe (q := 122) hX (c_X1_readNumber D1 _ hr n (p + 1) (by rw [e1.T]; exact hT) e1.2.1 e1.2.2 (by omega) (by rw [e1.T]; exact hg)) rfl kV_X1_readNumber rfl (by decide) lk_X1_53 (by decide) rfl oPad (Nat.le_of_ble_eq_true rfl) dX1_readAct_119 rfl (fun D2 hD2 => ?_)
          rw [e1.T] at hD2
          obtain ⟨e2, v2, f2⟩ := e1.nm hD2
          refine v_ireturn hX hRX rfl (rfl) dX1_readAct_122 rfl ?_
          have hA := tAct_n hc
          refine ⟨rfl, rfl, ?_, fun _ => ?_⟩
          · rw [hA]; exact e2
          · rw [hA]; exact ⟨((f2 3 (by decide) (by decide)).trans (f1 3 (by decide))).trans f0, fun _ => v2, fun h => by have h : tCh (D 74) n p = 102 ∨ tCh (D 74) n p = 97 ∨ tCh (D 74) n p = 108 := h; omega, fun h => by have h : tCh (D 74) n p = 102 ∨ tCh (D 74) n p = 108 := h; omega⟩
      · exact absurd h77 (by decide)
    · exact absurd h23 (by decide)

set_option maxRecDepth 100000 in
set_option maxHeartbeats 4000000 in
theorem c_rA_p {z : Nat} (D : xD) (r : xR) (hr : r 73 0 = some 74) (n p : Nat) (hT : tOk (D 74) n) (h1 : D 73 1 = (n : Int)) (h2 : D 73 2 = (p : Int)) (hp : p ≤ 80) (hc : tCh (D 74) n p = 112) : MX 4 mX1_readAct [.ref 73] (356, z) D r (356, z) (xEs (vi 1) (fun D' => rdP D D' n p) r) := by
  refine MX.of (by decide +kernel) [some (.ref 73)] rfl (Nat.le_of_ble_eq_true rfl) ?_
  intro γ hX hRX
  refine v_aload_n (q := 1) hX dX1_readAct_0 rfl rfl rfl ?_
  refine v_aload_n (q := 2) hX dX1_readAct_1 rfl rfl rfl ?_
  refine w_callV (q := 5) hX (c_X1_signHere _ _ hr n p hT h1 h2 hp) rfl kV_X1_signHere rfl (by decide) lk_X1_34 (by decide) rfl oPad (Nat.le_of_ble_eq_true rfl) dX1_readAct_2 rfl ?_
  have hcr := tCh_r (p := p) hT
  have hn80 := hT.1
  refine w_putC (q := 8) hX fl_X1_38 rfl (by omega) oPad dX1_readAct_5 rfl ?_
  have e0 := pS.kd h1 h2 (tCh (D 74) n p)
  have f0 : xu D 73 3 (tCh (D 74) n p) 73 3 = tCh (D 74) n p := xu_at _ _ _ _
  generalize xu D 73 3 (tCh (D 74) n p) = E0 at e0 f0 ⊢
  refine v_aload_n (q := 9) hX dX1_readAct_8 rfl rfl rfl ?_
  refine v_bipush (q := 11) hX (by decide) dX1_readAct_9 rfl ?_
  refine w_callV (q := 14) hX (c_X1_readSign0 E0 _ hr n (p) (by rw [e0.T]; exact hT) e0.2.1 e0.2.2 (by omega) 102 (by decide) (by rw [e0.T]; exact (by rw [hc]; decide))) rfl kV_X1_readSign rfl (by decide) lk_X1_42 (by decide) rfl oPad (Nat.le_of_ble_eq_true rfl) dX1_readAct_11 rfl ?_
  refine v_if_ne (q := 17) (tgt := 26) hX ⟨by omega, by omega⟩ dX1_readAct_14 (by decide) rfl (fun h14 => ?_) (fun h14 => ?_)
  · exact absurd h14 (by decide)
  · refine v_aload_n (q := 18) hX dX1_readAct_17 rfl rfl rfl ?_
    refine v_bipush (q := 20) hX (by decide) dX1_readAct_18 rfl ?_
    refine w_callV (q := 23) hX (c_X1_readSign0 E0 _ hr n (p) (by rw [e0.T]; exact hT) e0.2.1 e0.2.2 (by omega) 108 (by decide) (by rw [e0.T]; exact (by rw [hc]; decide))) rfl kV_X1_readSign rfl (by decide) lk_X1_42 (by decide) rfl oPad (Nat.le_of_ble_eq_true rfl) dX1_readAct_20 rfl ?_
    refine v_if_eq (q := 26) (tgt := 71) hX ⟨by omega, by omega⟩ dX1_readAct_23 (by decide) rfl (fun h23 => ?_) (fun h23 => ?_)
    · refine v_aload_n (q := 72) hX dX1_readAct_71 rfl rfl rfl ?_
      refine v_bipush (q := 74) hX (by decide) dX1_readAct_72 rfl ?_
      refine w_callV (q := 77) hX (c_X1_readSign0 E0 _ hr n (p) (by rw [e0.T]; exact hT) e0.2.1 e0.2.2 (by omega) 97 (by decide) (by rw [e0.T]; exact (by rw [hc]; decide))) rfl kV_X1_readSign rfl (by decide) lk_X1_42 (by decide) rfl oPad (Nat.le_of_ble_eq_true rfl) dX1_readAct_74 rfl ?_
      refine v_if_eq (q := 80) (tgt := 109) hX ⟨by omega, by omega⟩ dX1_readAct_77 (by decide) rfl (fun h77 => ?_) (fun h77 => ?_)
      · refine v_aload_n (q := 110) hX dX1_readAct_109 rfl rfl rfl ?_
        refine v_bipush (q := 112) hX (by decide) dX1_readAct_110 rfl ?_
        refine w_callV (q := 115) hX (c_X1_readSign0 E0 _ hr n (p) (by rw [e0.T]; exact hT) e0.2.1 e0.2.2 (by omega) 110 (by decide) (by rw [e0.T]; exact (by rw [hc]; decide))) rfl kV_X1_readSign rfl (by decide) lk_X1_42 (by decide) rfl oPad (Nat.le_of_ble_eq_true rfl) dX1_readAct_112 rfl ?_
        refine v_if_eq (q := 118) (tgt := 123) hX ⟨by omega, by omega⟩ dX1_readAct_115 (by decide) rfl (fun h115 => ?_) (fun h115 => ?_)
        · refine v_aload_n (q := 124) hX dX1_readAct_123 rfl rfl rfl ?_
          refine v_bipush (q := 126) hX (by decide) dX1_readAct_124 rfl ?_
          refine w_callVe (q := 129) hX (c_X1_readSign E0 _ hr n (p) (by rw [e0.T]; exact hT) e0.2.1 e0.2.2 (by omega) 112 (by decide) (by rw [e0.T]; exact hc)) rfl kV_X1_readSign rfl (by decide) lk_X1_42 (by decide) rfl oPad (Nat.le_of_ble_eq_true rfl) dX1_readAct_126 rfl (fun D1 hD1 => ?_)
          obtain ⟨e1, f1⟩ := e0.sg hD1
          have l1 := tCh_lt (by decide) (hc)
          refine v_ireturn hX hRX rfl (rfl) dX1_readAct_129 rfl ?_
          have hA := tAct_p hc
          refine ⟨rfl, rfl, ?_, fun _ => ?_⟩
          · rw [hA]; exact e1
          · rw [hA]; exact ⟨(f1 3 (by decide)).trans f0, fun h => by have h : tCh (D 74) n p = 110 := h; omega, fun h => by have h : tCh (D 74) n p = 102 ∨ tCh (D 74) n p = 97 ∨ tCh (D 74) n p = 108 := h; omega, fun h => by have h : tCh (D 74) n p = 102 ∨ tCh (D 74) n p = 108 := h; omega⟩
        · exact absurd h115 (by decide)
      · exact absurd h77 (by decide)
    · exact absurd h23 (by decide)

set_option maxRecDepth 100000 in
set_option maxHeartbeats 4000000 in
theorem c_rA_x {z : Nat} (D : xD) (r : xR) (hr : r 73 0 = some 74) (n p : Nat) (hT : tOk (D 74) n) (h1 : D 73 1 = (n : Int)) (h2 : D 73 2 = (p : Int)) (hp : p ≤ 80) (x1 : tCh (D 74) n p ≠ 102) (x2 : tCh (D 74) n p ≠ 108) (x3 : tCh (D 74) n p ≠ 97) (x4 : tCh (D 74) n p ≠ 110) (x5 : tCh (D 74) n p ≠ 112) : MX 4 mX1_readAct [.ref 73] (356, z) D r (356, z) (xEs (vi 0) (fun D' => rdP D D' n p) r) := by
  refine MX.of (by decide +kernel) [some (.ref 73)] rfl (Nat.le_of_ble_eq_true rfl) ?_
  intro γ hX hRX
  refine v_aload_n (q := 1) hX dX1_readAct_0 rfl rfl rfl ?_
  refine v_aload_n (q := 2) hX dX1_readAct_1 rfl rfl rfl ?_
  refine w_callV (q := 5) hX (c_X1_signHere _ _ hr n p hT h1 h2 hp) rfl kV_X1_signHere rfl (by decide) lk_X1_34 (by decide) rfl oPad (Nat.le_of_ble_eq_true rfl) dX1_readAct_2 rfl ?_
  have hcr := tCh_r (p := p) hT
  have hn80 := hT.1
  refine w_putC (q := 8) hX fl_X1_38 rfl (by omega) oPad dX1_readAct_5 rfl ?_
  have e0 := pS.kd h1 h2 (tCh (D 74) n p)
  have f0 : xu D 73 3 (tCh (D 74) n p) 73 3 = tCh (D 74) n p := xu_at _ _ _ _
  generalize xu D 73 3 (tCh (D 74) n p) = E0 at e0 f0 ⊢
  refine v_aload_n (q := 9) hX dX1_readAct_8 rfl rfl rfl ?_
  refine v_bipush (q := 11) hX (by decide) dX1_readAct_9 rfl ?_
  refine w_callV (q := 14) hX (c_X1_readSign0 E0 _ hr n (p) (by rw [e0.T]; exact hT) e0.2.1 e0.2.2 (by omega) 102 (by decide) (by rw [e0.T]; exact x1)) rfl kV_X1_readSign rfl (by decide) lk_X1_42 (by decide) rfl oPad (Nat.le_of_ble_eq_true rfl) dX1_readAct_11 rfl ?_
  refine v_if_ne (q := 17) (tgt := 26) hX ⟨by omega, by omega⟩ dX1_readAct_14 (by decide) rfl (fun h14 => ?_) (fun h14 => ?_)
  · exact absurd h14 (by decide)
  · refine v_aload_n (q := 18) hX dX1_readAct_17 rfl rfl rfl ?_
    refine v_bipush (q := 20) hX (by decide) dX1_readAct_18 rfl ?_
    refine w_callV (q := 23) hX (c_X1_readSign0 E0 _ hr n (p) (by rw [e0.T]; exact hT) e0.2.1 e0.2.2 (by omega) 108 (by decide) (by rw [e0.T]; exact x2)) rfl kV_X1_readSign rfl (by decide) lk_X1_42 (by decide) rfl oPad (Nat.le_of_ble_eq_true rfl) dX1_readAct_20 rfl ?_
    refine v_if_eq (q := 26) (tgt := 71) hX ⟨by omega, by omega⟩ dX1_readAct_23 (by decide) rfl (fun h23 => ?_) (fun h23 => ?_)
    · refine v_aload_n (q := 72) hX dX1_readAct_71 rfl rfl rfl ?_
      refine v_bipush (q := 74) hX (by decide) dX1_readAct_72 rfl ?_
      refine w_callV (q := 77) hX (c_X1_readSign0 E0 _ hr n (p) (by rw [e0.T]; exact hT) e0.2.1 e0.2.2 (by omega) 97 (by decide) (by rw [e0.T]; exact x3)) rfl kV_X1_readSign rfl (by decide) lk_X1_42 (by decide) rfl oPad (Nat.le_of_ble_eq_true rfl) dX1_readAct_74 rfl ?_
      refine v_if_eq (q := 80) (tgt := 109) hX ⟨by omega, by omega⟩ dX1_readAct_77 (by decide) rfl (fun h77 => ?_) (fun h77 => ?_)
      · refine v_aload_n (q := 110) hX dX1_readAct_109 rfl rfl rfl ?_
        refine v_bipush (q := 112) hX (by decide) dX1_readAct_110 rfl ?_
        refine w_callV (q := 115) hX (c_X1_readSign0 E0 _ hr n (p) (by rw [e0.T]; exact hT) e0.2.1 e0.2.2 (by omega) 110 (by decide) (by rw [e0.T]; exact x4)) rfl kV_X1_readSign rfl (by decide) lk_X1_42 (by decide) rfl oPad (Nat.le_of_ble_eq_true rfl) dX1_readAct_112 rfl ?_
        refine v_if_eq (q := 118) (tgt := 123) hX ⟨by omega, by omega⟩ dX1_readAct_115 (by decide) rfl (fun h115 => ?_) (fun h115 => ?_)
        · refine v_aload_n (q := 124) hX dX1_readAct_123 rfl rfl rfl ?_
          refine v_bipush (q := 126) hX (by decide) dX1_readAct_124 rfl ?_
          refine w_callV (q := 129) hX (c_X1_readSign0 E0 _ hr n (p) (by rw [e0.T]; exact hT) e0.2.1 e0.2.2 (by omega) 112 (by decide) (by rw [e0.T]; exact x5)) rfl kV_X1_readSign rfl (by decide) lk_X1_42 (by decide) rfl oPad (Nat.le_of_ble_eq_true rfl) dX1_readAct_126 rfl ?_
          refine v_ireturn hX hRX rfl (rfl) dX1_readAct_129 rfl ?_
          have hA := tAct_x x1 x2 x3 x4 x5
          refine ⟨rfl, rfl, ?_, fun h => absurd (h.symm.trans hA.1) (by decide)⟩
          rw [hA.2]; exact e0
        · exact absurd h115 (by decide)
      · exact absurd h77 (by decide)
    · exact absurd h23 (by decide)

/-- an act is read: its answer, and where the reader stands -/
theorem c_X1_readAct {z : Nat} (D : xD) (r : xR) (hr : r 73 0 = some 74) (n p : Nat) (hT : tOk (D 74) n) (h1 : D 73 1 = (n : Int)) (h2 : D 73 2 = (p : Int)) (hp : p ≤ 80) : ∃ e : Int, ((tAct (D 74) n p).1 = true → e = 1) ∧ ((tAct (D 74) n p).1 = false → e = 0 ∨ e = 1 ∧ tDg (D 74) n (tAct (D 74) n p).2.2) ∧ MX 4 mX1_readAct [.ref 73] (356, z) D r (356, z) (xEs (vi e) (fun D' => rdP D D' n p) r) := by
  by_cases hc : tCh (D 74) n p = 102
  · by_cases hg : tDg (D 74) n (p + 1)
    · by_cases hs : tCh (D 74) n (p + 1 + 1) = 64
      · by_cases hg2 : tDg (D 74) n (p + 1 + 1 + 1)
        · by_cases hs2 : tCh (D 74) n (tNum (D 74) n (p + 1 + 1 + 1)).2.2 = 42
          · by_cases hg3 : tDg (D 74) n ((tNum (D 74) n (p + 1 + 1 + 1)).2.2 + 1)
            · exact ⟨1, fun _ => rfl, fun h => Or.inr ⟨rfl, by rw [tAct_f5 (Or.inl hc) hg hs hg2 hs2] at h ⊢; exact tNum_f _ _ _ hg3 h⟩, c_rA_f5 D r hr n p hT h1 h2 hp hc hg hs hg2 hs2 hg3⟩
            · exact ⟨0, fun h => absurd (h.symm.trans (tAct_f4 (Or.inl hc) hg hs hg2 hs2 hg3).1) (by decide), fun _ => Or.inl rfl, c_rA_f4 D r hr n p hT h1 h2 hp hc hg hs hg2 hs2 hg3⟩
          · exact ⟨0, fun h => absurd (h.symm.trans (tAct_f3 (Or.inl hc) hg hs hs2).1) (by decide), fun _ => Or.inl rfl, c_rA_f3 D r hr n p hT h1 h2 hp hc hg hs hg2 hs2⟩
        · exact ⟨0, fun h => absurd (h.symm.trans (tAct_f2 (Or.inl hc) hg hs hg2).1) (by decide), fun _ => Or.inl rfl, c_rA_f2 D r hr n p hT h1 h2 hp hc hg hs hg2⟩
      · exact ⟨0, fun h => absurd (h.symm.trans (tAct_f1 (Or.inl hc) hg hs).1) (by decide), fun _ => Or.inl rfl, c_rA_f1 D r hr n p hT h1 h2 hp hc hg hs⟩
    · exact ⟨0, fun h => absurd (h.symm.trans (tAct_f0 (Or.inl hc) hg).1) (by decide), fun _ => Or.inl rfl, c_rA_f0 D r hr n p hT h1 h2 hp hc hg⟩
  by_cases x1 : tCh (D 74) n p = 108
  · have hc := x1
    by_cases hg : tDg (D 74) n (p + 1)
    · by_cases hs : tCh (D 74) n (p + 1 + 1) = 64
      · by_cases hg2 : tDg (D 74) n (p + 1 + 1 + 1)
        · by_cases hs2 : tCh (D 74) n (tNum (D 74) n (p + 1 + 1 + 1)).2.2 = 42
          · by_cases hg3 : tDg (D 74) n ((tNum (D 74) n (p + 1 + 1 + 1)).2.2 + 1)
            · exact ⟨1, fun _ => rfl, fun h => Or.inr ⟨rfl, by rw [tAct_f5 (Or.inr hc) hg hs hg2 hs2] at h ⊢; exact tNum_f _ _ _ hg3 h⟩, c_rA_l5 D r hr n p hT h1 h2 hp hc hg hs hg2 hs2 hg3⟩
            · exact ⟨0, fun h => absurd (h.symm.trans (tAct_f4 (Or.inr hc) hg hs hg2 hs2 hg3).1) (by decide), fun _ => Or.inl rfl, c_rA_l4 D r hr n p hT h1 h2 hp hc hg hs hg2 hs2 hg3⟩
          · exact ⟨0, fun h => absurd (h.symm.trans (tAct_f3 (Or.inr hc) hg hs hs2).1) (by decide), fun _ => Or.inl rfl, c_rA_l3 D r hr n p hT h1 h2 hp hc hg hs hg2 hs2⟩
        · exact ⟨0, fun h => absurd (h.symm.trans (tAct_f2 (Or.inr hc) hg hs hg2).1) (by decide), fun _ => Or.inl rfl, c_rA_l2 D r hr n p hT h1 h2 hp hc hg hs hg2⟩
      · exact ⟨0, fun h => absurd (h.symm.trans (tAct_f1 (Or.inr hc) hg hs).1) (by decide), fun _ => Or.inl rfl, c_rA_l1 D r hr n p hT h1 h2 hp hc hg hs⟩
    · exact ⟨0, fun h => absurd (h.symm.trans (tAct_f0 (Or.inr hc) hg).1) (by decide), fun _ => Or.inl rfl, c_rA_l0 D r hr n p hT h1 h2 hp hc hg⟩
  by_cases x2 : tCh (D 74) n p = 97
  · have hc := x2
    by_cases hg : tDg (D 74) n (p + 1)
    · by_cases hs : tCh (D 74) n (p + 1 + 1) = 42
      · by_cases hg2 : tDg (D 74) n (p + 1 + 1 + 1)
        · exact ⟨1, fun _ => rfl, fun h => Or.inr ⟨rfl, by rw [tAct_a3 hc hg hs] at h ⊢; exact tNum_f _ _ _ hg2 h⟩, c_rA_a3 D r hr n p hT h1 h2 hp hc hg hs hg2⟩
        · exact ⟨0, fun h => absurd (h.symm.trans (tAct_a2 hc hg hs hg2).1) (by decide), fun _ => Or.inl rfl, c_rA_a2 D r hr n p hT h1 h2 hp hc hg hs hg2⟩
      · exact ⟨0, fun h => absurd (h.symm.trans (tAct_a1 hc hg hs).1) (by decide), fun _ => Or.inl rfl, c_rA_a1 D r hr n p hT h1 h2 hp hc hg hs⟩
    · exact ⟨0, fun h => absurd (h.symm.trans (tAct_a0 hc hg).1) (by decide), fun _ => Or.inl rfl, c_rA_a0 D r hr n p hT h1 h2 hp hc hg⟩
  by_cases x3 : tCh (D 74) n p = 110
  · have hc := x3
    by_cases hg : tDg (D 74) n (p + 1)
    · exact ⟨1, fun _ => rfl, fun h => Or.inr ⟨rfl, by rw [tAct_n hc] at h ⊢; exact tNum_f _ _ _ hg h⟩, c_rA_n1 D r hr n p hT h1 h2 hp hc hg⟩
    · exact ⟨0, fun h => absurd (h.symm.trans (tAct_n0 hc hg).1) (by decide), fun _ => Or.inl rfl, c_rA_n0 D r hr n p hT h1 h2 hp hc hg⟩
  by_cases x4 : tCh (D 74) n p = 112
  · exact ⟨1, fun _ => rfl, fun h => absurd (h.symm.trans (show (tAct (D 74) n p).1 = true by rw [tAct_p x4])) (by decide), c_rA_p D r hr n p hT h1 h2 hp x4⟩
  exact ⟨0, fun h => absurd (h.symm.trans (tAct_x hc x1 x2 x3 x4).1) (by decide), fun _ => Or.inl rfl, c_rA_x D r hr n p hT h1 h2 hp hc x1 x2 x3 x4⟩
