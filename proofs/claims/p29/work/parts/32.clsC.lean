def WK (o : Nat) : Prop := xOb 351 o 3 ∧ xAr 351 (o + 1) 10 9 ∧ xAr 351 (o + 2) 10 4 ∧ xAr 351 (o + 3) 15 10 ∧ ∀ p, p < 10 → PK (o + 4 + 3 * p)
def WR (o : Nat) (r : xR) : Prop := r o 0 = some (o + 1) ∧ r o 1 = some (o + 2) ∧ r o 2 = some (o + 3) ∧ ∀ p, p < 10 → r (o + 3) p = some (o + 4 + 3 * p) ∧ PR (o + 4 + 3 * p) r
theorem WK.pk {o : Nat} (h : WK o) {p : Nat} (hp : p < 10) : PK (o + 4 + 3 * p) := h.2.2.2.2 p hp
theorem WR.pr {o : Nat} {r : xR} (h : WR o r) {p : Nat} (hp : p < 10) : PR (o + 4 + 3 * p) r := (h.2.2.2 p hp).2
theorem WK.ge {o : Nat} (h : WK o) : 4 ≤ o := h.1.2.1
theorem WK_5 : WK 5 := by unfold WK PK xOb xAr; decide +kernel
theorem WK_39 : WK 39 := by unfold WK PK xOb xAr; decide +kernel
theorem WK_283 : WK 283 := by unfold WK PK xOb xAr; decide +kernel
theorem WK_317 : WK 317 := by unfold WK PK xOb xAr; decide +kernel
theorem WK_his : ∀ i, i < 6 → WK (77 + 34 * i) := by
  intro i hi
  have h : i = 0 ∨ i = 1 ∨ i = 2 ∨ i = 3 ∨ i = 4 ∨ i = 5 := by omega
  rcases h with rfl | rfl | rfl | rfl | rfl | rfl <;> (unfold WK PK xOb xAr; decide +kernel)
theorem pF_fu_ne (N : Nat → Int) {q k i j : Nat} (e : Int) (h : k ≠ q) (hi : i < 36) (hj : j < 36) : pF (fu N (18 + 36 * q + j) e) k i = pF N k i := by unfold pF; exact fu_ne _ _ _ (by omega)
theorem pF_fu_at (N : Nat → Int) (q j : Nat) (e : Int) : pF (fu N (18 + 36 * q + j) e) q j = e := by unfold pF; exact fu_at _ _ _
/-- the works at o hold the plain state N of np products -/
def CR (D : xD) (o : Nat) (N : Nat → Int) (np : Nat) : Prop := D o 3 = (np : Int) ∧ D o 4 = N 0 ∧ D o 5 = N 2 ∧ D o 6 = N 3 ∧ D o 7 = N 4 ∧ (∀ i, i < 9 → D (o + 1) i = N (5 + i)) ∧ (∀ f, f < 4 → D (o + 2) f = N (14 + f)) ∧ ∀ p, p < np → PC D (o + 4 + 3 * p) N p
theorem CR.np {D : xD} {o : Nat} {N : Nat → Int} {np : Nat} (h : CR D o N np) : D o 3 = (np : Int) := h.1
theorem CR.wk {D : xD} {o : Nat} {N : Nat → Int} {np : Nat} (h : CR D o N np) : D o 4 = N 0 := h.2.1
theorem CR.su {D : xD} {o : Nat} {N : Nat → Int} {np : Nat} (h : CR D o N np) : D o 5 = N 2 := h.2.2.1
theorem CR.ov {D : xD} {o : Nat} {N : Nat → Int} {np : Nat} (h : CR D o N np) : D o 6 = N 3 := h.2.2.2.1
theorem CR.co {D : xD} {o : Nat} {N : Nat → Int} {np : Nat} (h : CR D o N np) : D o 7 = N 4 := h.2.2.2.2.1
theorem CR.se {D : xD} {o : Nat} {N : Nat → Int} {np : Nat} (h : CR D o N np) {i : Nat} (hi : i < 9) : D (o + 1) i = N (5 + i) := h.2.2.2.2.2.1 i hi
theorem CR.fh {D : xD} {o : Nat} {N : Nat → Int} {np : Nat} (h : CR D o N np) {f : Nat} (hf : f < 4) : D (o + 2) f = N (14 + f) := h.2.2.2.2.2.2.1 f hf
theorem CR.pc {D : xD} {o : Nat} {N : Nat → Int} {np : Nat} (h : CR D o N np) {p : Nat} (hp : p < np) : PC D (o + 4 + 3 * p) N p := h.2.2.2.2.2.2.2 p hp
/-- nothing but the works at o has changed -/
def frW (o : Nat) (D D' : xD) : Prop := ∀ a, (a < o ∨ o + 34 ≤ a) → D' a = D a
theorem frW.refl (o : Nat) (D : xD) : frW o D D := fun _ _ => rfl
theorem frW.trans {o : Nat} {D E F : xD} (h : frW o D E) (h2 : frW o E F) : frW o D F := fun a ha => (h2 a ha).trans (h a ha)
theorem nMk_lt {M : Nat → Int} (w : Nat) : ∀ k, (∀ p, p < k → 0 ≤ pF M p 0 ∧ pF M p 0 ≤ 3) → nMask M w k < 16 := by
  intro k
  induction k with
  | zero => intro _; show (0 : Nat) < 16; decide
  | succ k ih =>
    intro h
    have h1 := ih (fun p hp => h p (by omega))
    have h2 := h k (by omega)
    unfold nMask
    split
    · exact or_lt16 h1 (p2_lt16 _ (by omega))
    · exact h1
set_option maxRecDepth 100000 in
set_option maxHeartbeats 4000000 in
theorem c_X3_productAt {z : Nat} (D : xD) (r : xR) {o : Nat} (hK : WK o) (hR : WR o r) {np : Nat} (hC : D o 3 = (np : Int)) (hnp : np ≤ 10) (p : Nat) (hp : p < np) : MX 0 mX3_productAt [.ref o, vi p] (351, z) D r (351, z) (xP (.ref (o + 4 + 3 * p)) D r) := by
  refine MX.of (by decide +kernel) [some (.ref o), some (vi p)] rfl (Nat.le_of_ble_eq_true rfl) ?_
  intro γ hX hRX
  refine v_iload_n (q := 1) hX dX3_productAt_0 rfl rfl rfl ?_
  refine v_if_lt (q := 4) (tgt := 27) hX ⟨by omega, by omega⟩ dX3_productAt_1 (by decide) rfl (fun h1 => ?_) (fun h1 => ?_)
  · exact absurd h1 (by omega)
  · refine v_iload_n (q := 5) hX dX3_productAt_4 rfl rfl rfl ?_
    refine v_aload_n (q := 6) hX dX3_productAt_5 rfl rfl rfl ?_
    refine w_getI (q := 9) hX fl_X3_45 rfl hK.1 dX3_productAt_6 rfl ?_
    rw [hC]
    refine v_icmp_ge (q := 12) (tgt := 27) hX ⟨by omega, by omega⟩ ⟨by omega, by omega⟩ dX3_productAt_9 (by decide) rfl (fun h9 => ?_) (fun h9 => ?_)
    · exact absurd h9 (by omega)
    · refine v_iload_n (q := 13) hX dX3_productAt_12 rfl rfl rfl ?_
      refine v_bipush (q := 15) hX (by decide) dX3_productAt_13 rfl ?_
      refine v_icmp_ge (q := 18) (tgt := 27) hX ⟨by omega, by omega⟩ (by decide) dX3_productAt_15 (by decide) rfl (fun h15 => ?_) (fun h15 => ?_)
      · exact absurd h15 (by omega)
      · refine v_aload_n (q := 19) hX dX3_productAt_18 rfl rfl rfl ?_
        refine w_getR (q := 22) hX fl_X3_28 rfl hK.1 hR.2.2.1 dX3_productAt_19 rfl ?_
        refine v_iload_n (q := 23) hX dX3_productAt_22 rfl rfl rfl ?_
        refine w_ald (q := 24) (kk := p) hX (by omega) (by omega) hK.2.2.2.1 (by decide) (hR.2.2.2 p (by omega)).1 dX3_productAt_23 rfl ?_
        refine v_goto (tgt := 28) hX dX3_productAt_24 (by decide) ?_
        refine v_areturn hX hRX rfl dX3_productAt_28 rfl ?_
        exact ⟨rfl, rfl, rfl⟩

set_option maxRecDepth 100000 in
set_option maxHeartbeats 4000000 in
theorem c_X3_productAt_no {z : Nat} (D : xD) (r : xR) {o : Nat} (hK : WK o) (hR : WR o r) {np : Nat} (hC : D o 3 = (np : Int)) (hnp : np ≤ 10) (p : Int) (hI : xI p) (hp : p < 0 ∨ (np : Int) ≤ p) : MX 0 mX3_productAt [.ref o, vi p] (351, z) D r (351, z) (xP .null D r) := by
  refine MX.of (by decide +kernel) [some (.ref o), some (vi p)] rfl (Nat.le_of_ble_eq_true rfl) ?_
  intro γ hX hRX
  refine v_iload_n (q := 1) hX dX3_productAt_0 rfl rfl rfl ?_
  refine v_if_lt (q := 4) (tgt := 27) hX hI dX3_productAt_1 (by decide) rfl (fun h1 => ?_) (fun h1 => ?_)
  · refine v_null (q := 28) hX dX3_productAt_27 rfl ?_
    refine v_areturnN hX hRX rfl dX3_productAt_28 rfl ?_
    exact ⟨rfl, rfl, rfl⟩
  · refine v_iload_n (q := 5) hX dX3_productAt_4 rfl rfl rfl ?_
    refine v_aload_n (q := 6) hX dX3_productAt_5 rfl rfl rfl ?_
    refine w_getI (q := 9) hX fl_X3_45 rfl hK.1 dX3_productAt_6 rfl ?_
    rw [hC]
    refine v_icmp_ge (q := 12) (tgt := 27) hX hI ⟨by omega, by omega⟩ dX3_productAt_9 (by decide) rfl (fun h9 => ?_) (fun h9 => ?_)
    · refine v_null (q := 28) hX dX3_productAt_27 rfl ?_
      refine v_areturnN hX hRX rfl dX3_productAt_28 rfl ?_
      exact ⟨rfl, rfl, rfl⟩
    · exact absurd h9 (by omega)

set_option maxRecDepth 100000 in
set_option maxHeartbeats 4000000 in
theorem c_X3_spareProduct {z : Nat} (D : xD) (r : xR) {o : Nat} (hK : WK o) (hR : WR o r) {np : Nat} (hC : D o 3 = (np : Int)) (hnp : np < 10) : MX 0 mX3_spareProduct [.ref o] (351, z) D r (351, z) (xP (.ref (o + 4 + 3 * np)) D r) := by
  refine MX.of (by decide +kernel) [some (.ref o)] rfl (Nat.le_of_ble_eq_true rfl) ?_
  intro γ hX hRX
  refine v_aload_n (q := 1) hX dX3_spareProduct_0 rfl rfl rfl ?_
  refine w_getI (q := 4) hX fl_X3_45 rfl hK.1 dX3_spareProduct_1 rfl ?_
  rw [hC]
  refine v_if_lt (q := 7) (tgt := 28) hX ⟨by omega, by omega⟩ dX3_spareProduct_4 (by decide) rfl (fun h4 => ?_) (fun h4 => ?_)
  · exact absurd h4 (by omega)
  · refine v_aload_n (q := 8) hX dX3_spareProduct_7 rfl rfl rfl ?_
    refine w_getI (q := 11) hX fl_X3_45 rfl hK.1 dX3_spareProduct_8 rfl ?_
    refine v_bipush (q := 13) hX (by decide) dX3_spareProduct_11 rfl ?_
    rw [hC]
    refine v_icmp_ge (q := 16) (tgt := 28) hX ⟨by omega, by omega⟩ (by decide) dX3_spareProduct_13 (by decide) rfl (fun h13 => ?_) (fun h13 => ?_)
    · exact absurd h13 (by omega)
    · refine v_aload_n (q := 17) hX dX3_spareProduct_16 rfl rfl rfl ?_
      refine w_getR (q := 20) hX fl_X3_28 rfl hK.1 hR.2.2.1 dX3_spareProduct_17 rfl ?_
      refine v_aload_n (q := 21) hX dX3_spareProduct_20 rfl rfl rfl ?_
      refine w_getI (q := 24) hX fl_X3_45 rfl hK.1 dX3_spareProduct_21 rfl ?_
      rw [hC]
      refine w_ald (q := 25) (kk := np) hX (rfl) (by omega) hK.2.2.2.1 (by decide) (hR.2.2.2 np (by omega)).1 dX3_spareProduct_24 rfl ?_
      refine v_goto (tgt := 29) hX dX3_spareProduct_25 (by decide) ?_
      refine v_areturn hX hRX rfl dX3_spareProduct_29 rfl ?_
      exact ⟨rfl, rfl, rfl⟩

set_option maxRecDepth 100000 in
set_option maxHeartbeats 4000000 in
theorem c_X3_spareProduct_no {z : Nat} (D : xD) (r : xR) {o : Nat} (hK : WK o) (hR : WR o r) (hC : D o 3 = 10) : MX 0 mX3_spareProduct [.ref o] (351, z) D r (351, z) (xP .null D r) := by
  refine MX.of (by decide +kernel) [some (.ref o)] rfl (Nat.le_of_ble_eq_true rfl) ?_
  intro γ hX hRX
  refine v_aload_n (q := 1) hX dX3_spareProduct_0 rfl rfl rfl ?_
  refine w_getI (q := 4) hX fl_X3_45 rfl hK.1 dX3_spareProduct_1 rfl ?_
  rw [hC]
  refine v_if_lt (q := 7) (tgt := 28) hX ⟨by omega, by omega⟩ dX3_spareProduct_4 (by decide) rfl (fun h4 => ?_) (fun h4 => ?_)
  · exact absurd h4 (by omega)
  · refine v_aload_n (q := 8) hX dX3_spareProduct_7 rfl rfl rfl ?_
    refine w_getI (q := 11) hX fl_X3_45 rfl hK.1 dX3_spareProduct_8 rfl ?_
    refine v_bipush (q := 13) hX (by decide) dX3_spareProduct_11 rfl ?_
    rw [hC]
    refine v_icmp_ge (q := 16) (tgt := 28) hX ⟨by omega, by omega⟩ (by decide) dX3_spareProduct_13 (by decide) rfl (fun h13 => ?_) (fun h13 => ?_)
    · refine v_null (q := 29) hX dX3_spareProduct_28 rfl ?_
      refine v_areturnN hX hRX rfl dX3_spareProduct_29 rfl ?_
      exact ⟨rfl, rfl, rfl⟩
    · exact absurd h13 (by omega)

set_option maxRecDepth 100000 in
set_option maxHeartbeats 4000000 in
theorem c_X3_setting {z : Nat} (D : xD) (r : xR) {o : Nat} (hK : WK o) (hR : WR o r) {np : Nat} {N : Nat → Int} (hC : CR D o N np) (w : Nat) (hw : w < 9) {j : Nat} (hj : 5 + w = j) : MX 0 mX3_setting [.ref o, vi w] (351, z) D r (351, z) (xP (vi (N j)) D r) := by
  refine MX.of (by decide +kernel) [some (.ref o), some (vi w)] rfl (Nat.le_of_ble_eq_true rfl) ?_
  intro γ hX hRX
  refine v_iload_n (q := 1) hX dX3_setting_0 rfl rfl rfl ?_
  refine v_if_lt (q := 4) (tgt := 19) hX ⟨by omega, by omega⟩ dX3_setting_1 (by decide) rfl (fun h1 => ?_) (fun h1 => ?_)
  · exact absurd h1 (by omega)
  · refine v_iload_n (q := 5) hX dX3_setting_4 rfl rfl rfl ?_
    refine v_bipush (q := 7) hX (by decide) dX3_setting_5 rfl ?_
    refine v_icmp_ge (q := 10) (tgt := 19) hX ⟨by omega, by omega⟩ (by decide) dX3_setting_7 (by decide) rfl (fun h7 => ?_) (fun h7 => ?_)
    · exact absurd h7 (by omega)
    · refine v_aload_n (q := 11) hX dX3_setting_10 rfl rfl rfl ?_
      refine w_getR (q := 14) hX fl_X3_18 rfl hK.1 hR.1 dX3_setting_11 rfl ?_
      refine v_iload_n (q := 15) hX dX3_setting_14 rfl rfl rfl ?_
      refine w_ild (q := 16) (kk := w) hX (by omega) (by omega) hK.2.1 dX3_setting_15 rfl ?_
      rw [hC.se hw, hj]
      refine v_goto (tgt := 20) hX dX3_setting_16 (by decide) ?_
      refine v_ireturn hX hRX rfl (by first | rfl | exact bi_nar _) dX3_setting_20 rfl ?_
      exact ⟨rfl, rfl, rfl⟩

theorem CR.keep {D D' : xD} {o np : Nat} {N N' : Nat → Int} (h : CR D o N np) (h0 : ∀ j, 3 ≤ j → j < 8 → D' o j = D o j) (h1 : ∀ j, j < 9 → D' (o + 1) j = N' (5 + j)) (h2 : ∀ j, j < 4 → D' (o + 2) j = N' (14 + j)) (hN : N' 0 = N 0 ∧ N' 2 = N 2 ∧ N' 3 = N 3 ∧ N' 4 = N 4) (hp : ∀ p, p < np → PC D' (o + 4 + 3 * p) N' p) : CR D' o N' np :=
  ⟨(h0 3 (by decide) (by decide)).trans h.np, (h0 4 (by decide) (by decide)).trans (h.wk.trans hN.1.symm), (h0 5 (by decide) (by decide)).trans (h.su.trans hN.2.1.symm), (h0 6 (by decide) (by decide)).trans (h.ov.trans hN.2.2.1.symm), (h0 7 (by decide) (by decide)).trans (h.co.trans hN.2.2.2.symm), h1, h2, hp⟩
theorem ch_CR {D : xD} {o np : Nat} {N : Nat → Int} (h : CR D o N np) {w : Nat} (hw : w < 9) {e : Int} : CR (xu D (o + 1) w e) o (fu N (5 + w) e) np := by
  have hr : ∀ a, a ≠ o + 1 → xu D (o + 1) w e a = D a := fun a ha => by unfold xu; rw [if_neg ha]
  refine h.keep (fun j _ _ => by rw [hr _ (by omega)]) (fun j hj => ?_) (fun j hj => ?_) ⟨fu_ne _ _ _ (by omega), fu_ne _ _ _ (by omega), fu_ne _ _ _ (by omega), fu_ne _ _ _ (by omega)⟩ (fun p hp => (h.pc hp).keep (fun j _ => by rw [hr _ (by omega)]) (fun j _ => by rw [hr _ (by omega)]) (fun j _ => by rw [hr _ (by omega)]) (fun i hi => fu_ne _ _ _ (by omega)))
  · by_cases hjw : j = w
    · subst hjw; rw [xu_at, fu_at]
    · rw [xu_ne _ _ _ _ (Or.inr hjw), fu_ne _ _ _ (by omega)]; exact h.se hj
  · rw [hr _ (by omega), fu_ne _ _ _ (by omega)]; exact h.fh hj
set_option maxRecDepth 100000 in
set_option maxHeartbeats 4000000 in
theorem c_X3_changeSetting {z : Nat} (D : xD) (r : xR) {o : Nat} (hK : WK o) (hR : WR o r) {np : Nat} {N : Nat → Int} (hC : CR D o N np) (w : Nat) (hw : w < 9) (e : Int) : MX 0 mX3_changeSetting [.ref o, vi w, vi e] (351, z) D r (351, z) (xEn (fun D' => CR D' o (fu N (5 + w) e) np ∧ frW o D D') r) := by
  refine MX.of (by decide +kernel) [some (.ref o), some (vi w), some (vi e)] rfl (Nat.le_of_ble_eq_true rfl) ?_
  intro γ hX hRX
  refine v_iload_n (q := 1) hX dX3_changeSetting_0 rfl rfl rfl ?_
  refine v_if_lt (q := 4) (tgt := 17) hX ⟨by omega, by omega⟩ dX3_changeSetting_1 (by decide) rfl (fun h1 => ?_) (fun h1 => ?_)
  · exact absurd h1 (by omega)
  · refine v_iload_n (q := 5) hX dX3_changeSetting_4 rfl rfl rfl ?_
    refine v_bipush (q := 7) hX (by decide) dX3_changeSetting_5 rfl ?_
    refine v_icmp_ge (q := 10) (tgt := 17) hX ⟨by omega, by omega⟩ (by decide) dX3_changeSetting_7 (by decide) rfl (fun h7 => ?_) (fun h7 => ?_)
    · exact absurd h7 (by omega)
    · refine v_aload_n (q := 11) hX dX3_changeSetting_10 rfl rfl rfl ?_
      refine w_getR (q := 14) hX fl_X3_18 rfl hK.1 hR.1 dX3_changeSetting_11 rfl ?_
      refine v_iload_n (q := 15) hX dX3_changeSetting_14 rfl rfl rfl ?_
      refine v_iload_n (q := 16) hX dX3_changeSetting_15 rfl rfl rfl ?_
      refine w_ist (q := 17) (kk := w) hX (by omega) (by omega) hK.2.1 dX3_changeSetting_16 rfl ?_
      refine v_vreturn hX hRX rfl dX3_changeSetting_17 rfl ?_
      refine ⟨rfl, rfl, ch_CR hC hw, fun a ha => ?_⟩
      unfold xu; rw [if_neg (by omega)]

set_option maxRecDepth 100000 in
set_option maxHeartbeats 4000000 in
theorem c_X3_capacity {z : Nat} (D : xD) (r : xR) {o : Nat} (hK : WK o) (hR : WR o r) {np : Nat} {N : Nat → Int} (hC : CR D o N np) : MX 1 mX3_capacity [.ref o] (351, z) D r (351, z) (xP (vi (N 5 + N 6)) D r) := by
  refine MX.of (by decide +kernel) [some (.ref o)] rfl (Nat.le_of_ble_eq_true rfl) ?_
  intro γ hX hRX
  refine v_aload_n (q := 1) hX dX3_capacity_0 rfl rfl rfl ?_
  refine v_iconst (q := 2) hX dX3_capacity_1 rfl ?_
  refine w_callV (q := 5) hX (c_X3_setting _ _ hK hR hC 0 (by omega) (j := 5) rfl) rfl kV_X3_setting rfl (by decide) lk_X3_70 (by decide) rfl hK.1 (Nat.le_of_ble_eq_true rfl) dX3_capacity_2 rfl ?_
  refine v_aload_n (q := 6) hX dX3_capacity_5 rfl rfl rfl ?_
  refine v_iconst (q := 7) hX dX3_capacity_6 rfl ?_
  refine w_callV (q := 10) hX (c_X3_setting _ _ hK hR hC 1 (by omega) (j := 6) rfl) rfl kV_X3_setting rfl (by decide) lk_X3_70 (by decide) rfl hK.1 (Nat.le_of_ble_eq_true rfl) dX3_capacity_7 rfl ?_
  refine v_iadd (q := 11) hX dX3_capacity_10 rfl ?_
  refine v_ireturn hX hRX rfl (by first | rfl | exact bi_nar _) dX3_capacity_11 rfl ?_
  exact ⟨rfl, rfl, rfl⟩

set_option maxRecDepth 100000 in
set_option maxHeartbeats 4000000 in
theorem c_X3_isFrozen {z : Nat} (D : xD) (r : xR) {o : Nat} (hK : WK o) (hR : WR o r) {np : Nat} {N : Nat → Int} (hC : CR D o N np) {B : Int} (hO : nOk B np N) (w : Nat) (hw : w < 12) : MX 1 mX3_isFrozen [.ref o, vi w] (351, z) D r (351, z) (xP (vi (bi ((w : Int) < N 7))) D r) := by
  refine MX.of (by decide +kernel) [some (.ref o), some (vi w)] rfl (Nat.le_of_ble_eq_true rfl) ?_
  intro γ hX hRX
  have hs := hO.2.2.2.1.2.2.1
  refine v_iload_n (q := 1) hX dX3_isFrozen_0 rfl rfl rfl ?_
  refine v_aload_n (q := 2) hX dX3_isFrozen_1 rfl rfl rfl ?_
  refine v_iconst (q := 3) hX dX3_isFrozen_2 rfl ?_
  refine w_callV (q := 6) hX (c_X3_setting _ _ hK hR hC 2 (by omega) (j := 7) rfl) rfl kV_X3_setting rfl (by decide) lk_X3_70 (by decide) rfl hK.1 (Nat.le_of_ble_eq_true rfl) dX3_isFrozen_3 rfl ?_
  refine v_icmp_ge (q := 9) (tgt := 13) hX ⟨by omega, by omega⟩ ⟨by omega, by omega⟩ dX3_isFrozen_6 (by decide) rfl (fun h6 => ?_) (fun h6 => ?_)
  · refine v_iconst (q := 14) hX dX3_isFrozen_13 rfl ?_
    refine v_ireturn hX hRX rfl (rfl) dX3_isFrozen_14 rfl ?_
    exact ⟨by first | rw [bi, if_pos h6] | rw [bi, if_neg (by omega)], rfl, rfl⟩
  · refine v_iconst (q := 10) hX dX3_isFrozen_9 rfl ?_
    refine v_goto (tgt := 14) hX dX3_isFrozen_10 (by decide) ?_
    refine v_ireturn hX hRX rfl (rfl) dX3_isFrozen_14 rfl ?_
    exact ⟨by first | rw [bi, if_pos h6] | rw [bi, if_neg (by omega)], rfl, rfl⟩

set_option maxRecDepth 100000 in
set_option maxHeartbeats 4000000 in
theorem c_X3_familiesIn {z : Nat} (D : xD) (r : xR) {o : Nat} (hK : WK o) (hR : WR o r) {np : Nat} {N : Nat → Int} (hC : CR D o N np) {B : Int} (hO : nOk B np N) (w : Nat) (hw : w < 12) : MX 1 mX3_familiesIn [.ref o, vi w] (351, z) D r (351, z) (xP (vi (nMask N w np : Nat)) D r) := by
  refine MX.of (by decide +kernel) [some (.ref o), some (vi w), none, none, none] rfl (Nat.le_of_ble_eq_true rfl) ?_
  intro γ hX hRX
  have hnp := hO.np.2
  have L : ∀ k, k ≤ np → xV γ 4 [some (.ref o), some (vi w), some (vi (nMask N w k : Nat)), some (vi (k : Nat)), none] [] (351, z) D r := by
    refine xup np (fun k hk ih => ?_)
    refine v_iload_n (q := 5) hX dX3_familiesIn_4 rfl rfl rfl ?_
    refine v_aload_n (q := 6) hX dX3_familiesIn_5 rfl rfl rfl ?_
    refine w_getI (q := 9) hX fl_X3_45 rfl hK.1 dX3_familiesIn_6 rfl ?_
    rw [hC.np]
    refine v_icmp_ge (q := 12) (tgt := 49) hX ⟨by omega, by omega⟩ ⟨by omega, by omega⟩ dX3_familiesIn_9 (by decide) rfl (fun h9 => ?_) (fun h9 => ?_)
    · refine v_iload_n (q := 50) hX dX3_familiesIn_49 rfl rfl rfl ?_
      refine v_ireturn hX hRX rfl (by first | rfl | exact bi_nar _) dX3_familiesIn_50 rfl ?_
      exact ⟨by rw [show k = np by omega], rfl, rfl⟩
    · refine v_aload_n (q := 13) hX dX3_familiesIn_12 rfl rfl rfl ?_
      refine v_iload_n (q := 14) hX dX3_familiesIn_13 rfl rfl rfl ?_
      refine w_callV (q := 17) hX (c_X3_productAt _ _ hK hR hC.np hO.np.2 (k) (by omega)) rfl kV_X3_productAt rfl (by decide) lk_X3_49 (by decide) rfl hK.1 (Nat.le_of_ble_eq_true rfl) dX3_familiesIn_14 rfl ?_
      refine v_astore (q := 19) hX dX3_familiesIn_17 (Nat.le_of_ble_eq_true rfl) (Nat.le_of_ble_eq_true rfl) rfl ?_
      dsimp only [xs1, xs2, xclr]
      refine v_aload (q := 21) hX dX3_familiesIn_19 rfl rfl ?_
      refine v_ifnull (q := 24) hX dX3_familiesIn_21 rfl ?_
      refine v_aload (q := 26) hX dX3_familiesIn_24 rfl rfl ?_
      refine v_iload_n (q := 27) hX dX3_familiesIn_26 rfl rfl rfl ?_
      refine w_callV (q := 30) hX (c_X2_lotsIn _ _ (hK.pk (p := k) (by omega)) (hR.pr (p := k) (by omega)) (hC.pc (p := k) (by omega)) w (by omega)) rfl kV_X2_lotsIn rfl (by decide) lk_X3_78 (by decide) rfl (hK.pk (p := k) (by omega)).1 (Nat.le_of_ble_eq_true rfl) dX3_familiesIn_27 rfl ?_
      have hl := hO.lots (p := k) (k := w) (by omega) hw
      refine v_if_le (q := 33) (tgt := 43) hX ⟨by omega, by omega⟩ dX3_familiesIn_30 (by decide) rfl (fun h30 => ?_) (fun h30 => ?_)
      · refine v_iinc (q := 46) hX dX3_familiesIn_43 rfl (Nat.le_of_ble_eq_true rfl) (Nat.le_of_ble_eq_true rfl) rfl ?_
        dsimp only [xs1, xs2, xclr]
        refine v_goto (tgt := 4) hX dX3_familiesIn_46 (by decide) ?_
        have e1 := ih (by omega)
        simp only [nMask] at e1
        first | (rw [if_pos (by omega), hf3] at e1) | (rw [if_neg (by omega)] at e1)
        exact xVw (by repeat' first | exact trivial | refine And.intro rfl ?_) e1
      · refine v_iload_n (q := 34) hX dX3_familiesIn_33 rfl rfl rfl ?_
        refine v_iconst (q := 35) hX dX3_familiesIn_34 rfl ?_
        refine v_aload (q := 37) hX dX3_familiesIn_35 rfl rfl ?_
        refine w_getI (q := 40) hX fl_X3_87 rfl (hK.pk (p := k) (by omega)).1 dX3_familiesIn_37 rfl ?_
        obtain ⟨f, hf1, hf2, hf3⟩ := hO.fam (p := k) (by omega)
        rw [(hC.pc (p := k) (by omega)).fa, hf1]
        refine v_ishl (q := 41) hX (((2 ^ f : Nat) : Int)) (bshl4 f hf2) dX3_familiesIn_40 rfl ?_
        refine v_ior (q := 42) hX (_) (by first | exact bor16 _ (nMask_lt hO w k (by omega)) _ (p2_lt16 f hf2)) dX3_familiesIn_41 rfl ?_
        refine v_istore_n (q := 43) hX dX3_familiesIn_42 rfl (Nat.le_of_ble_eq_true rfl) (Nat.le_of_ble_eq_true rfl) rfl ?_
        dsimp only [xs1, xs2, xclr]
        refine v_iinc (q := 46) hX dX3_familiesIn_43 rfl (Nat.le_of_ble_eq_true rfl) (Nat.le_of_ble_eq_true rfl) rfl ?_
        dsimp only [xs1, xs2, xclr]
        refine v_goto (tgt := 4) hX dX3_familiesIn_46 (by decide) ?_
        have e1 := ih (by omega)
        simp only [nMask] at e1
        first | (rw [if_pos (by omega), hf3] at e1) | (rw [if_neg (by omega)] at e1)
        exact xVw (by repeat' first | exact trivial | refine And.intro rfl ?_) e1
  refine v_iconst (q := 1) hX dX3_familiesIn_0 rfl ?_
  refine v_istore_n (q := 2) hX dX3_familiesIn_1 rfl (Nat.le_of_ble_eq_true rfl) (Nat.le_of_ble_eq_true rfl) rfl ?_
  dsimp only [xs1, xs2, xclr]
  refine v_iconst (q := 3) hX dX3_familiesIn_2 rfl ?_
  refine v_istore_n (q := 4) hX dX3_familiesIn_3 rfl (Nat.le_of_ble_eq_true rfl) (Nat.le_of_ble_eq_true rfl) rfl ?_
  dsimp only [xs1, xs2, xclr]
  exact L 0 (Nat.zero_le _)

set_option maxRecDepth 100000 in
set_option maxHeartbeats 4000000 in
theorem c_X3_setupsIn {z : Nat} (D : xD) (r : xR) {o : Nat} (hK : WK o) (hR : WR o r) {np : Nat} {N : Nat → Int} (hC : CR D o N np) {B : Int} (hO : nOk B np N) (w : Nat) (hw : w < 12) : MX 2 mX3_setupsIn [.ref o, vi w] (351, z) D r (351, z) (xP (vi (nSetups N np w)) D r) := by
  refine MX.of (by decide +kernel) [some (.ref o), some (vi w), none, none, none] rfl (Nat.le_of_ble_eq_true rfl) ?_
  intro γ hX hRX
  have hnp := hO.np.2
  have L : ∀ k, k ≤ np → xV γ 11 [some (.ref o), some (vi w), some (vi (((nBits (nMask N w np) 4 : Nat) : Int) + nMade N w k)), some (vi (k : Nat)), none] [] (351, z) D r := by
    refine xup np (fun k hk ih => ?_)
    refine v_iload_n (q := 12) hX dX3_setupsIn_11 rfl rfl rfl ?_
    refine v_aload_n (q := 13) hX dX3_setupsIn_12 rfl rfl rfl ?_
    refine w_getI (q := 16) hX fl_X3_45 rfl hK.1 dX3_setupsIn_13 rfl ?_
    rw [hC.np]
    refine v_icmp_ge (q := 19) (tgt := 49) hX ⟨by omega, by omega⟩ ⟨by omega, by omega⟩ dX3_setupsIn_16 (by decide) rfl (fun h16 => ?_) (fun h16 => ?_)
    · refine v_iload_n (q := 50) hX dX3_setupsIn_49 rfl rfl rfl ?_
      refine v_ireturn hX hRX rfl (by first | rfl | exact bi_nar _) dX3_setupsIn_50 rfl ?_
      exact ⟨by rw [show k = np by omega]; exact congrArg (fun e => some (vi e)) (Int.add_comm _ _), rfl, rfl⟩
    · refine v_aload_n (q := 20) hX dX3_setupsIn_19 rfl rfl rfl ?_
      refine v_iload_n (q := 21) hX dX3_setupsIn_20 rfl rfl rfl ?_
      refine w_callV (q := 24) hX (c_X3_productAt _ _ hK hR hC.np hO.np.2 (k) (by omega)) rfl kV_X3_productAt rfl (by decide) lk_X3_49 (by decide) rfl hK.1 (Nat.le_of_ble_eq_true rfl) dX3_setupsIn_21 rfl ?_
      refine v_astore (q := 26) hX dX3_setupsIn_24 (Nat.le_of_ble_eq_true rfl) (Nat.le_of_ble_eq_true rfl) rfl ?_
      dsimp only [xs1, xs2, xclr]
      refine v_aload (q := 28) hX dX3_setupsIn_26 rfl rfl ?_
      refine v_ifnull (q := 31) hX dX3_setupsIn_28 rfl ?_
      refine v_aload (q := 33) hX dX3_setupsIn_31 rfl rfl ?_
      refine v_iload_n (q := 34) hX dX3_setupsIn_33 rfl rfl rfl ?_
      refine w_callV (q := 37) hX (c_X2_lotsIn _ _ (hK.pk (p := k) (by omega)) (hR.pr (p := k) (by omega)) (hC.pc (p := k) (by omega)) w (by omega)) rfl kV_X2_lotsIn rfl (by decide) lk_X3_78 (by decide) rfl (hK.pk (p := k) (by omega)).1 (Nat.le_of_ble_eq_true rfl) dX3_setupsIn_34 rfl ?_
      have hl := hO.lots (p := k) (k := w) (by omega) hw
      refine v_if_le (q := 40) (tgt := 43) hX ⟨by omega, by omega⟩ dX3_setupsIn_37 (by decide) rfl (fun h37 => ?_) (fun h37 => ?_)
      · refine v_iinc (q := 46) hX dX3_setupsIn_43 rfl (Nat.le_of_ble_eq_true rfl) (Nat.le_of_ble_eq_true rfl) rfl ?_
        dsimp only [xs1, xs2, xclr]
        refine v_goto (tgt := 11) hX dX3_setupsIn_46 (by decide) ?_
        have e1 := ih (by omega)
        simp only [nMade] at e1
        first | (rw [if_pos (by omega), ← Int.add_assoc] at e1) | (rw [if_neg (by omega), Int.add_zero] at e1)
        exact xVw (by repeat' first | exact trivial | refine And.intro rfl ?_) e1
      · refine v_iinc (q := 43) hX dX3_setupsIn_40 rfl (Nat.le_of_ble_eq_true rfl) (Nat.le_of_ble_eq_true rfl) rfl ?_
        dsimp only [xs1, xs2, xclr]
        refine v_iinc (q := 46) hX dX3_setupsIn_43 rfl (Nat.le_of_ble_eq_true rfl) (Nat.le_of_ble_eq_true rfl) rfl ?_
        dsimp only [xs1, xs2, xclr]
        refine v_goto (tgt := 11) hX dX3_setupsIn_46 (by decide) ?_
        have e1 := ih (by omega)
        simp only [nMade] at e1
        first | (rw [if_pos (by omega), ← Int.add_assoc] at e1) | (rw [if_neg (by omega), Int.add_zero] at e1)
        exact xVw (by repeat' first | exact trivial | refine And.intro rfl ?_) e1
  refine v_aload_n (q := 1) hX dX3_setupsIn_0 rfl rfl rfl ?_
  refine v_iload_n (q := 2) hX dX3_setupsIn_1 rfl rfl rfl ?_
  refine w_callV (q := 5) hX (c_X3_familiesIn _ _ hK hR hC hO w hw) rfl kV_X3_familiesIn rfl (by decide) lk_X3_90 (by decide) rfl hK.1 (Nat.le_of_ble_eq_true rfl) dX3_setupsIn_2 rfl ?_
  refine w_callS (q := 8) hX (c_J6_bitCount _ _ _ (nMask_lt hO w np (Nat.le_refl _))) rfl kS_J6_bitCount_0f7a4 rfl (by decide) lk_X3_93 (Nat.le_of_ble_eq_true rfl) dX3_setupsIn_5 rfl ?_
  refine v_istore_n (q := 9) hX dX3_setupsIn_8 rfl (Nat.le_of_ble_eq_true rfl) (Nat.le_of_ble_eq_true rfl) rfl ?_
  dsimp only [xs1, xs2, xclr]
  refine v_iconst (q := 10) hX dX3_setupsIn_9 rfl ?_
  refine v_istore_n (q := 11) hX dX3_setupsIn_10 rfl (Nat.le_of_ble_eq_true rfl) (Nat.le_of_ble_eq_true rfl) rfl ?_
  dsimp only [xs1, xs2, xclr]
  have e1 := L 0 (Nat.zero_le _)
  simp only [nMade, Int.add_zero] at e1
  exact e1

set_option maxRecDepth 100000 in
set_option maxHeartbeats 4000000 in
theorem c_X3_hoursWith0 {z : Nat} (D : xD) (r : xR) {o : Nat} (hK : WK o) (hR : WR o r) {np : Nat} {N : Nat → Int} (hC : CR D o N np) {B : Int} (hO : nOk B np N) (w : Nat) (hw : w < 12) : MX 1 mX3_hoursWith [.ref o, vi w, .null, vi 0] (351, z) D r (351, z) (xP (vi (nHours N np w)) D r) := by
  refine MX.of (by decide +kernel) [some (.ref o), some (vi w), some (.null), some (vi 0), none, none, none, none, none] rfl (Nat.le_of_ble_eq_true rfl) ?_
  intro γ hX hRX
  have hnp := hO.np.2
  have hl1 : ∀ p, p < np → 0 ≤ pF N p (24 + w) ∧ pF N p (24 + w) ≤ 2000 := by
    intro p hp
    have h1 := hO.lots (p := p) (k := w) hp hw
    omega
  have hM : ∀ p i, i < 24 → pF N p i = pF N p i := fun p i hi => rfl
  have hF : ∀ f, f < 4 → N (14 + f) = N (14 + f) := fun f hf => rfl
  have hf0 : ∀ k, k ≤ np → nMask N w k < 16 := fun k hk => nMk_lt w k (fun p hp => by rw [hM p 0 (by decide)]; exact (hO.2.2.2.2.2 p (by omega)).1)
  have hm := hf0 np (Nat.le_refl _)
  have F : ∀ f, f ≤ 4 → xV γ 94 [some (.ref o), none, none, none, some (vi (nHrs N w np + nFh N (nMask N w np) f)), some (vi (nMask N w np : Nat)), some (vi (f : Nat)), none, none] [] (351, z) D r := by
    refine xup 4 (fun f hf ih => ?_)
    refine v_iload (q := 96) hX dX3_hoursWith_94 rfl rfl ?_
    refine v_iconst (q := 97) hX dX3_hoursWith_96 rfl ?_
    refine v_icmp_ge (q := 100) (tgt := 128) hX ⟨by omega, by omega⟩ (by decide) dX3_hoursWith_97 (by decide) rfl (fun h97 => ?_) (fun h97 => ?_)
    · refine v_iload (q := 130) hX dX3_hoursWith_128 rfl rfl ?_
      refine v_ireturn hX hRX rfl (by first | rfl | exact bi_nar _) dX3_hoursWith_130 rfl ?_
      rw [show f = 4 by omega]
      exact ⟨rfl, rfl, rfl⟩
    · refine v_iload (q := 102) hX dX3_hoursWith_100 rfl rfl ?_
      refine v_iload (q := 104) hX dX3_hoursWith_102 rfl rfl ?_
      refine v_ishr (q := 105) hX (_) (bshr4 _ hm _ (by omega)) dX3_hoursWith_104 rfl ?_
      refine v_iconst (q := 106) hX dX3_hoursWith_105 rfl ?_
      refine v_iand (q := 107) hX (_) (band1 _ (Nat.lt_of_le_of_lt (Nat.shiftRight_le _ _) hm)) dX3_hoursWith_106 rfl ?_
      refine v_if_eq (q := 110) (tgt := 122) hX ⟨by omega, by omega⟩ dX3_hoursWith_107 (by decide) rfl (fun h107 => ?_) (fun h107 => ?_)
      · refine v_iinc (q := 125) hX dX3_hoursWith_122 rfl (Nat.le_of_ble_eq_true rfl) (Nat.le_of_ble_eq_true rfl) rfl ?_
        dsimp only [xs1, xs2, xclr]
        refine v_goto (tgt := 94) hX dX3_hoursWith_125 (by decide) ?_
        have e1 := ih (by omega)
        simp only [nFh] at e1
        first | rw [if_pos (by omega)] at e1 | rw [if_neg (by omega)] at e1
        rw [← Int.add_assoc] at e1
        first | exact e1 | (rw [Int.add_zero] at e1; exact e1)
      · refine v_iload (q := 112) hX dX3_hoursWith_110 rfl rfl ?_
        refine v_aload_n (q := 113) hX dX3_hoursWith_112 rfl rfl rfl ?_
        refine w_getR (q := 116) hX fl_X3_23 rfl hK.1 hR.2.1 dX3_hoursWith_113 rfl ?_
        refine v_iload (q := 118) hX dX3_hoursWith_116 rfl rfl ?_
        refine w_ild (q := 119) (kk := f) hX (by omega) (by omega) hK.2.2.1 dX3_hoursWith_118 rfl ?_
        rw [hC.fh (f := f) (by omega), ← hF f (by omega)]
        refine v_iadd (q := 120) hX dX3_hoursWith_119 rfl ?_
        refine v_istore (q := 122) hX dX3_hoursWith_120 (Nat.le_of_ble_eq_true rfl) (Nat.le_of_ble_eq_true rfl) rfl ?_
        dsimp only [xs1, xs2, xclr]
        refine v_iinc (q := 125) hX dX3_hoursWith_122 rfl (Nat.le_of_ble_eq_true rfl) (Nat.le_of_ble_eq_true rfl) rfl ?_
        dsimp only [xs1, xs2, xclr]
        refine v_goto (tgt := 94) hX dX3_hoursWith_125 (by decide) ?_
        have e1 := ih (by omega)
        simp only [nFh] at e1
        first | rw [if_pos (by omega)] at e1 | rw [if_neg (by omega)] at e1
        rw [← Int.add_assoc] at e1
        first | exact e1 | (rw [Int.add_zero] at e1; exact e1)
  have K91 : xV γ 91 [some (.ref o), none, none, none, some (vi (nHrs N w np)), some (vi (nMask N w np : Nat)), none, none, none] [] (351, z) D r := by
    refine v_iconst (q := 92) hX dX3_hoursWith_91 rfl ?_
    refine v_istore (q := 94) hX dX3_hoursWith_92 (Nat.le_of_ble_eq_true rfl) (Nat.le_of_ble_eq_true rfl) rfl ?_
    dsimp only [xs1, xs2, xclr]
    have e1 := F 0 (Nat.zero_le _)
    simp only [nFh, Int.add_zero] at e1
    exact e1
  have L : ∀ k, k ≤ np → xV γ 9 [some (.ref o), some (vi w), some (.null), some (vi 0), some (vi (nHrs N w k)), some (vi (nMask N w k : Nat)), some (vi (k : Nat)), none, none] [] (351, z) D r := by
    have hge := hK.ge
    refine xup np (fun k hk ih => ?_)
    have K47 : ∀ x, x = pF N k (24 + w) → k < np → xV γ 47 [some (.ref o), some (vi w), some (.null), some (vi 0), some (vi (nHrs N w k)), some (vi (nMask N w k : Nat)), some (vi (k : Nat)), some (.ref (o + 4 + 3 * k)), none] [vi x] (351, z) D r := by
      intro x hx hkn
      subst hx
      refine v_istore (q := 49) hX dX3_hoursWith_47 (Nat.le_of_ble_eq_true rfl) (Nat.le_of_ble_eq_true rfl) rfl ?_
      dsimp only [xs1, xs2, xclr]
      refine v_iload (q := 51) hX dX3_hoursWith_49 rfl rfl ?_
      have hl := hl1 k (by omega)
      refine v_if_le (q := 54) (tgt := 85) hX ⟨by omega, by omega⟩ dX3_hoursWith_51 (by decide) rfl (fun h51 => ?_) (fun h51 => ?_)
      · refine v_iinc (q := 88) hX dX3_hoursWith_85 rfl (Nat.le_of_ble_eq_true rfl) (Nat.le_of_ble_eq_true rfl) rfl ?_
        dsimp only [xs1, xs2, xclr]
        refine v_goto (tgt := 9) hX dX3_hoursWith_88 (by decide) ?_
        have e1 := ih (by omega)
        simp only [nHrs, nMask] at e1
        first | (rw [if_pos (by omega), if_pos (by omega), hM k 0 (by decide), hf3] at e1) | (rw [if_neg (by omega), if_neg (by omega), Int.add_zero] at e1)
        exact xVw (by repeat' first | exact trivial | refine And.intro rfl ?_) e1
      · refine v_iload (q := 56) hX dX3_hoursWith_54 rfl rfl ?_
        refine v_aload (q := 58) hX dX3_hoursWith_56 rfl rfl ?_
        refine w_getI (q := 61) hX fl_X3_81 rfl (hK.pk (p := k) (by omega)).1 dX3_hoursWith_58 rfl ?_
        rw [(hC.pc (p := k) (by omega)).sh, ← hM k 3 (by decide)]
        refine v_iload (q := 63) hX dX3_hoursWith_61 rfl rfl ?_
        refine v_aload (q := 65) hX dX3_hoursWith_63 rfl rfl ?_
        refine w_getI (q := 68) hX fl_X3_84 rfl (hK.pk (p := k) (by omega)).1 dX3_hoursWith_65 rfl ?_
        rw [(hC.pc (p := k) (by omega)).lh, ← hM k 2 (by decide)]
        refine v_imul (q := 69) hX dX3_hoursWith_68 rfl ?_
        refine v_iadd (q := 70) hX dX3_hoursWith_69 rfl ?_
        refine v_iadd (q := 71) hX dX3_hoursWith_70 rfl ?_
        refine v_istore (q := 73) hX dX3_hoursWith_71 (Nat.le_of_ble_eq_true rfl) (Nat.le_of_ble_eq_true rfl) rfl ?_
        dsimp only [xs1, xs2, xclr]
        refine v_iload (q := 75) hX dX3_hoursWith_73 rfl rfl ?_
        refine v_iconst (q := 76) hX dX3_hoursWith_75 rfl ?_
        refine v_aload (q := 78) hX dX3_hoursWith_76 rfl rfl ?_
        refine w_getI (q := 81) hX fl_X3_87 rfl (hK.pk (p := k) (by omega)).1 dX3_hoursWith_78 rfl ?_
        obtain ⟨f, hf1, hf2, hf3⟩ := hO.fam (p := k) (by omega)
        rw [(hC.pc (p := k) (by omega)).fa, hf1]
        refine v_ishl (q := 82) hX (((2 ^ f : Nat) : Int)) (bshl4 f hf2) dX3_hoursWith_81 rfl ?_
        refine v_ior (q := 83) hX (_) (bor16 _ (hf0 k (by omega)) _ (p2_lt16 f hf2)) dX3_hoursWith_82 rfl ?_
        refine v_istore (q := 85) hX dX3_hoursWith_83 (Nat.le_of_ble_eq_true rfl) (Nat.le_of_ble_eq_true rfl) rfl ?_
        dsimp only [xs1, xs2, xclr]
        refine v_iinc (q := 88) hX dX3_hoursWith_85 rfl (Nat.le_of_ble_eq_true rfl) (Nat.le_of_ble_eq_true rfl) rfl ?_
        dsimp only [xs1, xs2, xclr]
        refine v_goto (tgt := 9) hX dX3_hoursWith_88 (by decide) ?_
        have e1 := ih (by omega)
        simp only [nHrs, nMask] at e1
        first | (rw [if_pos (by omega), if_pos (by omega), hM k 0 (by decide), hf3] at e1) | (rw [if_neg (by omega), if_neg (by omega), Int.add_zero] at e1)
        exact xVw (by repeat' first | exact trivial | refine And.intro rfl ?_) e1
    refine v_iload (q := 11) hX dX3_hoursWith_9 rfl rfl ?_
    refine v_aload_n (q := 12) hX dX3_hoursWith_11 rfl rfl rfl ?_
    refine w_getI (q := 15) hX fl_X3_45 rfl hK.1 dX3_hoursWith_12 rfl ?_
    rw [hC.np]
    refine v_icmp_ge (q := 18) (tgt := 91) hX ⟨by omega, by omega⟩ ⟨by omega, by omega⟩ dX3_hoursWith_15 (by decide) rfl (fun h15 => ?_) (fun h15 => ?_)
    · refine xVw (pl' := [some (.ref o), none, none, none, some (vi (nHrs N w k)), some (vi (nMask N w k : Nat)), none, none, none]) (by repeat' first | exact trivial | refine And.intro rfl ?_) ?_
      rw [show k = np by omega]
      exact K91
    · refine v_aload_n (q := 19) hX dX3_hoursWith_18 rfl rfl rfl ?_
      refine v_iload (q := 21) hX dX3_hoursWith_19 rfl rfl ?_
      refine w_callV (q := 24) hX (c_X3_productAt _ _ hK hR hC.np hO.np.2 (k) (by omega)) rfl kV_X3_productAt rfl (by decide) lk_X3_49 (by decide) rfl hK.1 (Nat.le_of_ble_eq_true rfl) dX3_hoursWith_21 rfl ?_
      refine v_astore (q := 26) hX dX3_hoursWith_24 (Nat.le_of_ble_eq_true rfl) (Nat.le_of_ble_eq_true rfl) rfl ?_
      dsimp only [xs1, xs2, xclr]
      refine v_aload (q := 28) hX dX3_hoursWith_26 rfl rfl ?_
      refine v_ifnull (q := 31) hX dX3_hoursWith_28 rfl ?_
      refine v_aload (q := 33) hX dX3_hoursWith_31 rfl rfl ?_
      refine v_aloadN_n (q := 34) hX dX3_hoursWith_33 rfl rfl rfl ?_
      refine v_acmp_neN (tgt := 41) hX dX3_hoursWith_34 (by decide) ?_
      refine v_aload (q := 43) hX dX3_hoursWith_41 rfl rfl ?_
      refine v_iload_n (q := 44) hX dX3_hoursWith_43 rfl rfl rfl ?_
      refine w_callV (q := 47) hX (c_X2_lotsIn _ _ (hK.pk (p := k) (by omega)) (hR.pr (p := k) (by omega)) (hC.pc (p := k) (by omega)) w (by omega)) rfl kV_X2_lotsIn rfl (by decide) lk_X3_78 (by decide) rfl (hK.pk (p := k) (by omega)).1 (Nat.le_of_ble_eq_true rfl) dX3_hoursWith_44 rfl ?_
      exact K47 _ rfl (by omega)
  refine v_iconst (q := 1) hX dX3_hoursWith_0 rfl ?_
  refine v_istore (q := 3) hX dX3_hoursWith_1 (Nat.le_of_ble_eq_true rfl) (Nat.le_of_ble_eq_true rfl) rfl ?_
  dsimp only [xs1, xs2, xclr]
  refine v_iconst (q := 4) hX dX3_hoursWith_3 rfl ?_
  refine v_istore (q := 6) hX dX3_hoursWith_4 (Nat.le_of_ble_eq_true rfl) (Nat.le_of_ble_eq_true rfl) rfl ?_
  dsimp only [xs1, xs2, xclr]
  refine v_iconst (q := 7) hX dX3_hoursWith_6 rfl ?_
  refine v_istore (q := 9) hX dX3_hoursWith_7 (Nat.le_of_ble_eq_true rfl) (Nat.le_of_ble_eq_true rfl) rfl ?_
  dsimp only [xs1, xs2, xclr]
  exact L 0 (Nat.zero_le _)

set_option maxRecDepth 100000 in
set_option maxHeartbeats 4000000 in
theorem c_X3_hoursWith {z : Nat} (D : xD) (r : xR) {o : Nat} (hK : WK o) (hR : WR o r) {np : Nat} {N : Nat → Int} (hC : CR D o N np) {B : Int} (hO : nOk B np N) (w : Nat) (hw : w < 12) (q : Nat) (hq : q < np) (l : Int) (hl : 0 ≤ l ∧ l ≤ 1001) : MX 1 mX3_hoursWith [.ref o, vi w, .ref (o + 4 + 3 * q), vi l] (351, z) D r (351, z) (xP (vi (nHours (fu N (18 + 36 * q + (24 + w)) l) np w)) D r) := by
  refine MX.of (by decide +kernel) [some (.ref o), some (vi w), some (.ref (o + 4 + 3 * q)), some (vi l), none, none, none, none, none] rfl (Nat.le_of_ble_eq_true rfl) ?_
  intro γ hX hRX
  have hnp := hO.np.2
  have hl1 : ∀ p, p < np → 0 ≤ pF (fu N (18 + 36 * q + (24 + w)) l) p (24 + w) ∧ pF (fu N (18 + 36 * q + (24 + w)) l) p (24 + w) ≤ 2000 := by
    intro p hp
    have h1 := hO.lots (p := p) (k := w) hp hw
    by_cases hq : p = q
    · subst hq; rw [show pF (fu N (18 + 36 * p + (24 + w)) l) p (24 + w) = l from fu_at _ _ _]; omega
    · rw [show pF (fu N (18 + 36 * q + (24 + w)) l) p (24 + w) = pF N p (24 + w) from fu_ne _ _ _ (by omega)]; omega
  have hM : ∀ p i, i < 24 → pF (fu N (18 + 36 * q + (24 + w)) l) p i = pF N p i := fun p i hi => fu_ne _ _ _ (by omega)
  have hF : ∀ f, f < 4 → (fu N (18 + 36 * q + (24 + w)) l) (14 + f) = N (14 + f) := fun f hf => fu_ne _ _ _ (by omega)
  have hf0 : ∀ k, k ≤ np → nMask (fu N (18 + 36 * q + (24 + w)) l) w k < 16 := fun k hk => nMk_lt w k (fun p hp => by rw [hM p 0 (by decide)]; exact (hO.2.2.2.2.2 p (by omega)).1)
  have hm := hf0 np (Nat.le_refl _)
  have F : ∀ f, f ≤ 4 → xV γ 94 [some (.ref o), none, none, none, some (vi (nHrs (fu N (18 + 36 * q + (24 + w)) l) w np + nFh (fu N (18 + 36 * q + (24 + w)) l) (nMask (fu N (18 + 36 * q + (24 + w)) l) w np) f)), some (vi (nMask (fu N (18 + 36 * q + (24 + w)) l) w np : Nat)), some (vi (f : Nat)), none, none] [] (351, z) D r := by
    refine xup 4 (fun f hf ih => ?_)
    refine v_iload (q := 96) hX dX3_hoursWith_94 rfl rfl ?_
    refine v_iconst (q := 97) hX dX3_hoursWith_96 rfl ?_
    refine v_icmp_ge (q := 100) (tgt := 128) hX ⟨by omega, by omega⟩ (by decide) dX3_hoursWith_97 (by decide) rfl (fun h97 => ?_) (fun h97 => ?_)
    · refine v_iload (q := 130) hX dX3_hoursWith_128 rfl rfl ?_
      refine v_ireturn hX hRX rfl (by first | rfl | exact bi_nar _) dX3_hoursWith_130 rfl ?_
      rw [show f = 4 by omega]
      exact ⟨rfl, rfl, rfl⟩
    · refine v_iload (q := 102) hX dX3_hoursWith_100 rfl rfl ?_
      refine v_iload (q := 104) hX dX3_hoursWith_102 rfl rfl ?_
      refine v_ishr (q := 105) hX (_) (bshr4 _ hm _ (by omega)) dX3_hoursWith_104 rfl ?_
      refine v_iconst (q := 106) hX dX3_hoursWith_105 rfl ?_
      refine v_iand (q := 107) hX (_) (band1 _ (Nat.lt_of_le_of_lt (Nat.shiftRight_le _ _) hm)) dX3_hoursWith_106 rfl ?_
      refine v_if_eq (q := 110) (tgt := 122) hX ⟨by omega, by omega⟩ dX3_hoursWith_107 (by decide) rfl (fun h107 => ?_) (fun h107 => ?_)
      · refine v_iinc (q := 125) hX dX3_hoursWith_122 rfl (Nat.le_of_ble_eq_true rfl) (Nat.le_of_ble_eq_true rfl) rfl ?_
        dsimp only [xs1, xs2, xclr]
        refine v_goto (tgt := 94) hX dX3_hoursWith_125 (by decide) ?_
        have e1 := ih (by omega)
        simp only [nFh] at e1
        first | rw [if_pos (by omega)] at e1 | rw [if_neg (by omega)] at e1
        rw [← Int.add_assoc] at e1
        first | exact e1 | (rw [Int.add_zero] at e1; exact e1)
      · refine v_iload (q := 112) hX dX3_hoursWith_110 rfl rfl ?_
        refine v_aload_n (q := 113) hX dX3_hoursWith_112 rfl rfl rfl ?_
        refine w_getR (q := 116) hX fl_X3_23 rfl hK.1 hR.2.1 dX3_hoursWith_113 rfl ?_
        refine v_iload (q := 118) hX dX3_hoursWith_116 rfl rfl ?_
        refine w_ild (q := 119) (kk := f) hX (by omega) (by omega) hK.2.2.1 dX3_hoursWith_118 rfl ?_
        rw [hC.fh (f := f) (by omega), ← hF f (by omega)]
        refine v_iadd (q := 120) hX dX3_hoursWith_119 rfl ?_
        refine v_istore (q := 122) hX dX3_hoursWith_120 (Nat.le_of_ble_eq_true rfl) (Nat.le_of_ble_eq_true rfl) rfl ?_
        dsimp only [xs1, xs2, xclr]
        refine v_iinc (q := 125) hX dX3_hoursWith_122 rfl (Nat.le_of_ble_eq_true rfl) (Nat.le_of_ble_eq_true rfl) rfl ?_
        dsimp only [xs1, xs2, xclr]
        refine v_goto (tgt := 94) hX dX3_hoursWith_125 (by decide) ?_
        have e1 := ih (by omega)
        simp only [nFh] at e1
        first | rw [if_pos (by omega)] at e1 | rw [if_neg (by omega)] at e1
        rw [← Int.add_assoc] at e1
        first | exact e1 | (rw [Int.add_zero] at e1; exact e1)
  have K91 : xV γ 91 [some (.ref o), none, none, none, some (vi (nHrs (fu N (18 + 36 * q + (24 + w)) l) w np)), some (vi (nMask (fu N (18 + 36 * q + (24 + w)) l) w np : Nat)), none, none, none] [] (351, z) D r := by
    refine v_iconst (q := 92) hX dX3_hoursWith_91 rfl ?_
    refine v_istore (q := 94) hX dX3_hoursWith_92 (Nat.le_of_ble_eq_true rfl) (Nat.le_of_ble_eq_true rfl) rfl ?_
    dsimp only [xs1, xs2, xclr]
    have e1 := F 0 (Nat.zero_le _)
    simp only [nFh, Int.add_zero] at e1
    exact e1
  have L : ∀ k, k ≤ np → xV γ 9 [some (.ref o), some (vi w), some (.ref (o + 4 + 3 * q)), some (vi l), some (vi (nHrs (fu N (18 + 36 * q + (24 + w)) l) w k)), some (vi (nMask (fu N (18 + 36 * q + (24 + w)) l) w k : Nat)), some (vi (k : Nat)), none, none] [] (351, z) D r := by
    have hge := hK.ge
    refine xup np (fun k hk ih => ?_)
    have K47 : ∀ x, x = pF (fu N (18 + 36 * q + (24 + w)) l) k (24 + w) → k < np → xV γ 47 [some (.ref o), some (vi w), some (.ref (o + 4 + 3 * q)), some (vi l), some (vi (nHrs (fu N (18 + 36 * q + (24 + w)) l) w k)), some (vi (nMask (fu N (18 + 36 * q + (24 + w)) l) w k : Nat)), some (vi (k : Nat)), some (.ref (o + 4 + 3 * k)), none] [vi x] (351, z) D r := by
      intro x hx hkn
      subst hx
      refine v_istore (q := 49) hX dX3_hoursWith_47 (Nat.le_of_ble_eq_true rfl) (Nat.le_of_ble_eq_true rfl) rfl ?_
      dsimp only [xs1, xs2, xclr]
      refine v_iload (q := 51) hX dX3_hoursWith_49 rfl rfl ?_
      have hl := hl1 k (by omega)
      refine v_if_le (q := 54) (tgt := 85) hX ⟨by omega, by omega⟩ dX3_hoursWith_51 (by decide) rfl (fun h51 => ?_) (fun h51 => ?_)
      · refine v_iinc (q := 88) hX dX3_hoursWith_85 rfl (Nat.le_of_ble_eq_true rfl) (Nat.le_of_ble_eq_true rfl) rfl ?_
        dsimp only [xs1, xs2, xclr]
        refine v_goto (tgt := 9) hX dX3_hoursWith_88 (by decide) ?_
        have e1 := ih (by omega)
        simp only [nHrs, nMask] at e1
        first | (rw [if_pos (by omega), if_pos (by omega), hM k 0 (by decide), hf3] at e1) | (rw [if_neg (by omega), if_neg (by omega), Int.add_zero] at e1)
        exact xVw (by repeat' first | exact trivial | refine And.intro rfl ?_) e1
      · refine v_iload (q := 56) hX dX3_hoursWith_54 rfl rfl ?_
        refine v_aload (q := 58) hX dX3_hoursWith_56 rfl rfl ?_
        refine w_getI (q := 61) hX fl_X3_81 rfl (hK.pk (p := k) (by omega)).1 dX3_hoursWith_58 rfl ?_
        rw [(hC.pc (p := k) (by omega)).sh, ← hM k 3 (by decide)]
        refine v_iload (q := 63) hX dX3_hoursWith_61 rfl rfl ?_
        refine v_aload (q := 65) hX dX3_hoursWith_63 rfl rfl ?_
        refine w_getI (q := 68) hX fl_X3_84 rfl (hK.pk (p := k) (by omega)).1 dX3_hoursWith_65 rfl ?_
        rw [(hC.pc (p := k) (by omega)).lh, ← hM k 2 (by decide)]
        refine v_imul (q := 69) hX dX3_hoursWith_68 rfl ?_
        refine v_iadd (q := 70) hX dX3_hoursWith_69 rfl ?_
        refine v_iadd (q := 71) hX dX3_hoursWith_70 rfl ?_
        refine v_istore (q := 73) hX dX3_hoursWith_71 (Nat.le_of_ble_eq_true rfl) (Nat.le_of_ble_eq_true rfl) rfl ?_
        dsimp only [xs1, xs2, xclr]
        refine v_iload (q := 75) hX dX3_hoursWith_73 rfl rfl ?_
        refine v_iconst (q := 76) hX dX3_hoursWith_75 rfl ?_
        refine v_aload (q := 78) hX dX3_hoursWith_76 rfl rfl ?_
        refine w_getI (q := 81) hX fl_X3_87 rfl (hK.pk (p := k) (by omega)).1 dX3_hoursWith_78 rfl ?_
        obtain ⟨f, hf1, hf2, hf3⟩ := hO.fam (p := k) (by omega)
        rw [(hC.pc (p := k) (by omega)).fa, hf1]
        refine v_ishl (q := 82) hX (((2 ^ f : Nat) : Int)) (bshl4 f hf2) dX3_hoursWith_81 rfl ?_
        refine v_ior (q := 83) hX (_) (bor16 _ (hf0 k (by omega)) _ (p2_lt16 f hf2)) dX3_hoursWith_82 rfl ?_
        refine v_istore (q := 85) hX dX3_hoursWith_83 (Nat.le_of_ble_eq_true rfl) (Nat.le_of_ble_eq_true rfl) rfl ?_
        dsimp only [xs1, xs2, xclr]
        refine v_iinc (q := 88) hX dX3_hoursWith_85 rfl (Nat.le_of_ble_eq_true rfl) (Nat.le_of_ble_eq_true rfl) rfl ?_
        dsimp only [xs1, xs2, xclr]
        refine v_goto (tgt := 9) hX dX3_hoursWith_88 (by decide) ?_
        have e1 := ih (by omega)
        simp only [nHrs, nMask] at e1
        first | (rw [if_pos (by omega), if_pos (by omega), hM k 0 (by decide), hf3] at e1) | (rw [if_neg (by omega), if_neg (by omega), Int.add_zero] at e1)
        exact xVw (by repeat' first | exact trivial | refine And.intro rfl ?_) e1
    refine v_iload (q := 11) hX dX3_hoursWith_9 rfl rfl ?_
    refine v_aload_n (q := 12) hX dX3_hoursWith_11 rfl rfl rfl ?_
    refine w_getI (q := 15) hX fl_X3_45 rfl hK.1 dX3_hoursWith_12 rfl ?_
    rw [hC.np]
    refine v_icmp_ge (q := 18) (tgt := 91) hX ⟨by omega, by omega⟩ ⟨by omega, by omega⟩ dX3_hoursWith_15 (by decide) rfl (fun h15 => ?_) (fun h15 => ?_)
    · refine xVw (pl' := [some (.ref o), none, none, none, some (vi (nHrs (fu N (18 + 36 * q + (24 + w)) l) w k)), some (vi (nMask (fu N (18 + 36 * q + (24 + w)) l) w k : Nat)), none, none, none]) (by repeat' first | exact trivial | refine And.intro rfl ?_) ?_
      rw [show k = np by omega]
      exact K91
    · refine v_aload_n (q := 19) hX dX3_hoursWith_18 rfl rfl rfl ?_
      refine v_iload (q := 21) hX dX3_hoursWith_19 rfl rfl ?_
      refine w_callV (q := 24) hX (c_X3_productAt _ _ hK hR hC.np hO.np.2 (k) (by omega)) rfl kV_X3_productAt rfl (by decide) lk_X3_49 (by decide) rfl hK.1 (Nat.le_of_ble_eq_true rfl) dX3_hoursWith_21 rfl ?_
      refine v_astore (q := 26) hX dX3_hoursWith_24 (Nat.le_of_ble_eq_true rfl) (Nat.le_of_ble_eq_true rfl) rfl ?_
      dsimp only [xs1, xs2, xclr]
      refine v_aload (q := 28) hX dX3_hoursWith_26 rfl rfl ?_
      refine v_ifnull (q := 31) hX dX3_hoursWith_28 rfl ?_
      refine v_aload (q := 33) hX dX3_hoursWith_31 rfl rfl ?_
      refine v_aload_n (q := 34) hX dX3_hoursWith_33 rfl rfl rfl ?_
      refine v_acmp_ne (q := 37) (tgt := 41) hX (by omega) (by omega) dX3_hoursWith_34 (by decide) rfl (fun h34 => ?_) (fun h34 => ?_)
      · refine v_aload (q := 43) hX dX3_hoursWith_41 rfl rfl ?_
        refine v_iload_n (q := 44) hX dX3_hoursWith_43 rfl rfl rfl ?_
        refine w_callV (q := 47) hX (c_X2_lotsIn _ _ (hK.pk (p := k) (by omega)) (hR.pr (p := k) (by omega)) (hC.pc (p := k) (by omega)) w (by omega)) rfl kV_X2_lotsIn rfl (by decide) lk_X3_78 (by decide) rfl (hK.pk (p := k) (by omega)).1 (Nat.le_of_ble_eq_true rfl) dX3_hoursWith_44 rfl ?_
        exact K47 _ (by first | exact (pF_fu_ne N l (by omega) (by omega) (by omega)).symm | (rw [show k = q by omega]; exact (pF_fu_at N q _ l).symm)) (by omega)
      · refine v_iload_n (q := 38) hX dX3_hoursWith_37 rfl rfl rfl ?_
        refine v_goto (tgt := 47) hX dX3_hoursWith_38 (by decide) ?_
        exact K47 _ (by first | exact (pF_fu_ne N l (by omega) (by omega) (by omega)).symm | (rw [show k = q by omega]; exact (pF_fu_at N q _ l).symm)) (by omega)
  refine v_iconst (q := 1) hX dX3_hoursWith_0 rfl ?_
  refine v_istore (q := 3) hX dX3_hoursWith_1 (Nat.le_of_ble_eq_true rfl) (Nat.le_of_ble_eq_true rfl) rfl ?_
  dsimp only [xs1, xs2, xclr]
  refine v_iconst (q := 4) hX dX3_hoursWith_3 rfl ?_
  refine v_istore (q := 6) hX dX3_hoursWith_4 (Nat.le_of_ble_eq_true rfl) (Nat.le_of_ble_eq_true rfl) rfl ?_
  dsimp only [xs1, xs2, xclr]
  refine v_iconst (q := 7) hX dX3_hoursWith_6 rfl ?_
  refine v_istore (q := 9) hX dX3_hoursWith_7 (Nat.le_of_ble_eq_true rfl) (Nat.le_of_ble_eq_true rfl) rfl ?_
  dsimp only [xs1, xs2, xclr]
  exact L 0 (Nat.zero_le _)

set_option maxRecDepth 100000 in
set_option maxHeartbeats 4000000 in
theorem c_X3_hoursIn {z : Nat} (D : xD) (r : xR) {o : Nat} (hK : WK o) (hR : WR o r) {np : Nat} {N : Nat → Int} (hC : CR D o N np) {B : Int} (hO : nOk B np N) (w : Nat) (hw : w < 12) : MX 2 mX3_hoursIn [.ref o, vi w] (351, z) D r (351, z) (xP (vi (nHours N np w)) D r) := by
  refine MX.of (by decide +kernel) [some (.ref o), some (vi w)] rfl (Nat.le_of_ble_eq_true rfl) ?_
  intro γ hX hRX
  refine v_aload_n (q := 1) hX dX3_hoursIn_0 rfl rfl rfl ?_
  refine v_iload_n (q := 2) hX dX3_hoursIn_1 rfl rfl rfl ?_
  refine v_null (q := 3) hX dX3_hoursIn_2 rfl ?_
  refine v_iconst (q := 4) hX dX3_hoursIn_3 rfl ?_
  refine w_callV (q := 7) hX (c_X3_hoursWith0 _ _ hK hR hC hO w hw) rfl kV_X3_hoursWith rfl (by decide) lk_X3_74 (by decide) rfl hK.1 (Nat.le_of_ble_eq_true rfl) dX3_hoursIn_4 rfl ?_
  refine v_ireturn hX hRX rfl (by first | rfl | exact bi_nar _) dX3_hoursIn_7 rfl ?_
  exact ⟨rfl, rfl, rfl⟩

set_option maxRecDepth 100000 in
set_option maxHeartbeats 4000000 in
theorem c_X3_overtimeIn {z : Nat} (D : xD) (r : xR) {o : Nat} (hK : WK o) (hR : WR o r) {np : Nat} {N : Nat → Int} (hC : CR D o N np) {B : Int} (hO : nOk B np N) (w : Nat) (hw : w < 12) : MX 2 mX3_overtimeIn [.ref o, vi w] (351, z) D r (351, z) (xP (vi (nOver N np w)) D r) := by
  refine MX.of (by decide +kernel) [some (.ref o), some (vi w)] rfl (Nat.le_of_ble_eq_true rfl) ?_
  intro γ hX hRX
  have hh := nHours_le hO hw
  have hs := hO.2.2.2.1
  refine v_iconst (q := 1) hX dX3_overtimeIn_0 rfl ?_
  refine v_aload_n (q := 2) hX dX3_overtimeIn_1 rfl rfl rfl ?_
  refine v_iload_n (q := 3) hX dX3_overtimeIn_2 rfl rfl rfl ?_
  refine v_null (q := 4) hX dX3_overtimeIn_3 rfl ?_
  refine v_iconst (q := 5) hX dX3_overtimeIn_4 rfl ?_
  refine w_callV (q := 8) hX (c_X3_hoursWith0 _ _ hK hR hC hO w hw) rfl kV_X3_hoursWith rfl (by decide) lk_X3_74 (by decide) rfl hK.1 (Nat.le_of_ble_eq_true rfl) dX3_overtimeIn_5 rfl ?_
  refine v_aload_n (q := 9) hX dX3_overtimeIn_8 rfl rfl rfl ?_
  refine v_iconst (q := 10) hX dX3_overtimeIn_9 rfl ?_
  refine w_callV (q := 13) hX (c_X3_setting _ _ hK hR hC 0 (by omega) (j := 5) rfl) rfl kV_X3_setting rfl (by decide) lk_X3_70 (by decide) rfl hK.1 (Nat.le_of_ble_eq_true rfl) dX3_overtimeIn_10 rfl ?_
  refine v_isub (q := 14) hX dX3_overtimeIn_13 rfl ?_
  refine v_mmax (q := 17) hX (by decide) ⟨by omega, by omega⟩ lk_X3_98 st_max (show Cond.initialized "java/lang/Math" ∈ xtb from ii_J9) cd_max (by decide) (Nat.le_of_ble_eq_true rfl) dX3_overtimeIn_14 rfl ?_
  refine v_ireturn hX hRX rfl (by first | rfl | exact bi_nar _) dX3_overtimeIn_17 rfl ?_
  exact ⟨rfl, rfl, rfl⟩

set_option maxRecDepth 100000 in
set_option maxHeartbeats 4000000 in
theorem c_X3_allLots {z : Nat} (D : xD) (r : xR) {o : Nat} (hK : WK o) (hR : WR o r) {np : Nat} {N : Nat → Int} (hC : CR D o N np) {B : Int} (hO : nOk B np N) : MX 1 mX3_allLots [.ref o] (351, z) D r (351, z) (xP (vi (nLots N np)) D r) := by
  refine MX.of (by decide +kernel) [some (.ref o), none, none, none] rfl (Nat.le_of_ble_eq_true rfl) ?_
  intro γ hX hRX
  have hnp := hO.np.2
  have L : ∀ k, k ≤ np → xV γ 4 [some (.ref o), some (vi (nLots N k)), some (vi (k : Nat)), none] [] (351, z) D r := by
    refine xup np (fun k hk ih => ?_)
    refine v_iload_n (q := 5) hX dX3_allLots_4 rfl rfl rfl ?_
    refine v_aload_n (q := 6) hX dX3_allLots_5 rfl rfl rfl ?_
    refine w_getI (q := 9) hX fl_X3_45 rfl hK.1 dX3_allLots_6 rfl ?_
    rw [hC.np]
    refine v_icmp_ge (q := 12) (tgt := 35) hX ⟨by omega, by omega⟩ ⟨by omega, by omega⟩ dX3_allLots_9 (by decide) rfl (fun h9 => ?_) (fun h9 => ?_)
    · refine v_iload_n (q := 36) hX dX3_allLots_35 rfl rfl rfl ?_
      refine v_ireturn hX hRX rfl (by first | rfl | exact bi_nar _) dX3_allLots_36 rfl ?_
      exact ⟨by rw [show k = np by omega], rfl, rfl⟩
    · refine v_aload_n (q := 13) hX dX3_allLots_12 rfl rfl rfl ?_
      refine v_iload_n (q := 14) hX dX3_allLots_13 rfl rfl rfl ?_
      refine w_callV (q := 17) hX (c_X3_productAt _ _ hK hR hC.np hO.np.2 (k) (by omega)) rfl kV_X3_productAt rfl (by decide) lk_X3_49 (by decide) rfl hK.1 (Nat.le_of_ble_eq_true rfl) dX3_allLots_14 rfl ?_
      refine v_astore_n (q := 18) hX dX3_allLots_17 rfl (Nat.le_of_ble_eq_true rfl) (Nat.le_of_ble_eq_true rfl) rfl ?_
      dsimp only [xs1, xs2, xclr]
      refine v_aload_n (q := 19) hX dX3_allLots_18 rfl rfl rfl ?_
      refine v_ifnull (q := 22) hX dX3_allLots_19 rfl ?_
      refine v_iload_n (q := 23) hX dX3_allLots_22 rfl rfl rfl ?_
      refine v_aload_n (q := 24) hX dX3_allLots_23 rfl rfl rfl ?_
      refine w_callV (q := 27) hX (c_X2_lotsInAll _ _ (hK.pk (p := k) (by omega)) (hR.pr (p := k) (by omega)) (hC.pc (p := k) (by omega))) rfl kV_X2_lotsInAll rfl (by decide) lk_X3_104 (by decide) rfl (hK.pk (p := k) (by omega)).1 (Nat.le_of_ble_eq_true rfl) dX3_allLots_24 rfl ?_
      refine v_iadd (q := 28) hX dX3_allLots_27 rfl ?_
      refine v_istore_n (q := 29) hX dX3_allLots_28 rfl (Nat.le_of_ble_eq_true rfl) (Nat.le_of_ble_eq_true rfl) rfl ?_
      dsimp only [xs1, xs2, xclr]
      refine v_iinc (q := 32) hX dX3_allLots_29 rfl (Nat.le_of_ble_eq_true rfl) (Nat.le_of_ble_eq_true rfl) rfl ?_
      dsimp only [xs1, xs2, xclr]
      refine v_goto (tgt := 4) hX dX3_allLots_32 (by decide) ?_
      have e1 := ih (by omega)
      exact xVw (by repeat' first | exact trivial | refine And.intro rfl ?_) e1
  refine v_iconst (q := 1) hX dX3_allLots_0 rfl ?_
  refine v_istore_n (q := 2) hX dX3_allLots_1 rfl (Nat.le_of_ble_eq_true rfl) (Nat.le_of_ble_eq_true rfl) rfl ?_
  dsimp only [xs1, xs2, xclr]
  refine v_iconst (q := 3) hX dX3_allLots_2 rfl ?_
  refine v_istore_n (q := 4) hX dX3_allLots_3 rfl (Nat.le_of_ble_eq_true rfl) (Nat.le_of_ble_eq_true rfl) rfl ?_
  dsimp only [xs1, xs2, xclr]
  exact L 0 (Nat.zero_le _)

set_option maxRecDepth 100000 in
set_option maxHeartbeats 4000000 in
theorem c_X3_allStock {z : Nat} (D : xD) (r : xR) {o : Nat} (hK : WK o) (hR : WR o r) {np : Nat} {N : Nat → Int} (hC : CR D o N np) {B : Int} (hO : nOk B np N) : MX 1 mX3_allStock [.ref o] (351, z) D r (351, z) (xP (vl (nSum N 4 np)) D r) := by
  refine MX.of (by decide +kernel) [some (.ref o), none, none, none, none] rfl (Nat.le_of_ble_eq_true rfl) ?_
  intro γ hX hRX
  have hnp := hO.np.2
  have L : ∀ k, k ≤ np → xV γ 4 [some (.ref o), some (vl (nSum N 4 k)), none, some (vi (k : Nat)), none] [] (351, z) D r := by
    refine xup np (fun k hk ih => ?_)
    refine v_iload_n (q := 5) hX dX3_allStock_4 rfl rfl rfl ?_
    refine v_aload_n (q := 6) hX dX3_allStock_5 rfl rfl rfl ?_
    refine w_getI (q := 9) hX fl_X3_45 rfl hK.1 dX3_allStock_6 rfl ?_
    rw [hC.np]
    refine v_icmp_ge (q := 12) (tgt := 39) hX ⟨by omega, by omega⟩ ⟨by omega, by omega⟩ dX3_allStock_9 (by decide) rfl (fun h9 => ?_) (fun h9 => ?_)
    · refine v_lload_n (q := 40) hX dX3_allStock_39 rfl rfl rfl ?_
      refine v_lreturn hX hRX rfl dX3_allStock_40 rfl ?_
      exact ⟨by rw [show k = np by omega], rfl, rfl⟩
    · refine v_aload_n (q := 13) hX dX3_allStock_12 rfl rfl rfl ?_
      refine v_iload_n (q := 14) hX dX3_allStock_13 rfl rfl rfl ?_
      refine w_callV (q := 17) hX (c_X3_productAt _ _ hK hR hC.np hO.np.2 (k) (by omega)) rfl kV_X3_productAt rfl (by decide) lk_X3_49 (by decide) rfl hK.1 (Nat.le_of_ble_eq_true rfl) dX3_allStock_14 rfl ?_
      refine v_astore (q := 19) hX dX3_allStock_17 (Nat.le_of_ble_eq_true rfl) (Nat.le_of_ble_eq_true rfl) rfl ?_
      dsimp only [xs1, xs2, xclr]
      refine v_aload (q := 21) hX dX3_allStock_19 rfl rfl ?_
      refine v_ifnull (q := 24) hX dX3_allStock_21 rfl ?_
      refine v_lload_n (q := 25) hX dX3_allStock_24 rfl rfl rfl ?_
      refine v_aload (q := 27) hX dX3_allStock_25 rfl rfl ?_
      refine w_getI (q := 30) hX fl_X3_108 rfl (hK.pk (p := k) (by omega)).1 dX3_allStock_27 rfl ?_
      have h3 := hO.2.2.2.2.2 k (by omega)
      unfold pOk at h3
      have hB := hO.1
      rw [(hC.pc (p := k) (by omega)).st]
      refine v_i2l (q := 31) hX ⟨by omega, by omega⟩ dX3_allStock_30 rfl ?_
      refine v_ladd (q := 32) hX dX3_allStock_31 rfl ?_
      refine v_lstore_n (q := 33) hX dX3_allStock_32 rfl (Nat.le_of_ble_eq_true rfl) (Nat.le_of_ble_eq_true rfl) rfl ?_
      dsimp only [xs1, xs2, xclr]
      refine v_iinc (q := 36) hX dX3_allStock_33 rfl (Nat.le_of_ble_eq_true rfl) (Nat.le_of_ble_eq_true rfl) rfl ?_
      dsimp only [xs1, xs2, xclr]
      refine v_goto (tgt := 4) hX dX3_allStock_36 (by decide) ?_
      have e1 := ih (by omega)
      exact xVw (by repeat' first | exact trivial | refine And.intro rfl ?_) e1
  refine v_lconst (q := 1) (e := 0) hX (by decide) dX3_allStock_0 rfl ?_
  refine v_lstore_n (q := 2) hX dX3_allStock_1 rfl (Nat.le_of_ble_eq_true rfl) (Nat.le_of_ble_eq_true rfl) rfl ?_
  dsimp only [xs1, xs2, xclr]
  refine v_iconst (q := 3) hX dX3_allStock_2 rfl ?_
  refine v_istore_n (q := 4) hX dX3_allStock_3 rfl (Nat.le_of_ble_eq_true rfl) (Nat.le_of_ble_eq_true rfl) rfl ?_
  dsimp only [xs1, xs2, xclr]
  exact L 0 (Nat.zero_le _)

set_option maxRecDepth 100000 in
set_option maxHeartbeats 4000000 in
theorem c_X3_allBacklog {z : Nat} (D : xD) (r : xR) {o : Nat} (hK : WK o) (hR : WR o r) {np : Nat} {N : Nat → Int} (hC : CR D o N np) {B : Int} (hO : nOk B np N) : MX 1 mX3_allBacklog [.ref o] (351, z) D r (351, z) (xP (vl (nSum N 5 np)) D r) := by
  refine MX.of (by decide +kernel) [some (.ref o), none, none, none, none] rfl (Nat.le_of_ble_eq_true rfl) ?_
  intro γ hX hRX
  have hnp := hO.np.2
  have L : ∀ k, k ≤ np → xV γ 4 [some (.ref o), some (vl (nSum N 5 k)), none, some (vi (k : Nat)), none] [] (351, z) D r := by
    refine xup np (fun k hk ih => ?_)
    refine v_iload_n (q := 5) hX dX3_allBacklog_4 rfl rfl rfl ?_
    refine v_aload_n (q := 6) hX dX3_allBacklog_5 rfl rfl rfl ?_
    refine w_getI (q := 9) hX fl_X3_45 rfl hK.1 dX3_allBacklog_6 rfl ?_
    rw [hC.np]
    refine v_icmp_ge (q := 12) (tgt := 39) hX ⟨by omega, by omega⟩ ⟨by omega, by omega⟩ dX3_allBacklog_9 (by decide) rfl (fun h9 => ?_) (fun h9 => ?_)
    · refine v_lload_n (q := 40) hX dX3_allBacklog_39 rfl rfl rfl ?_
      refine v_lreturn hX hRX rfl dX3_allBacklog_40 rfl ?_
      exact ⟨by rw [show k = np by omega], rfl, rfl⟩
    · refine v_aload_n (q := 13) hX dX3_allBacklog_12 rfl rfl rfl ?_
      refine v_iload_n (q := 14) hX dX3_allBacklog_13 rfl rfl rfl ?_
      refine w_callV (q := 17) hX (c_X3_productAt _ _ hK hR hC.np hO.np.2 (k) (by omega)) rfl kV_X3_productAt rfl (by decide) lk_X3_49 (by decide) rfl hK.1 (Nat.le_of_ble_eq_true rfl) dX3_allBacklog_14 rfl ?_
      refine v_astore (q := 19) hX dX3_allBacklog_17 (Nat.le_of_ble_eq_true rfl) (Nat.le_of_ble_eq_true rfl) rfl ?_
      dsimp only [xs1, xs2, xclr]
      refine v_aload (q := 21) hX dX3_allBacklog_19 rfl rfl ?_
      refine v_ifnull (q := 24) hX dX3_allBacklog_21 rfl ?_
      refine v_lload_n (q := 25) hX dX3_allBacklog_24 rfl rfl rfl ?_
      refine v_aload (q := 27) hX dX3_allBacklog_25 rfl rfl ?_
      refine w_getI (q := 30) hX fl_X3_111 rfl (hK.pk (p := k) (by omega)).1 dX3_allBacklog_27 rfl ?_
      have h3 := hO.2.2.2.2.2 k (by omega)
      unfold pOk at h3
      have hB := hO.1
      rw [(hC.pc (p := k) (by omega)).bl]
      refine v_i2l (q := 31) hX ⟨by omega, by omega⟩ dX3_allBacklog_30 rfl ?_
      refine v_ladd (q := 32) hX dX3_allBacklog_31 rfl ?_
      refine v_lstore_n (q := 33) hX dX3_allBacklog_32 rfl (Nat.le_of_ble_eq_true rfl) (Nat.le_of_ble_eq_true rfl) rfl ?_
      dsimp only [xs1, xs2, xclr]
      refine v_iinc (q := 36) hX dX3_allBacklog_33 rfl (Nat.le_of_ble_eq_true rfl) (Nat.le_of_ble_eq_true rfl) rfl ?_
      dsimp only [xs1, xs2, xclr]
      refine v_goto (tgt := 4) hX dX3_allBacklog_36 (by decide) ?_
      have e1 := ih (by omega)
      exact xVw (by repeat' first | exact trivial | refine And.intro rfl ?_) e1
  refine v_lconst (q := 1) (e := 0) hX (by decide) dX3_allBacklog_0 rfl ?_
  refine v_lstore_n (q := 2) hX dX3_allBacklog_1 rfl (Nat.le_of_ble_eq_true rfl) (Nat.le_of_ble_eq_true rfl) rfl ?_
  dsimp only [xs1, xs2, xclr]
  refine v_iconst (q := 3) hX dX3_allBacklog_2 rfl ?_
  refine v_istore_n (q := 4) hX dX3_allBacklog_3 rfl (Nat.le_of_ble_eq_true rfl) (Nat.le_of_ble_eq_true rfl) rfl ?_
  dsimp only [xs1, xs2, xclr]
  exact L 0 (Nat.zero_le _)


