def frS (D D' : xD) : Prop := ∀ a, a ≠ 75 → (a < 5 ∨ 39 ≤ a) → (a < 77 ∨ 281 ≤ a) → D' a = D a
/-- a change: one state more in the history, other works, nothing else -/
def CX (D : xD) (r : xR) (s : Nat) (K : Nat → Nat → Int) (q : Nat → Nat) (N : Nat → Int) (np : Nat) (N' : Nat → Int) (np' : Nat) (D' : xD) (r' : xR) : Prop :=
  frS D D' ∧ frR r r' ∧ D' 75 2 = D 75 2 ∧ CR D' 5 N' np' ∧ ∃ π', HI D' r' (hS s + 1) π' (hPu s K N) (hPu s q np)
theorem CX.fin {D D1 D2 : xD} {r r1 : xR} {s : Nat} {π1 : Nat → Nat} {K : Nat → Nat → Int} {q : Nat → Nat} {N N' : Nat → Int} {np np' : Nat} (x1 : frX D D1) (x2 : frR r r1) (x3 : D1 75 2 = D 75 2) (hI : HI D1 r1 (hS s + 1) π1 (hPu s K N) (hPu s q np)) (hf : frW 5 D1 D2) (hc : CR D2 5 N' np') : CX D r s K q N np N' np' D2 r1 := by
  have e75 : D2 75 = D1 75 := hf 75 (by omega)
  exact ⟨fun a h1 h2 h3 => (hf a (by omega)).trans (x1 a h1 h3), x2, by rw [e75]; exact x3, hc, π1, hI.cong (by rw [e75]) (fun a ha hb => hf a (by omega))⟩
theorem frW.xu {D : xD} {o a j : Nat} {e : Int} (h1 : o ≤ a) (h2 : a < o + 34) : frW o D (xu D a j e) := fun b hb => xu_row _ _ _ _ (by omega)
theorem CR.fmh {D : xD} {o np : Nat} {N : Nat → Int} (h : CR D o N np) {f : Nat} (hf : f < 4) {e : Int} : CR (xu D (o + 2) f e) o (fu N (14 + f) e) np := by
  have hr : ∀ a, a ≠ o + 2 → xu D (o + 2) f e a = D a := fun a ha => by unfold xu; rw [if_neg ha]
  refine h.keep (fun j _ _ => by rw [hr _ (by omega)]) (fun j hj => ?_) (fun j hj => ?_) ⟨fu_ne _ _ _ (by omega), fu_ne _ _ _ (by omega), fu_ne _ _ _ (by omega), fu_ne _ _ _ (by omega)⟩ (fun p hp => (h.pc hp).keep (fun j _ => by rw [hr _ (by omega)]) (fun j _ => by rw [hr _ (by omega)]) (fun j _ => by rw [hr _ (by omega)]) (fun i hi => fu_ne _ _ _ (by omega)))
  · rw [hr _ (by omega), fu_ne _ _ _ (by omega)]; exact h.se hj
  · by_cases hjw : j = f
    · subst hjw; rw [xu_at, fu_at]
    · rw [xu_ne _ _ _ _ (Or.inr hjw), fu_ne _ _ _ (by omega)]; exact h.fh hj
theorem PC.fcs {D : xD} {b p : Nat} {N : Nat → Int} (h : PC D b N p) {w : Nat} (hw : w < 12) (e : Int) : PC (xu D (b + 1) w e) b (fu N (18 + 36 * p + (12 + w)) e) p := by
  have h0 : xu D (b + 1) w e b = D b := xu_row _ _ _ _ (by omega)
  have h2 : xu D (b + 1) w e (b + 2) = D (b + 2) := xu_row _ _ _ _ (by omega)
  have g : ∀ i, i ≠ 12 + w → pF (fu N (18 + 36 * p + (12 + w)) e) p i = pF N p i := fun i hi => fu_ne _ _ _ (by omega)
  refine ⟨by rw [h0, g _ (by omega)]; exact h.fa, by rw [h0, g _ (by omega)]; exact h.sz, by rw [h0, g _ (by omega)]; exact h.lh, by rw [h0, g _ (by omega)]; exact h.sh, by rw [h0, g _ (by omega)]; exact h.bg, by rw [h0, g _ (by omega)]; exact h.st, by rw [h0, g _ (by omega)]; exact h.bl, by rw [h0, g _ (by omega)]; exact h.er, by rw [h0, g _ (by omega)]; exact h.to, by rw [h0, g _ (by omega)]; exact h.ma, by rw [h0, g _ (by omega)]; exact h.si, by rw [h0, g _ (by omega)]; exact h.ca, fun k hk => ?_, fun k hk => ?_⟩
  · by_cases hkw : k = w
    · subst hkw; rw [xu_at]; exact (fu_at _ _ _).symm
    · rw [xu_ne _ _ _ _ (Or.inr hkw), g _ (by omega)]; exact h.fc k hk
  · rw [h2, g _ (by omega)]; exact h.lt k hk
theorem PC.lts {D : xD} {b p : Nat} {N : Nat → Int} (h : PC D b N p) {w : Nat} (hw : w < 12) (e : Int) : PC (xu D (b + 2) w e) b (fu N (18 + 36 * p + (24 + w)) e) p := by
  have h0 : xu D (b + 2) w e b = D b := xu_row _ _ _ _ (by omega)
  have h2 : xu D (b + 2) w e (b + 1) = D (b + 1) := xu_row _ _ _ _ (by omega)
  have g : ∀ i, i ≠ 24 + w → pF (fu N (18 + 36 * p + (24 + w)) e) p i = pF N p i := fun i hi => fu_ne _ _ _ (by omega)
  refine ⟨by rw [h0, g _ (by omega)]; exact h.fa, by rw [h0, g _ (by omega)]; exact h.sz, by rw [h0, g _ (by omega)]; exact h.lh, by rw [h0, g _ (by omega)]; exact h.sh, by rw [h0, g _ (by omega)]; exact h.bg, by rw [h0, g _ (by omega)]; exact h.st, by rw [h0, g _ (by omega)]; exact h.bl, by rw [h0, g _ (by omega)]; exact h.er, by rw [h0, g _ (by omega)]; exact h.to, by rw [h0, g _ (by omega)]; exact h.ma, by rw [h0, g _ (by omega)]; exact h.si, by rw [h0, g _ (by omega)]; exact h.ca, fun k hk => ?_, fun k hk => ?_⟩
  · rw [h2, g _ (by omega)]; exact h.fc k hk
  · by_cases hkw : k = w
    · subst hkw; rw [xu_at]; exact (fu_at _ _ _).symm
    · rw [xu_ne _ _ _ _ (Or.inr hkw), g _ (by omega)]; exact h.lt k hk
theorem PC.tld {D : xD} {b p : Nat} {N : Nat → Int} (h : PC D b N p) (e : Int) : PC (xu D b 8 e) b (fu N (18 + 36 * p + 7) e) p := by
  have h1 : xu D b 8 e (b + 1) = D (b + 1) := xu_row _ _ _ _ (by omega)
  have h2 : xu D b 8 e (b + 2) = D (b + 2) := xu_row _ _ _ _ (by omega)
  have x : ∀ j, j ≠ 8 → xu D b 8 e b j = D b j := fun j hj => xu_ne _ _ _ _ (Or.inr hj)
  have g : ∀ i, i ≠ 7 → pF (fu N (18 + 36 * p + 7) e) p i = pF N p i := fun i hi => fu_ne _ _ _ (by omega)
  refine ⟨by rw [x _ (by decide), g _ (by omega)]; exact h.fa, by rw [x _ (by decide), g _ (by omega)]; exact h.sz, by rw [x _ (by decide), g _ (by omega)]; exact h.lh, by rw [x _ (by decide), g _ (by omega)]; exact h.sh, by rw [x _ (by decide), g _ (by omega)]; exact h.bg, by rw [x _ (by decide), g _ (by omega)]; exact h.st, by rw [x _ (by decide), g _ (by omega)]; exact h.bl, by rw [x _ (by decide), g _ (by omega)]; exact h.er, by rw [xu_at]; exact (fu_at _ _ _).symm, by rw [x _ (by decide), g _ (by omega)]; exact h.ma, by rw [x _ (by decide), g _ (by omega)]; exact h.si, by rw [x _ (by decide), g _ (by omega)]; exact h.ca, fun k hk => ?_, fun k hk => ?_⟩
  · rw [h1, g _ (by omega)]; exact h.fc k hk
  · rw [h2, g _ (by omega)]; exact h.lt k hk
theorem fr3.xu {D : xD} {b a j : Nat} {e : Int} (h1 : a = b ∨ a = b + 1 ∨ a = b + 2) : fr3 b D (xu D a j e) := fun c h2 h3 h4 => xu_row _ _ _ _ (by omega)
theorem CR.one {D D' : xD} {o np p i : Nat} {e : Int} {N : Nat → Int} (h : CR D o N np) (hi : i < 36) (hf : fr3 (o + 4 + 3 * p) D D') (hp : PC D' (o + 4 + 3 * p) (fu N (18 + 36 * p + i) e) p) : CR D' o (fu N (18 + 36 * p + i) e) np :=
  h.upd hf hp (fun j hj _ => fu_ne _ _ _ (by omega)) (fun k hk hkp j hj => pF_fu_ne _ _ hkp hj hi)
theorem xst_1 {w : Nat} (hw : w < 9) : xst 1 w = leastOf w := by
  have h : w = 0 ∨ w = 1 ∨ w = 2 ∨ w = 3 ∨ w = 4 ∨ w = 5 ∨ w = 6 ∨ w = 7 ∨ w = 8 := by omega
  rcases h with rfl | rfl | rfl | rfl | rfl | rfl | rfl | rfl | rfl <;> rfl
theorem xst_2 {w : Nat} (hw : w < 9) : xst 2 w = mostOf w := by
  have h : w = 0 ∨ w = 1 ∨ w = 2 ∨ w = 3 ∨ w = 4 ∨ w = 5 ∨ w = 6 ∨ w = 7 ∨ w = 8 := by omega
  rcases h with rfl | rfl | rfl | rfl | rfl | rfl | rfl | rfl | rfl <;> rfl
theorem lmOf_I {w : Nat} (hw : w < 9) : (0 ≤ leastOf w ∧ leastOf w ≤ 1) ∧ 6 ≤ mostOf w ∧ mostOf w ≤ 1000 := by
  have h : w = 0 ∨ w = 1 ∨ w = 2 ∨ w = 3 ∨ w = 4 ∨ w = 5 ∨ w = 6 ∨ w = 7 ∨ w = 8 := by omega
  rcases h with rfl | rfl | rfl | rfl | rfl | rfl | rfl | rfl | rfl <;> decide
set_option maxRecDepth 100000 in
set_option maxHeartbeats 4000000 in
theorem c_X4_set {z : Nat} (D : xD) (r : xR) (hF : rF r) {N : Nat → Int} {np : Nat} (hC : CR D 5 N np) (hnp : np ≤ 10) (w : Nat) (b : Int) (hw : w < 9) (hb_ : xI b) (he : leastOf w ≤ b ∧ b ≤ mostOf w) {s : Nat} {π : Nat → Nat} {K : Nat → Nat → Int} {q : Nat → Nat} (hI : HI D r s π K q) (hz : D 75 2 = 0) : MX 4 mX4_set [.ref 4, vi w, vi b] (351, z) D r (351, z) (xRs (vi (N (5 + w))) (CX D r s K q N np (fu N (5 + w) b) (np))) := by
  refine MX.of (by decide +kernel) [some (.ref 4), some (vi w), some (vi b), none] rfl (Nat.le_of_ble_eq_true rfl) ?_
  intro γ hX hRX
  refine v_iload_n (q := 1) hX dX4_set_0 rfl rfl rfl ?_
  refine v_iconst (q := 2) hX dX4_set_1 rfl ?_
  refine v_bipush (q := 4) hX (by decide) dX4_set_2 rfl ?_
  refine w_callS (q := 7) hX (c_X4_isIn _ _ _ _ _ (by first | assumption | decide | exact ⟨by omega, by omega⟩) (by first | assumption | decide | exact ⟨by omega, by omega⟩) (by first | assumption | decide | exact ⟨by omega, by omega⟩)) rfl kS_X4_isIn rfl (by decide) lk_X4_41 (Nat.le_of_ble_eq_true rfl) dX4_set_4 rfl ?_
  refine w_ifne (q := 10) (tgt := 13) hX dX4_set_7 (by decide) rfl (fun hx_7 => ?_) (fun hx_7 => ?_)
  · refine v_iload_n (q := 14) hX dX4_set_13 rfl rfl rfl ?_
    refine v_getst (kk := 1) (q := 17) hX (by decide) (by decide) rfl fl_X4_45 dX4_set_14 rfl ?_
    refine v_iload_n (q := 18) hX dX4_set_17 rfl rfl rfl ?_
    refine v_stald (kk := w) (q := 19) hX (by decide) (by decide) rfl (by omega) dX4_set_18 rfl ?_
    rw [xst_1 (by omega)]
    refine v_getst (kk := 2) (q := 22) hX (by decide) (by decide) rfl fl_X4_49 dX4_set_19 rfl ?_
    refine v_iload_n (q := 23) hX dX4_set_22 rfl rfl rfl ?_
    refine v_stald (kk := w) (q := 24) hX (by decide) (by decide) rfl (by omega) dX4_set_23 rfl ?_
    rw [xst_2 (by omega)]
    have hlm := lmOf_I hw
    refine w_callS (q := 27) hX (c_X4_isIn _ _ _ _ _ (by first | assumption | decide | exact ⟨by omega, by omega⟩) (by first | assumption | decide | exact ⟨by omega, by omega⟩) (by first | assumption | decide | exact ⟨by omega, by omega⟩)) rfl kS_X4_isIn rfl (by decide) lk_X4_41 (Nat.le_of_ble_eq_true rfl) dX4_set_24 rfl ?_
    refine w_ifne (q := 30) (tgt := 33) hX dX4_set_27 (by decide) rfl (fun hx_27 => ?_) (fun hx_27 => ?_)
    · refine v_aload_n (q := 34) hX dX4_set_33 rfl rfl rfl ?_
      refine w_getR (q := 37) hX fl_X4_29 rfl oLF hF.f3 dX4_set_34 rfl ?_
      refine v_aload_n (q := 38) hX dX4_set_37 rfl rfl rfl ?_
      refine w_getR (q := 41) hX fl_X4_10 rfl oLF hF.f0 dX4_set_38 rfl ?_
      refine w_callVq (q := 44) hX (c_X0_remember D r hF hC hnp hI hz) rfl kV_X0_remember rfl (by decide) lk_X4_52 (by decide) rfl oHis (Nat.le_of_ble_eq_true rfl) dX4_set_41 rfl (fun D1 r1 hD1 => ?_)
      obtain ⟨x1, x2, x3, π1, hI1⟩ := hD1
      have hF := hF.mv x2
      have hC := hC.eq hnp (fun a ha hb => x1 a (by omega) (by omega))
      refine v_aload_n (q := 45) hX dX4_set_44 rfl rfl rfl ?_
      refine w_getR (q := 48) hX fl_X4_10 rfl oLF hF.f0 dX4_set_45 rfl ?_
      refine v_iload_n (q := 49) hX dX4_set_48 rfl rfl rfl ?_
      refine w_callV (q := 52) hX (c_X3_setting _ _ WK_5 hF.w5 hC w (by omega) (j := 5 + w) rfl) rfl kV_X3_setting rfl (by decide) lk_X4_56 (by decide) rfl WK_5.1 (Nat.le_of_ble_eq_true rfl) dX4_set_49 rfl ?_
      refine v_istore_n (q := 53) hX dX4_set_52 rfl (Nat.le_of_ble_eq_true rfl) (Nat.le_of_ble_eq_true rfl) rfl ?_
      dsimp only [xs1, xs2, xclr]
      refine v_aload_n (q := 54) hX dX4_set_53 rfl rfl rfl ?_
      refine w_getR (q := 57) hX fl_X4_10 rfl oLF hF.f0 dX4_set_54 rfl ?_
      refine v_iload_n (q := 58) hX dX4_set_57 rfl rfl rfl ?_
      refine v_iload_n (q := 59) hX dX4_set_58 rfl rfl rfl ?_
      refine w_callVn (q := 62) hX (c_X3_changeSetting _ _ WK_5 hF.w5 hC w hw b) rfl kV_X3_changeSetting rfl (by decide) lk_X4_60 (by decide) rfl WK_5.1 (Nat.le_of_ble_eq_true rfl) dX4_set_59 rfl (fun D2 hD2 => ?_)
      refine v_iload_n (q := 63) hX dX4_set_62 rfl rfl rfl ?_
      refine v_ireturn hX hRX rfl (by first | rfl | exact bi_nar _) dX4_set_63 rfl ?_
      exact ⟨rfl, CX.fin x1 x2 x3 hI1 (hD2.2) (hD2.1)⟩
    · exact absurd he hx_27
  · exact absurd ⟨by omega, by omega⟩ hx_7

set_option maxRecDepth 100000 in
set_option maxHeartbeats 4000000 in
theorem c_X4_set_err {z : Nat} (D : xD) (r : xR) (a b : Int) (ha_ : xI a) (hb_ : xI b) (he : ∀ w : Nat, a = (w : Int) → w < 9 → b < leastOf w ∨ mostOf w < b) : MX 4 mX4_set [.ref 4, vi a, vi b] (351, z) D r (351, z) (xP (vi (-2)) D r) := by
  refine MX.of (by decide +kernel) [some (.ref 4), some (vi a), some (vi b), none] rfl (Nat.le_of_ble_eq_true rfl) ?_
  intro γ hX hRX
  by_cases hw : 0 ≤ a ∧ a ≤ 8
  · obtain ⟨w, rfl⟩ := Int.eq_ofNat_of_zero_le hw.1
    have hw9 : w < 9 := by omega
    have he2 := he w rfl hw9
    refine v_iload_n (q := 1) hX dX4_set_0 rfl rfl rfl ?_
    refine v_iconst (q := 2) hX dX4_set_1 rfl ?_
    refine v_bipush (q := 4) hX (by decide) dX4_set_2 rfl ?_
    refine w_callS (q := 7) hX (c_X4_isIn _ _ _ _ _ (by first | assumption | decide | exact ⟨by omega, by omega⟩) (by first | assumption | decide | exact ⟨by omega, by omega⟩) (by first | assumption | decide | exact ⟨by omega, by omega⟩)) rfl kS_X4_isIn rfl (by decide) lk_X4_41 (Nat.le_of_ble_eq_true rfl) dX4_set_4 rfl ?_
    refine w_ifne (q := 10) (tgt := 13) hX dX4_set_7 (by decide) rfl (fun hx_7 => ?_) (fun hx_7 => ?_)
    · refine v_iload_n (q := 14) hX dX4_set_13 rfl rfl rfl ?_
      refine v_getst (kk := 1) (q := 17) hX (by decide) (by decide) rfl fl_X4_45 dX4_set_14 rfl ?_
      refine v_iload_n (q := 18) hX dX4_set_17 rfl rfl rfl ?_
      refine v_stald (kk := w) (q := 19) hX (by decide) (by decide) rfl (by omega) dX4_set_18 rfl ?_
      rw [xst_1 (by omega)]
      refine v_getst (kk := 2) (q := 22) hX (by decide) (by decide) rfl fl_X4_49 dX4_set_19 rfl ?_
      refine v_iload_n (q := 23) hX dX4_set_22 rfl rfl rfl ?_
      refine v_stald (kk := w) (q := 24) hX (by decide) (by decide) rfl (by omega) dX4_set_23 rfl ?_
      rw [xst_2 (by omega)]
      have hlm := lmOf_I hw9
      refine w_callS (q := 27) hX (c_X4_isIn _ _ _ _ _ (by first | assumption | decide | exact ⟨by omega, by omega⟩) (by first | assumption | decide | exact ⟨by omega, by omega⟩) (by first | assumption | decide | exact ⟨by omega, by omega⟩)) rfl kS_X4_isIn rfl (by decide) lk_X4_41 (Nat.le_of_ble_eq_true rfl) dX4_set_24 rfl ?_
      refine w_ifne (q := 30) (tgt := 33) hX dX4_set_27 (by decide) rfl (fun hx_27 => ?_) (fun hx_27 => ?_)
      · exact absurd hx_27 (by omega)
      · refine v_bipush (q := 32) hX (by decide) dX4_set_30 rfl ?_
        refine v_ireturn hX hRX rfl (by first | rfl | exact bi_nar _) dX4_set_32 rfl ?_
        exact ⟨rfl, rfl, rfl⟩
    · exact absurd ⟨by omega, by omega⟩ hx_7
  · refine v_iload_n (q := 1) hX dX4_set_0 rfl rfl rfl ?_
    refine v_iconst (q := 2) hX dX4_set_1 rfl ?_
    refine v_bipush (q := 4) hX (by decide) dX4_set_2 rfl ?_
    refine w_callS (q := 7) hX (c_X4_isIn _ _ _ _ _ (by first | assumption | decide | exact ⟨by omega, by omega⟩) (by first | assumption | decide | exact ⟨by omega, by omega⟩) (by first | assumption | decide | exact ⟨by omega, by omega⟩)) rfl kS_X4_isIn rfl (by decide) lk_X4_41 (Nat.le_of_ble_eq_true rfl) dX4_set_4 rfl ?_
    refine w_ifne (q := 10) (tgt := 13) hX dX4_set_7 (by decide) rfl (fun hx_7 => ?_) (fun hx_7 => ?_)
    · exact absurd hx_7 hw
    · refine v_bipush (q := 12) hX (by decide) dX4_set_10 rfl ?_
      refine v_ireturn hX hRX rfl (by first | rfl | exact bi_nar _) dX4_set_12 rfl ?_
      exact ⟨rfl, rfl, rfl⟩

set_option maxRecDepth 100000 in
set_option maxHeartbeats 4000000 in
theorem c_X4_family {z : Nat} (D : xD) (r : xR) (hF : rF r) {N : Nat → Int} {np : Nat} (hC : CR D 5 N np) (hnp : np ≤ 10) (f : Nat) (b : Int) (hf_ : f < 4) (he2 : 0 ≤ b ∧ b ≤ 50) {s : Nat} {π : Nat → Nat} {K : Nat → Nat → Int} {q : Nat → Nat} (hI : HI D r s π K q) (hz : D 75 2 = 0) : MX 4 mX4_family [.ref 4, vi f, vi b] (351, z) D r (351, z) (xRs (vi (N (14 + f))) (CX D r s K q N np (fu N (14 + f) b) (np))) := by
  refine MX.of (by decide +kernel) [some (.ref 4), some (vi f), some (vi b), none] rfl (Nat.le_of_ble_eq_true rfl) ?_
  intro γ hX hRX
  refine v_iload_n (q := 1) hX dX4_family_0 rfl rfl rfl ?_
  refine w_callS (q := 4) hX (c_X4_isFamily _ _ _ (by first | assumption | decide | exact ⟨by omega, by omega⟩)) rfl kS_X4_isFamily rfl (by decide) lk_X4_64 (Nat.le_of_ble_eq_true rfl) dX4_family_1 rfl ?_
  refine w_ifne (q := 7) (tgt := 9) hX dX4_family_4 (by decide) rfl (fun hx_4 => ?_) (fun hx_4 => ?_)
  · refine v_iload_n (q := 10) hX dX4_family_9 rfl rfl rfl ?_
    refine v_iconst (q := 11) hX dX4_family_10 rfl ?_
    refine v_bipush (q := 13) hX (by decide) dX4_family_11 rfl ?_
    refine w_callS (q := 16) hX (c_X4_isIn _ _ _ _ _ (by first | assumption | decide | exact ⟨by omega, by omega⟩) (by first | assumption | decide | exact ⟨by omega, by omega⟩) (by first | assumption | decide | exact ⟨by omega, by omega⟩)) rfl kS_X4_isIn rfl (by decide) lk_X4_41 (Nat.le_of_ble_eq_true rfl) dX4_family_13 rfl ?_
    refine w_ifne (q := 19) (tgt := 22) hX dX4_family_16 (by decide) rfl (fun hx_16 => ?_) (fun hx_16 => ?_)
    · refine v_aload_n (q := 23) hX dX4_family_22 rfl rfl rfl ?_
      refine w_getR (q := 26) hX fl_X4_29 rfl oLF hF.f3 dX4_family_23 rfl ?_
      refine v_aload_n (q := 27) hX dX4_family_26 rfl rfl rfl ?_
      refine w_getR (q := 30) hX fl_X4_10 rfl oLF hF.f0 dX4_family_27 rfl ?_
      refine w_callVq (q := 33) hX (c_X0_remember D r hF hC hnp hI hz) rfl kV_X0_remember rfl (by decide) lk_X4_52 (by decide) rfl oHis (Nat.le_of_ble_eq_true rfl) dX4_family_30 rfl (fun D1 r1 hD1 => ?_)
      obtain ⟨x1, x2, x3, π1, hI1⟩ := hD1
      have hF := hF.mv x2
      have hC := hC.eq hnp (fun a ha hb => x1 a (by omega) (by omega))
      refine v_aload_n (q := 34) hX dX4_family_33 rfl rfl rfl ?_
      refine w_getR (q := 37) hX fl_X4_10 rfl oLF hF.f0 dX4_family_34 rfl ?_
      refine w_getR (q := 40) hX fl_X4_82 rfl WK_5.1 hF.w5.2.1 dX4_family_37 rfl ?_
      refine v_iload_n (q := 41) hX dX4_family_40 rfl rfl rfl ?_
      refine w_ild (q := 42) (kk := f) hX (rfl) (hf_) WK_5.2.2.1 dX4_family_41 rfl ?_
      rw [hC.fh hf_]
      refine v_istore_n (q := 43) hX dX4_family_42 rfl (Nat.le_of_ble_eq_true rfl) (Nat.le_of_ble_eq_true rfl) rfl ?_
      dsimp only [xs1, xs2, xclr]
      refine v_aload_n (q := 44) hX dX4_family_43 rfl rfl rfl ?_
      refine w_getR (q := 47) hX fl_X4_10 rfl oLF hF.f0 dX4_family_44 rfl ?_
      refine w_getR (q := 50) hX fl_X4_82 rfl WK_5.1 hF.w5.2.1 dX4_family_47 rfl ?_
      refine v_iload_n (q := 51) hX dX4_family_50 rfl rfl rfl ?_
      refine v_iload_n (q := 52) hX dX4_family_51 rfl rfl rfl ?_
      refine w_ist (q := 53) (kk := f) hX (rfl) (hf_) WK_5.2.2.1 dX4_family_52 rfl ?_
      refine v_iload_n (q := 54) hX dX4_family_53 rfl rfl rfl ?_
      refine v_ireturn hX hRX rfl (by first | rfl | exact bi_nar _) dX4_family_54 rfl ?_
      exact ⟨rfl, CX.fin x1 x2 x3 hI1 (frW.xu (by omega) (by omega)) (hC.fmh hf_)⟩
    · exact absurd he2 hx_16
  · exact absurd ⟨by omega, by omega⟩ hx_4

set_option maxRecDepth 100000 in
set_option maxHeartbeats 4000000 in
theorem c_X4_family_no {z : Nat} (D : xD) (r : xR) (a b : Int) (ha_ : xI a) (he : a < 0 ∨ 3 < a) : MX 4 mX4_family [.ref 4, vi a, vi b] (351, z) D r (351, z) (xP (vi (-1)) D r) := by
  refine MX.of (by decide +kernel) [some (.ref 4), some (vi a), some (vi b), none] rfl (Nat.le_of_ble_eq_true rfl) ?_
  intro γ hX hRX
  refine v_iload_n (q := 1) hX dX4_family_0 rfl rfl rfl ?_
  refine w_callS (q := 4) hX (c_X4_isFamily _ _ _ (by first | assumption | decide | exact ⟨by omega, by omega⟩)) rfl kS_X4_isFamily rfl (by decide) lk_X4_64 (Nat.le_of_ble_eq_true rfl) dX4_family_1 rfl ?_
  refine w_ifne (q := 7) (tgt := 9) hX dX4_family_4 (by decide) rfl (fun hx_4 => ?_) (fun hx_4 => ?_)
  · exact absurd hx_4 (by omega)
  · refine v_iconst (q := 8) hX dX4_family_7 rfl ?_
    refine v_ireturn hX hRX rfl (by first | rfl | exact bi_nar _) dX4_family_8 rfl ?_
    exact ⟨rfl, rfl, rfl⟩

set_option maxRecDepth 100000 in
set_option maxHeartbeats 4000000 in
theorem c_X4_family_bad {z : Nat} (D : xD) (r : xR) (a b : Int) (ha_ : xI a) (hb_ : xI b) (he : 0 ≤ a ∧ a ≤ 3) (he2 : b < 0 ∨ 50 < b) : MX 4 mX4_family [.ref 4, vi a, vi b] (351, z) D r (351, z) (xP (vi (-2)) D r) := by
  refine MX.of (by decide +kernel) [some (.ref 4), some (vi a), some (vi b), none] rfl (Nat.le_of_ble_eq_true rfl) ?_
  intro γ hX hRX
  refine v_iload_n (q := 1) hX dX4_family_0 rfl rfl rfl ?_
  refine w_callS (q := 4) hX (c_X4_isFamily _ _ _ (by first | assumption | decide | exact ⟨by omega, by omega⟩)) rfl kS_X4_isFamily rfl (by decide) lk_X4_64 (Nat.le_of_ble_eq_true rfl) dX4_family_1 rfl ?_
  refine w_ifne (q := 7) (tgt := 9) hX dX4_family_4 (by decide) rfl (fun hx_4 => ?_) (fun hx_4 => ?_)
  · refine v_iload_n (q := 10) hX dX4_family_9 rfl rfl rfl ?_
    refine v_iconst (q := 11) hX dX4_family_10 rfl ?_
    refine v_bipush (q := 13) hX (by decide) dX4_family_11 rfl ?_
    refine w_callS (q := 16) hX (c_X4_isIn _ _ _ _ _ (by first | assumption | decide | exact ⟨by omega, by omega⟩) (by first | assumption | decide | exact ⟨by omega, by omega⟩) (by first | assumption | decide | exact ⟨by omega, by omega⟩)) rfl kS_X4_isIn rfl (by decide) lk_X4_41 (Nat.le_of_ble_eq_true rfl) dX4_family_13 rfl ?_
    refine w_ifne (q := 19) (tgt := 22) hX dX4_family_16 (by decide) rfl (fun hx_16 => ?_) (fun hx_16 => ?_)
    · exact absurd hx_16 (by omega)
    · refine v_bipush (q := 21) hX (by decide) dX4_family_19 rfl ?_
      refine v_ireturn hX hRX rfl (by first | rfl | exact bi_nar _) dX4_family_21 rfl ?_
      exact ⟨rfl, rfl, rfl⟩
  · exact absurd ⟨by omega, by omega⟩ hx_4

set_option maxRecDepth 100000 in
set_option maxHeartbeats 4000000 in
theorem c_X4_forecast {z : Nat} (D : xD) (r : xR) (hF : rF r) {N : Nat → Int} {np : Nat} (hC : CR D 5 N np) (hnp : np ≤ 10) (p w : Nat) (u : Int) (hp : p < np) (hw : w < 12) (hu_ : 0 ≤ u ∧ u ≤ 1000) {s : Nat} {π : Nat → Nat} {K : Nat → Nat → Int} {q : Nat → Nat} (hI : HI D r s π K q) (hz : D 75 2 = 0) : MX 4 mX4_forecast [.ref 4, vi p, vi w, vi u] (351, z) D r (351, z) (xRs (vi (pF N p (12 + w))) (CX D r s K q N np (fu N (18 + 36 * p + (12 + w)) u) (np))) := by
  refine MX.of (by decide +kernel) [some (.ref 4), some (vi p), some (vi w), some (vi u), none, none] rfl (Nat.le_of_ble_eq_true rfl) ?_
  intro γ hX hRX
  refine v_aload_n (q := 1) hX dX4_forecast_0 rfl rfl rfl ?_
  refine w_getR (q := 4) hX fl_X4_10 rfl oLF hF.f0 dX4_forecast_1 rfl ?_
  refine v_iload_n (q := 5) hX dX4_forecast_4 rfl rfl rfl ?_
  refine w_callV (q := 8) hX (c_X3_productAt _ _ WK_5 hF.w5 hC.np hnp p hp) rfl kV_X3_productAt rfl (by decide) lk_X4_85 (by decide) rfl WK_5.1 (Nat.le_of_ble_eq_true rfl) dX4_forecast_5 rfl ?_
  refine v_astore (q := 10) hX dX4_forecast_8 (Nat.le_of_ble_eq_true rfl) (Nat.le_of_ble_eq_true rfl) rfl ?_
  dsimp only [xs1, xs2, xclr]
  refine v_aload (q := 12) hX dX4_forecast_10 rfl rfl ?_
  refine v_ifnull (q := 15) hX dX4_forecast_12 rfl ?_
  refine v_iload_n (q := 16) hX dX4_forecast_15 rfl rfl rfl ?_
  refine w_callS (q := 19) hX (c_X4_isWeek _ _ _ (by first | assumption | decide | exact ⟨by omega, by omega⟩)) rfl kS_X4_isWeek rfl (by decide) lk_X4_89 (Nat.le_of_ble_eq_true rfl) dX4_forecast_16 rfl ?_
  refine w_ifne (q := 22) (tgt := 24) hX dX4_forecast_19 (by decide) rfl (fun hx_19 => ?_) (fun hx_19 => ?_)
  · refine v_iload_n (q := 25) hX dX4_forecast_24 rfl rfl rfl ?_
    refine v_iconst (q := 26) hX dX4_forecast_25 rfl ?_
    refine v_sipush (q := 29) hX (by decide) dX4_forecast_26 rfl ?_
    refine w_callS (q := 32) hX (c_X4_isIn _ _ _ _ _ (by first | assumption | decide | exact ⟨by omega, by omega⟩) (by first | assumption | decide | exact ⟨by omega, by omega⟩) (by first | assumption | decide | exact ⟨by omega, by omega⟩)) rfl kS_X4_isIn rfl (by decide) lk_X4_41 (Nat.le_of_ble_eq_true rfl) dX4_forecast_29 rfl ?_
    refine w_ifne (q := 35) (tgt := 38) hX dX4_forecast_32 (by decide) rfl (fun hx_32 => ?_) (fun hx_32 => ?_)
    · refine v_aload_n (q := 39) hX dX4_forecast_38 rfl rfl rfl ?_
      refine w_getR (q := 42) hX fl_X4_29 rfl oLF hF.f3 dX4_forecast_39 rfl ?_
      refine v_aload_n (q := 43) hX dX4_forecast_42 rfl rfl rfl ?_
      refine w_getR (q := 46) hX fl_X4_10 rfl oLF hF.f0 dX4_forecast_43 rfl ?_
      refine w_callVq (q := 49) hX (c_X0_remember D r hF hC hnp hI hz) rfl kV_X0_remember rfl (by decide) lk_X4_52 (by decide) rfl oHis (Nat.le_of_ble_eq_true rfl) dX4_forecast_46 rfl (fun D1 r1 hD1 => ?_)
      obtain ⟨x1, x2, x3, π1, hI1⟩ := hD1
      have hF := hF.mv x2
      have hC := hC.eq hnp (fun a ha hb => x1 a (by omega) (by omega))
      refine v_aload (q := 51) hX dX4_forecast_49 rfl rfl ?_
      refine w_getR (q := 54) hX fl_X4_92 rfl (WK_5.pk (p := p) (by omega)).1 (hF.w5.pr (p := p) (by omega)).1 dX4_forecast_51 rfl ?_
      refine v_iload_n (q := 55) hX dX4_forecast_54 rfl rfl rfl ?_
      refine w_ild (q := 56) (kk := w) hX (rfl) (hw) (WK_5.pk (p := p) (by omega)).2.1 dX4_forecast_55 rfl ?_
      rw [(hC.pc hp).fc w hw]
      refine v_istore (q := 58) hX dX4_forecast_56 (Nat.le_of_ble_eq_true rfl) (Nat.le_of_ble_eq_true rfl) rfl ?_
      dsimp only [xs1, xs2, xclr]
      refine v_aload (q := 60) hX dX4_forecast_58 rfl rfl ?_
      refine w_getR (q := 63) hX fl_X4_92 rfl (WK_5.pk (p := p) (by omega)).1 (hF.w5.pr (p := p) (by omega)).1 dX4_forecast_60 rfl ?_
      refine v_iload_n (q := 64) hX dX4_forecast_63 rfl rfl rfl ?_
      refine v_iload_n (q := 65) hX dX4_forecast_64 rfl rfl rfl ?_
      refine w_ist (q := 66) (kk := w) hX (rfl) (hw) (WK_5.pk (p := p) (by omega)).2.1 dX4_forecast_65 rfl ?_
      refine v_iload (q := 68) hX dX4_forecast_66 rfl rfl ?_
      refine v_ireturn hX hRX rfl (by first | rfl | exact bi_nar _) dX4_forecast_68 rfl ?_
      exact ⟨rfl, CX.fin x1 x2 x3 hI1 (frW.xu (by omega) (by omega)) (hC.one (i := 12 + w) (by omega) (fr3.xu (by omega)) ((hC.pc hp).fcs hw u))⟩
    · exact absurd hu_ hx_32
  · exact absurd ⟨by omega, by omega⟩ hx_19

set_option maxRecDepth 100000 in
set_option maxHeartbeats 4000000 in
theorem c_X4_actual {z : Nat} (D : xD) (r : xR) (hF : rF r) {N : Nat → Int} {np : Nat} (hC : CR D 5 N np) (hnp : np ≤ 10) (p : Nat) (u : Int) (hp : p < np) (hu9 : xI u) (hu_ : u = -6 ∨ (0 ≤ u ∧ u ≤ 2000)) {s : Nat} {π : Nat → Nat} {K : Nat → Nat → Int} {q : Nat → Nat} (hI : HI D r s π K q) (hz : D 75 2 = 0) : MX 4 mX4_actual [.ref 4, vi p, vi u] (351, z) D r (351, z) (xRs (vi (pF N p 7)) (CX D r s K q N np (fu N (18 + 36 * p + 7) u) (np))) := by
  refine MX.of (by decide +kernel) [some (.ref 4), some (vi p), some (vi u), none, none] rfl (Nat.le_of_ble_eq_true rfl) ?_
  intro γ hX hRX
  refine v_aload_n (q := 1) hX dX4_actual_0 rfl rfl rfl ?_
  refine w_getR (q := 4) hX fl_X4_10 rfl oLF hF.f0 dX4_actual_1 rfl ?_
  refine v_iload_n (q := 5) hX dX4_actual_4 rfl rfl rfl ?_
  refine w_callV (q := 8) hX (c_X3_productAt _ _ WK_5 hF.w5 hC.np hnp p hp) rfl kV_X3_productAt rfl (by decide) lk_X4_85 (by decide) rfl WK_5.1 (Nat.le_of_ble_eq_true rfl) dX4_actual_5 rfl ?_
  refine v_astore_n (q := 9) hX dX4_actual_8 rfl (Nat.le_of_ble_eq_true rfl) (Nat.le_of_ble_eq_true rfl) rfl ?_
  dsimp only [xs1, xs2, xclr]
  refine v_aload_n (q := 10) hX dX4_actual_9 rfl rfl rfl ?_
  refine v_ifnonnull (tgt := 15) hX dX4_actual_10 (by decide) ?_
  refine v_iload_n (q := 16) hX dX4_actual_15 rfl rfl rfl ?_
  refine v_bipush (q := 18) hX (by decide) dX4_actual_16 rfl ?_
  refine v_icmp_eq (q := 21) (tgt := 35) hX hu9 (by decide) dX4_actual_18 (by decide) rfl (fun hx_18 => ?_) (fun hx_18 => ?_)
  · refine v_aload_n (q := 36) hX dX4_actual_35 rfl rfl rfl ?_
    refine w_getR (q := 39) hX fl_X4_29 rfl oLF hF.f3 dX4_actual_36 rfl ?_
    refine v_aload_n (q := 40) hX dX4_actual_39 rfl rfl rfl ?_
    refine w_getR (q := 43) hX fl_X4_10 rfl oLF hF.f0 dX4_actual_40 rfl ?_
    refine w_callVq (q := 46) hX (c_X0_remember D r hF hC hnp hI hz) rfl kV_X0_remember rfl (by decide) lk_X4_52 (by decide) rfl oHis (Nat.le_of_ble_eq_true rfl) dX4_actual_43 rfl (fun D1 r1 hD1 => ?_)
    obtain ⟨x1, x2, x3, π1, hI1⟩ := hD1
    have hF := hF.mv x2
    have hC := hC.eq hnp (fun a ha hb => x1 a (by omega) (by omega))
    refine v_aload_n (q := 47) hX dX4_actual_46 rfl rfl rfl ?_
    refine w_getI (q := 50) hX fl_X4_95 rfl (WK_5.pk (p := p) (by omega)).1 dX4_actual_47 rfl ?_
    rw [(hC.pc hp).to]
    refine v_istore (q := 52) hX dX4_actual_50 (Nat.le_of_ble_eq_true rfl) (Nat.le_of_ble_eq_true rfl) rfl ?_
    dsimp only [xs1, xs2, xclr]
    refine v_aload_n (q := 53) hX dX4_actual_52 rfl rfl rfl ?_
    refine v_iload_n (q := 54) hX dX4_actual_53 rfl rfl rfl ?_
    refine w_putI (q := 57) hX fl_X4_95 rfl (WK_5.pk (p := p) (by omega)).1 dX4_actual_54 rfl ?_
    refine v_iload (q := 59) hX dX4_actual_57 rfl rfl ?_
    refine v_ireturn hX hRX rfl (by first | rfl | exact bi_nar _) dX4_actual_59 rfl ?_
    exact ⟨rfl, CX.fin x1 x2 x3 hI1 (frW.xu (by omega) (by omega)) (hC.one (i := 7) (by decide) (fr3.xu (by omega)) ((hC.pc hp).tld u))⟩
  · refine v_iload_n (q := 22) hX dX4_actual_21 rfl rfl rfl ?_
    refine v_iconst (q := 23) hX dX4_actual_22 rfl ?_
    refine v_sipush (q := 26) hX (by decide) dX4_actual_23 rfl ?_
    refine w_callS (q := 29) hX (c_X4_isIn _ _ _ _ _ (by first | assumption | decide | exact ⟨by omega, by omega⟩) (by first | assumption | decide | exact ⟨by omega, by omega⟩) (by first | assumption | decide | exact ⟨by omega, by omega⟩)) rfl kS_X4_isIn rfl (by decide) lk_X4_41 (Nat.le_of_ble_eq_true rfl) dX4_actual_26 rfl ?_
    refine w_ifne (q := 32) (tgt := 35) hX dX4_actual_29 (by decide) rfl (fun hx_29 => ?_) (fun hx_29 => ?_)
    · refine v_aload_n (q := 36) hX dX4_actual_35 rfl rfl rfl ?_
      refine w_getR (q := 39) hX fl_X4_29 rfl oLF hF.f3 dX4_actual_36 rfl ?_
      refine v_aload_n (q := 40) hX dX4_actual_39 rfl rfl rfl ?_
      refine w_getR (q := 43) hX fl_X4_10 rfl oLF hF.f0 dX4_actual_40 rfl ?_
      refine w_callVq (q := 46) hX (c_X0_remember D r hF hC hnp hI hz) rfl kV_X0_remember rfl (by decide) lk_X4_52 (by decide) rfl oHis (Nat.le_of_ble_eq_true rfl) dX4_actual_43 rfl (fun D1 r1 hD1 => ?_)
      obtain ⟨x1, x2, x3, π1, hI1⟩ := hD1
      have hF := hF.mv x2
      have hC := hC.eq hnp (fun a ha hb => x1 a (by omega) (by omega))
      refine v_aload_n (q := 47) hX dX4_actual_46 rfl rfl rfl ?_
      refine w_getI (q := 50) hX fl_X4_95 rfl (WK_5.pk (p := p) (by omega)).1 dX4_actual_47 rfl ?_
      rw [(hC.pc hp).to]
      refine v_istore (q := 52) hX dX4_actual_50 (Nat.le_of_ble_eq_true rfl) (Nat.le_of_ble_eq_true rfl) rfl ?_
      dsimp only [xs1, xs2, xclr]
      refine v_aload_n (q := 53) hX dX4_actual_52 rfl rfl rfl ?_
      refine v_iload_n (q := 54) hX dX4_actual_53 rfl rfl rfl ?_
      refine w_putI (q := 57) hX fl_X4_95 rfl (WK_5.pk (p := p) (by omega)).1 dX4_actual_54 rfl ?_
      refine v_iload (q := 59) hX dX4_actual_57 rfl rfl ?_
      refine v_ireturn hX hRX rfl (by first | rfl | exact bi_nar _) dX4_actual_59 rfl ?_
      exact ⟨rfl, CX.fin x1 x2 x3 hI1 (frW.xu (by omega) (by omega)) (hC.one (i := 7) (by decide) (fr3.xu (by omega)) ((hC.pc hp).tld u))⟩
    · exact absurd (by omega) hx_29

