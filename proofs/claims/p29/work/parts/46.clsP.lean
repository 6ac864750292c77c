/-- the history's row names its six works, each once -/
def HP (r : xR) (π : Nat → Nat) : Prop := ∀ c, c < 6 → π c < 6 ∧ r 76 c = some (77 + 34 * π c) ∧ ∀ d, d < 6 → π c = π d → c = d
theorem HP.lt {r : xR} {π : Nat → Nat} (h : HP r π) {c : Nat} (hc : c < 6) : π c < 6 := (h c hc).1
theorem HP.at {r : xR} {π : Nat → Nat} (h : HP r π) {c : Nat} (hc : c < 6) : r 76 c = some (77 + 34 * π c) := (h c hc).2.1
theorem HP.ij {r : xR} {π : Nat → Nat} (h : HP r π) {c d : Nat} (hc : c < 6) (hd : d < 6) (e : π c = π d) : c = d := (h c hc).2.2 d hd e
/-- the row once its first entry has gone to its end -/
def rotP (π : Nat → Nat) : Nat → Nat := fun c => if c < 5 then π (c + 1) else π 0
theorem HP.rot {r r' : xR} {π : Nat → Nat} (h : HP r π) (h1 : ∀ c, c < 5 → r' 76 c = r 76 (c + 1)) (h2 : r' 76 5 = r 76 0) : HP r' (rotP π) := by
  intro c hc
  have g : ∀ c, c < 6 → rotP π c = π (if c < 5 then c + 1 else 0) := fun c _ => by unfold rotP; split <;> rfl
  refine ⟨?_, ?_, fun d hd e => ?_⟩
  · rw [g c hc]; exact h.lt (by split <;> omega)
  · rw [g c hc]
    by_cases h5 : c < 5
    · rw [if_pos h5, h1 c h5]; exact h.at (by omega)
    · rw [if_neg h5, show c = 5 by omega, h2]; exact h.at (by decide)
  · rw [g c hc, g d hd] at e
    have := h.ij (by split <;> omega) (by split <;> omega) e
    split at this <;> split at this <;> omega
/-- the states that are kept, the oldest one first -/
def HI (D : xD) (r : xR) (s : Nat) (π : Nat → Nat) (K : Nat → Nat → Int) (q : Nat → Nat) : Prop := HP r π ∧ D 75 1 = (s : Int) ∧ s ≤ 6 ∧ ∀ c, c < s → CR D (77 + 34 * π c) (K c) (q c) ∧ q c ≤ 10
def hS (s : Nat) : Nat := if s = 6 then 5 else s
def hPu {α : Type} (s : Nat) (K : Nat → α) (N : α) : Nat → α := fun c => if c = hS s then N else if s = 6 then K (c + 1) else K c
/-- nothing but the history has changed -/
def frX (D D' : xD) : Prop := ∀ a, a ≠ 75 → (a < 77 ∨ 281 ≤ a) → D' a = D a
theorem xu75 (D : xD) (j : Nat) (e : Int) {a : Nat} (h : a ≠ 75) : xu D 75 j e a = D a := xu_row _ _ _ _ h
theorem HI.cong {D D' : xD} {r : xR} {s : Nat} {π : Nat → Nat} {K : Nat → Nat → Int} {q : Nat → Nat} (h : HI D r s π K q) (h1 : D' 75 1 = D 75 1) (hf : ∀ a, 77 ≤ a → a < 281 → D' a = D a) : HI D' r s π K q :=
  ⟨h.1, h1.trans h.2.1, h.2.2.1, fun c hc => ⟨(h.2.2.2 c hc).1.eq (h.2.2.2 c hc).2 (fun a ha hb => by have := h.1.lt (c := c) (by have := h.2.2.1; omega); exact hf a (by omega) (by omega)), (h.2.2.2 c hc).2⟩⟩
theorem HI.add {D D1 : xD} {r : xR} {s : Nat} {π : Nat → Nat} {K : Nat → Nat → Int} {q : Nat → Nat} (h : HI D r s π K q) (hs : s < 6) {N : Nat → Int} {np : Nat} (hnp : np ≤ 10) (hC : CR D1 (77 + 34 * π s) N np) (hf : frW (77 + 34 * π s) D D1) :
    HI (xu D1 75 1 (D1 75 1 + 1)) r (s + 1) π (fun c => if c = s then N else K c) (fun c => if c = s then np else q c) ∧ frX D (xu D1 75 1 (D1 75 1 + 1)) ∧ xu D1 75 1 (D1 75 1 + 1) 75 2 = D 75 2 := by
  have hp := h.1.lt hs
  have e75 : D1 75 = D 75 := hf 75 (by omega)
  refine ⟨⟨h.1, by rw [xu_at, e75, h.2.1]; omega, by omega, fun c hc => ?_⟩, fun a ha hb => ?_, ?_⟩
  · have hpc := h.1.lt (c := c) (by omega)
    by_cases hcs : c = s
    · subst hcs
      dsimp only
      rw [if_pos rfl, if_pos rfl]
      exact ⟨hC.eq hnp (fun a ha hb => xu75 _ _ _ (by omega)), hnp⟩
    · dsimp only
      rw [if_neg hcs, if_neg hcs]
      obtain ⟨g1, g2⟩ := h.2.2.2 c (by omega)
      have hne : π c ≠ π s := fun e => hcs (h.1.ij (by omega) hs e)
      exact ⟨(g1.fr hf (by omega) g2).eq g2 (fun a ha hb => xu75 _ _ _ (by omega)), g2⟩
  · rw [xu75 _ _ _ ha]; exact hf a (by omega)
  · rw [xu_ne _ _ _ _ (Or.inr (by decide)), e75]
theorem HI.drop {D : xD} {r r' : xR} {π : Nat → Nat} {K : Nat → Nat → Int} {q : Nat → Nat} (h : HI D r 6 π K q) (h1 : ∀ c, c < 5 → r' 76 c = r 76 (c + 1)) (h2 : r' 76 5 = r 76 0) : HI (xu D 75 1 5) r' 5 (rotP π) (fun c => K (c + 1)) (fun c => q (c + 1)) := by
  refine ⟨h.1.rot h1 h2, xu_at _ _ _ _, by decide, fun c hc => ?_⟩
  obtain ⟨g1, g2⟩ := h.2.2.2 (c + 1) (by omega)
  have e : rotP π c = π (c + 1) := if_pos hc
  have := h.1.lt (c := c + 1) (by omega)
  rw [e]
  exact ⟨g1.eq g2 (fun a ha hb => xu75 _ _ _ (by omega)), g2⟩
set_option maxRecDepth 100000 in
set_option maxHeartbeats 4000000 in
theorem c_X0_dropOldest {z : Nat} (D : xD) (r : xR) (hst_ : r 75 0 = some 76) {π : Nat → Nat} (hP : HP r π) : MX 0 mX0_dropOldest [.ref 75] (351, z) D r (351, z) (xRn (fun D' r' => D' = xu D 75 1 5 ∧ frR r r' ∧ (∀ c, c < 5 → r' 76 c = r 76 (c + 1)) ∧ r' 76 5 = r 76 0)) := by
  refine MX.of (by decide +kernel) [some (.ref 75), none, none] rfl (Nat.le_of_ble_eq_true rfl) ?_
  intro γ hX hRX
  have L : ∀ k, k ≤ 5 → ∀ ρ : xR, frR r ρ → (∀ c, c < k → ρ 76 c = r 76 (c + 1)) → (∀ c, k ≤ c → ρ 76 c = r 76 c) → ρ 75 0 = some 76 → xV γ 9 [some (.ref 75), some (.ref (77 + 34 * π 0)), some (vi ((k + 1 : Nat) : Int))] [] (351, z) D ρ := by
    refine xup 5 (fun k hk5 ih ρ g0 g1 g2 hst_ => ?_)
    refine v_iload_n (q := 10) hX dX0_dropOldest_9 rfl rfl rfl ?_
    refine v_bipush (q := 12) hX (by decide) dX0_dropOldest_10 rfl ?_
    refine v_icmp_ge (q := 15) (tgt := 35) hX ⟨by omega, by omega⟩ (by decide) dX0_dropOldest_12 (by decide) rfl (fun hx_12 => ?_) (fun hx_12 => ?_)
    · refine v_aload_n (q := 36) hX dX0_dropOldest_35 rfl rfl rfl ?_
      refine w_getR (q := 39) hX fl_X0_11 rfl oHis hst_ dX0_dropOldest_36 rfl ?_
      refine v_iconst (q := 40) hX dX0_dropOldest_39 rfl ?_
      refine v_aload_n (q := 41) hX dX0_dropOldest_40 rfl rfl rfl ?_
      refine w_ast (q := 42) (kk := 5) hX (Or.inl rfl) (rfl) (by decide) aSts (WK_his (π 0) (hP.lt (by decide))).1 dX0_dropOldest_41 rfl ?_
      refine v_aload_n (q := 43) hX dX0_dropOldest_42 rfl rfl rfl ?_
      refine v_iconst (q := 44) hX dX0_dropOldest_43 rfl ?_
      refine w_putI (q := 47) hX fl_X0_22 rfl oHis dX0_dropOldest_44 rfl ?_
      refine v_vreturn hX hRX rfl dX0_dropOldest_47 rfl ?_
      refine ⟨rfl, rfl, fun a ha => (xur_row _ _ _ _ ha).trans (g0 a ha), fun c hc => ?_, ?_⟩
      · rw [xur_ne _ _ _ _ (Or.inr (by omega))]; exact g1 c (by omega)
      · rw [xur_at]; exact (hP.at (by decide)).symm
    · refine v_aload_n (q := 16) hX dX0_dropOldest_15 rfl rfl rfl ?_
      refine w_getR (q := 19) hX fl_X0_11 rfl oHis hst_ dX0_dropOldest_16 rfl ?_
      refine v_iload_n (q := 20) hX dX0_dropOldest_19 rfl rfl rfl ?_
      refine v_iconst (q := 21) hX dX0_dropOldest_20 rfl ?_
      refine v_isub (q := 22) hX dX0_dropOldest_21 rfl ?_
      refine v_aload_n (q := 23) hX dX0_dropOldest_22 rfl rfl rfl ?_
      refine w_getR (q := 26) hX fl_X0_11 rfl oHis hst_ dX0_dropOldest_23 rfl ?_
      refine v_iload_n (q := 27) hX dX0_dropOldest_26 rfl rfl rfl ?_
      refine w_ald (q := 28) (kk := k + 1) hX (rfl) (by omega) aSts (by decide) ((g2 (k + 1) (by omega)).trans (hP.at (by omega))) dX0_dropOldest_27 rfl ?_
      refine w_ast (q := 29) (kk := k) hX (Or.inl rfl) (by omega) (by omega) aSts (WK_his (π (k + 1)) (hP.lt (by omega))).1 dX0_dropOldest_28 rfl ?_
      refine v_iinc (q := 32) hX dX0_dropOldest_29 rfl (Nat.le_of_ble_eq_true rfl) (Nat.le_of_ble_eq_true rfl) rfl ?_
      dsimp only [xs1, xs2, xclr]
      refine v_goto (tgt := 9) hX dX0_dropOldest_32 (by decide) ?_
      refine ih (by omega) _ (fun a ha => (xur_row _ _ _ _ ha).trans (g0 a ha)) (fun c hc => ?_) (fun c hc => ?_) (by rw [xur_row _ _ _ _ (by decide)]; exact hst_)
      · by_cases hck : c = k
        · subst hck; rw [xur_at]; exact (hP.at (by omega)).symm
        · rw [xur_ne _ _ _ _ (Or.inr hck)]; exact g1 c (by omega)
      · rw [xur_ne _ _ _ _ (Or.inr (by omega))]; exact g2 c (by omega)
  refine v_aload_n (q := 1) hX dX0_dropOldest_0 rfl rfl rfl ?_
  refine w_getR (q := 4) hX fl_X0_11 rfl oHis hst_ dX0_dropOldest_1 rfl ?_
  refine v_iconst (q := 5) hX dX0_dropOldest_4 rfl ?_
  refine w_ald (q := 6) (kk := 0) hX (rfl) (by decide) aSts (by decide) (hP.at (by decide)) dX0_dropOldest_5 rfl ?_
  refine v_astore_n (q := 7) hX dX0_dropOldest_6 rfl (Nat.le_of_ble_eq_true rfl) (Nat.le_of_ble_eq_true rfl) rfl ?_
  dsimp only [xs1, xs2, xclr]
  refine v_iconst (q := 8) hX dX0_dropOldest_7 rfl ?_
  refine v_istore_n (q := 9) hX dX0_dropOldest_8 rfl (Nat.le_of_ble_eq_true rfl) (Nat.le_of_ble_eq_true rfl) rfl ?_
  dsimp only [xs1, xs2, xclr]
  exact L 0 (by decide) r (fun _ _ => rfl) (fun c hc => absurd hc (by omega)) (fun _ _ => rfl) hst_

set_option maxRecDepth 100000 in
set_option maxHeartbeats 4000000 in
theorem c_X0_remember {z : Nat} (D : xD) (r : xR) (hF : rF r) {N : Nat → Int} {np : Nat} (hC : CR D 5 N np) (hnp : np ≤ 10) {s : Nat} {π : Nat → Nat} {K : Nat → Nat → Int} {q : Nat → Nat} (hI : HI D r s π K q) (hz : D 75 2 = 0) : MX 3 mX0_remember [.ref 75, .ref 5] (351, z) D r (351, z) (xRn (fun D' r' => frX D D' ∧ frR r r' ∧ D' 75 2 = D 75 2 ∧ ∃ π', HI D' r' (hS s + 1) π' (hPu s K N) (hPu s q np))) := by
  refine MX.of (by decide +kernel) [some (.ref 75), some (.ref 5)] rfl (Nat.le_of_ble_eq_true rfl) ?_
  intro γ hX hRX
  by_cases h6_ : s = 6
  · subst h6_
    refine v_aload_n (q := 1) hX dX0_remember_0 rfl rfl rfl ?_
    refine w_getI (q := 4) hX fl_X0_18 rfl oHis dX0_remember_1 rfl ?_
    rw [hz]
    refine v_if_eq (q := 7) (tgt := 8) hX (by decide) dX0_remember_4 (by decide) rfl (fun hx_4 => ?_) (fun hx_4 => ?_)
    · refine v_aload_n (q := 9) hX dX0_remember_8 rfl rfl rfl ?_
      refine w_getI (q := 12) hX fl_X0_22 rfl oHis dX0_remember_9 rfl ?_
      refine v_bipush (q := 14) hX (by decide) dX0_remember_12 rfl ?_
      rw [hI.2.1]
      refine v_icmp_lt (q := 17) (tgt := 21) hX ⟨by omega, by omega⟩ (by decide) dX0_remember_14 (by decide) rfl (fun hx_14 => ?_) (fun hx_14 => ?_)
      · exact absurd hx_14 (by omega)
      · refine v_aload_n (q := 18) hX dX0_remember_17 rfl rfl rfl ?_
        refine w_callVq (q := 21) hX (c_X0_dropOldest D r hF.st hI.1) rfl kV_X0_dropOldest rfl (by decide) lk_X0_26 (by decide) rfl oHis (Nat.le_of_ble_eq_true rfl) dX0_remember_18 rfl (fun D1 r1 hD1 => ?_)
        obtain ⟨rfl, d2, d3, d4⟩ := hD1
        have hI1 := hI.drop d3 d4
        have hF_ := hF.mv d2
        have ht_ : 5 < 6 := by decide
        have hC_ : CR (xu D 75 1 5) 5 N np := hC.eq hnp (fun a ha hb => xu75 _ _ _ (by omega))
        refine v_aload_n (q := 22) hX dX0_remember_21 rfl rfl rfl ?_
        refine w_getI (q := 25) hX fl_X0_22 rfl oHis dX0_remember_22 rfl ?_
        rw [hI1.2.1]
        refine v_if_lt (q := 28) (tgt := 72) hX (by decide) dX0_remember_25 (by decide) rfl (fun hx_25 => ?_) (fun hx_25 => ?_)
        · exact absurd hx_25 (by decide)
        · refine v_aload_n (q := 29) hX dX0_remember_28 rfl rfl rfl ?_
          refine w_getI (q := 32) hX fl_X0_22 rfl oHis dX0_remember_29 rfl ?_
          refine v_bipush (q := 34) hX (by decide) dX0_remember_32 rfl ?_
          rw [hI1.2.1]
          refine v_icmp_ge (q := 37) (tgt := 72) hX (by decide) (by decide) dX0_remember_34 (by decide) rfl (fun hx_34 => ?_) (fun hx_34 => ?_)
          · exact absurd hx_34 (by decide)
          · refine v_aload_n (q := 38) hX dX0_remember_37 rfl rfl rfl ?_
            refine w_getR (q := 41) hX fl_X0_11 rfl oHis hF_.st dX0_remember_38 rfl ?_
            refine v_aload_n (q := 42) hX dX0_remember_41 rfl rfl rfl ?_
            refine w_getI (q := 45) hX fl_X0_22 rfl oHis dX0_remember_42 rfl ?_
            rw [hI1.2.1]
            refine w_ald (q := 46) (kk := 5) hX (rfl) (ht_) aSts (by decide) (hI1.1.at ht_) dX0_remember_45 rfl ?_
            refine v_ifnull (q := 49) hX dX0_remember_46 rfl ?_
            refine v_aload_n (q := 50) hX dX0_remember_49 rfl rfl rfl ?_
            refine w_getR (q := 53) hX fl_X0_11 rfl oHis hF_.st dX0_remember_50 rfl ?_
            refine v_aload_n (q := 54) hX dX0_remember_53 rfl rfl rfl ?_
            refine w_getI (q := 57) hX fl_X0_22 rfl oHis dX0_remember_54 rfl ?_
            rw [hI1.2.1]
            refine w_ald (q := 58) (kk := 5) hX (rfl) (ht_) aSts (by decide) (hI1.1.at ht_) dX0_remember_57 rfl ?_
            refine v_aload_n (q := 59) hX dX0_remember_58 rfl rfl rfl ?_
            refine w_callVn (q := 62) hX (c_X3_copyFrom (xu D 75 1 5) r1 (o := 77 + 34 * (rotP π) (5)) (WK_his _ (hI1.1.lt ht_)) (hF_.wh _ (hI1.1.lt ht_)) (o2 := 5) WK_5 hF_.w5 hC_ hnp (by omega)) rfl kV_X3_copyFrom rfl (by decide) lk_X0_29 (by decide) rfl (WK_his _ (hI1.1.lt ht_)).1 (Nat.le_of_ble_eq_true rfl) dX0_remember_59 rfl (fun D2 hD2 => ?_)
            refine v_aload_n (q := 63) hX dX0_remember_62 rfl rfl rfl ?_
            refine v_dup (q := 64) hX rfl dX0_remember_63 rfl ?_
            refine w_getI (q := 67) hX fl_X0_22 rfl oHis dX0_remember_64 rfl ?_
            refine v_iconst (q := 68) hX dX0_remember_67 rfl ?_
            refine v_iadd (q := 69) hX dX0_remember_68 rfl ?_
            refine w_putI (q := 72) hX fl_X0_22 rfl oHis dX0_remember_69 rfl ?_
            refine v_vreturn hX hRX rfl dX0_remember_72 rfl ?_
            obtain ⟨a1, a2, a3⟩ := hI1.add ht_ hnp hD2.1 hD2.2
            refine ⟨rfl, fun a ha hb => (a2 a ha hb).trans (xu75 _ _ _ ha), d2, a3.trans (xu_ne _ _ _ _ (Or.inr (by decide))), rotP π, ?_⟩
            exact a1
    · exact absurd rfl hx_4
  · have ht_ : s < 6 := by have := hI.2.2.1; omega
    have hF_ := hF
    have hC_ := hC
    refine v_aload_n (q := 1) hX dX0_remember_0 rfl rfl rfl ?_
    refine w_getI (q := 4) hX fl_X0_18 rfl oHis dX0_remember_1 rfl ?_
    rw [hz]
    refine v_if_eq (q := 7) (tgt := 8) hX (by decide) dX0_remember_4 (by decide) rfl (fun hx_4 => ?_) (fun hx_4 => ?_)
    · refine v_aload_n (q := 9) hX dX0_remember_8 rfl rfl rfl ?_
      refine w_getI (q := 12) hX fl_X0_22 rfl oHis dX0_remember_9 rfl ?_
      refine v_bipush (q := 14) hX (by decide) dX0_remember_12 rfl ?_
      rw [hI.2.1]
      refine v_icmp_lt (q := 17) (tgt := 21) hX ⟨by omega, by omega⟩ (by decide) dX0_remember_14 (by decide) rfl (fun hx_14 => ?_) (fun hx_14 => ?_)
      · refine v_aload_n (q := 22) hX dX0_remember_21 rfl rfl rfl ?_
        refine w_getI (q := 25) hX fl_X0_22 rfl oHis dX0_remember_22 rfl ?_
        rw [hI.2.1]
        refine v_if_lt (q := 28) (tgt := 72) hX ⟨by omega, by omega⟩ dX0_remember_25 (by decide) rfl (fun hx_25 => ?_) (fun hx_25 => ?_)
        · exact absurd hx_25 (by omega)
        · refine v_aload_n (q := 29) hX dX0_remember_28 rfl rfl rfl ?_
          refine w_getI (q := 32) hX fl_X0_22 rfl oHis dX0_remember_29 rfl ?_
          refine v_bipush (q := 34) hX (by decide) dX0_remember_32 rfl ?_
          rw [hI.2.1]
          refine v_icmp_ge (q := 37) (tgt := 72) hX ⟨by omega, by omega⟩ (by decide) dX0_remember_34 (by decide) rfl (fun hx_34 => ?_) (fun hx_34 => ?_)
          · exact absurd hx_34 (by omega)
          · refine v_aload_n (q := 38) hX dX0_remember_37 rfl rfl rfl ?_
            refine w_getR (q := 41) hX fl_X0_11 rfl oHis hF_.st dX0_remember_38 rfl ?_
            refine v_aload_n (q := 42) hX dX0_remember_41 rfl rfl rfl ?_
            refine w_getI (q := 45) hX fl_X0_22 rfl oHis dX0_remember_42 rfl ?_
            rw [hI.2.1]
            refine w_ald (q := 46) (kk := s) hX (rfl) (ht_) aSts (by decide) (hI.1.at ht_) dX0_remember_45 rfl ?_
            refine v_ifnull (q := 49) hX dX0_remember_46 rfl ?_
            refine v_aload_n (q := 50) hX dX0_remember_49 rfl rfl rfl ?_
            refine w_getR (q := 53) hX fl_X0_11 rfl oHis hF_.st dX0_remember_50 rfl ?_
            refine v_aload_n (q := 54) hX dX0_remember_53 rfl rfl rfl ?_
            refine w_getI (q := 57) hX fl_X0_22 rfl oHis dX0_remember_54 rfl ?_
            rw [hI.2.1]
            refine w_ald (q := 58) (kk := s) hX (rfl) (ht_) aSts (by decide) (hI.1.at ht_) dX0_remember_57 rfl ?_
            refine v_aload_n (q := 59) hX dX0_remember_58 rfl rfl rfl ?_
            refine w_callVn (q := 62) hX (c_X3_copyFrom D r (o := 77 + 34 * π (s)) (WK_his _ (hI.1.lt ht_)) (hF_.wh _ (hI.1.lt ht_)) (o2 := 5) WK_5 hF_.w5 hC_ hnp (by omega)) rfl kV_X3_copyFrom rfl (by decide) lk_X0_29 (by decide) rfl (WK_his _ (hI.1.lt ht_)).1 (Nat.le_of_ble_eq_true rfl) dX0_remember_59 rfl (fun D2 hD2 => ?_)
            refine v_aload_n (q := 63) hX dX0_remember_62 rfl rfl rfl ?_
            refine v_dup (q := 64) hX rfl dX0_remember_63 rfl ?_
            refine w_getI (q := 67) hX fl_X0_22 rfl oHis dX0_remember_64 rfl ?_
            refine v_iconst (q := 68) hX dX0_remember_67 rfl ?_
            refine v_iadd (q := 69) hX dX0_remember_68 rfl ?_
            refine w_putI (q := 72) hX fl_X0_22 rfl oHis dX0_remember_69 rfl ?_
            refine v_vreturn hX hRX rfl dX0_remember_72 rfl ?_
            obtain ⟨a1, a2, a3⟩ := hI.add ht_ hnp hD2.1 hD2.2
            have eS : hS s = s := if_neg (by omega)
            refine ⟨rfl, a2, fun _ _ => rfl, a3, π, ?_⟩
            rw [eS]
            have eK : ∀ {α : Type} (K : Nat → α) (N : α), hPu s K N = fun c => if c = s then N else K c := fun K N => by funext c; unfold hPu; rw [eS, if_neg (show ¬ s = 6 by omega)]
            rw [eK, eK]
            exact a1
      · exact absurd hx_14 (by omega)
    · exact absurd rfl hx_4

theorem HI.back {D D1 D2 : xD} {r : xR} {s : Nat} {π : Nat → Nat} {K : Nat → Nat → Int} {q : Nat → Nat} (h : HI D r (s + 1) π K q) (hD : D1 = xu D 75 1 (s : Int)) (hf : frW 5 D1 D2) : HI D2 r s π K q ∧ D2 75 2 = D 75 2 ∧ ∀ a, a ≠ 75 → (a < 5 ∨ 39 ≤ a) → D2 a = D a := by
  subst hD
  have e75 : D2 75 = xu D 75 1 (s : Int) 75 := hf 75 (by omega)
  refine ⟨⟨h.1, by rw [e75, xu_at], by have := h.2.2.1; omega, fun c hc => ?_⟩, by rw [e75, xu_ne _ _ _ _ (Or.inr (by decide))], fun a ha hb => (hf a (by omega)).trans (xu75 _ _ _ ha)⟩
  have := h.1.lt (c := c) (by have := h.2.2.1; omega)
  obtain ⟨g1, g2⟩ := h.2.2.2 c (by omega)
  exact ⟨(g1.eq g2 (fun a ha hb => xu75 _ _ _ (by omega))).fr hf (by omega) g2, g2⟩
set_option maxRecDepth 100000 in
set_option maxHeartbeats 4000000 in
theorem c_X0_takeBack {z : Nat} (D : xD) (r : xR) (hF : rF r) {s : Nat} {π : Nat → Nat} {K : Nat → Nat → Int} {q : Nat → Nat} (hI : HI D r (s + 1) π K q) : MX 3 mX0_takeBack [.ref 75, .ref 5] (351, z) D r (351, z) (xEn (fun D' => CR D' 5 (K s) (q s) ∧ HI D' r s π K q ∧ D' 75 2 = D 75 2 ∧ ∀ a, a ≠ 75 → (a < 5 ∨ 39 ≤ a) → D' a = D a) r) := by
  refine MX.of (by decide +kernel) [some (.ref 75), some (.ref 5)] rfl (Nat.le_of_ble_eq_true rfl) ?_
  intro γ hX hRX
  have hs6 : s < 6 := by have := hI.2.2.1; omega
  have hCs : CR (xu D 75 1 (s : Int)) (77 + 34 * π s) (K s) (q s) := (hI.2.2.2 s (by omega)).1.eq (hI.2.2.2 s (by omega)).2 (fun a ha hb => xu75 _ _ _ (by omega))
  refine v_aload_n (q := 1) hX dX0_takeBack_0 rfl rfl rfl ?_
  refine w_getI (q := 4) hX fl_X0_22 rfl oHis dX0_takeBack_1 rfl ?_
  rw [hI.2.1]
  refine v_if_le (q := 7) (tgt := 39) hX ⟨by omega, by omega⟩ dX0_takeBack_4 (by decide) rfl (fun hx_4 => ?_) (fun hx_4 => ?_)
  · exact absurd hx_4 (by omega)
  · refine v_aload_n (q := 8) hX dX0_takeBack_7 rfl rfl rfl ?_
    refine w_getI (q := 11) hX fl_X0_22 rfl oHis dX0_takeBack_8 rfl ?_
    refine v_bipush (q := 13) hX (by decide) dX0_takeBack_11 rfl ?_
    rw [hI.2.1]
    refine v_icmp_gt (q := 16) (tgt := 39) hX ⟨by omega, by omega⟩ (by decide) dX0_takeBack_13 (by decide) rfl (fun hx_13 => ?_) (fun hx_13 => ?_)
    · exact absurd hx_13 (by omega)
    · refine v_aload_n (q := 17) hX dX0_takeBack_16 rfl rfl rfl ?_
      refine v_dup (q := 18) hX rfl dX0_takeBack_17 rfl ?_
      refine w_getI (q := 21) hX fl_X0_22 rfl oHis dX0_takeBack_18 rfl ?_
      refine v_iconst (q := 22) hX dX0_takeBack_21 rfl ?_
      refine v_isub (q := 23) hX dX0_takeBack_22 rfl ?_
      rw [hI.2.1, show ((s + 1 : Nat) : Int) - 1 = (s : Int) by omega]
      refine w_putI (q := 26) hX fl_X0_22 rfl oHis dX0_takeBack_23 rfl ?_
      refine v_aload_n (q := 27) hX dX0_takeBack_26 rfl rfl rfl ?_
      refine v_aload_n (q := 28) hX dX0_takeBack_27 rfl rfl rfl ?_
      refine w_getR (q := 31) hX fl_X0_11 rfl oHis hF.st dX0_takeBack_28 rfl ?_
      refine v_aload_n (q := 32) hX dX0_takeBack_31 rfl rfl rfl ?_
      refine w_getI (q := 35) hX fl_X0_22 rfl oHis dX0_takeBack_32 rfl ?_
      rw [xu_at]
      refine w_ald (q := 36) (kk := s) hX (rfl) (hs6) aSts (by decide) (hI.1.at hs6) dX0_takeBack_35 rfl ?_
      refine w_callVn (q := 39) hX (c_X3_copyFrom (xu D 75 1 (s : Int)) r (o := 5) WK_5 hF.w5 (o2 := 77 + 34 * π s) (WK_his _ (hI.1.lt hs6)) (hF.wh _ (hI.1.lt hs6)) hCs (hI.2.2.2 s (by omega)).2 (by omega)) rfl kV_X3_copyFrom rfl (by decide) lk_X0_29 (by decide) rfl WK_5.1 (Nat.le_of_ble_eq_true rfl) dX0_takeBack_36 rfl (fun D2 hD2 => ?_)
      refine v_vreturn hX hRX rfl dX0_takeBack_39 rfl ?_
      exact ⟨rfl, rfl, hD2.1, hI.back rfl hD2.2⟩


