theorem WR.eq {r r' : xR} {o : Nat} (h : WR o r) (hf : ∀ a, o ≤ a → a < o + 34 → r' a = r a) : WR o r' := by
  have e : ∀ k, k < 34 → r' (o + k) = r (o + k) := fun k hk => hf _ (by omega) (by omega)
  have e0 : r' o = r o := e 0 (by decide)
  have e3 : r' (o + 3) = r (o + 3) := e 3 (by decide)
  refine ⟨by rw [e0]; exact h.1, by rw [e0]; exact h.2.1, by rw [e0]; exact h.2.2.1, fun p hp => ⟨by rw [e3]; exact (h.2.2.2 p hp).1, ?_⟩⟩
  have e4 : r' (o + 4 + 3 * p) = r (o + 4 + 3 * p) := by
    rw [show o + 4 + 3 * p = o + (4 + 3 * p) by omega]; exact e _ (by omega)
  have h5 := (h.2.2.2 p hp).2
  exact ⟨by rw [e4]; exact h5.1, by rw [e4]; exact h5.2⟩
theorem xFr.x3 {o : Nat} {D D' : xD} {r r' : xR} (h : xFr o D r) (h1 : ∀ a, a ≠ o + 1 → a ≠ o + 2 → D' a = D a) (h2 : ∀ a, (a < o ∨ o + 34 ≤ a) → r' a = r a) : xFr (o + 34) D' r' := fun a ha => ⟨fun j => by rw [h1 a (by omega) (by omega)]; exact (h a (by omega)).1 j, fun j => by rw [h2 a (by omega)]; exact (h a (by omega)).2 j⟩
set_option maxRecDepth 100000 in
set_option maxHeartbeats 4000000 in
theorem c_X0_init {z : Nat} (D : xD) (r : xR) (hf : xFr 76 D r) : MX 3 mX0_init [.ref 75] (76, z) D r (281, z + 2664) (fun v D' r' => v = none ∧ (∀ a, (a < 77 ∨ 281 ≤ a) → D' a = D a) ∧ r' 75 0 = some 76 ∧ (∀ c, c < 6 → r' 76 c = some (77 + 34 * c) ∧ WR (77 + 34 * c) r') ∧ ∀ a, (a < 75 ∨ 281 ≤ a) → r' a = r a) := by
  refine MX.of (by decide +kernel) [some (.ref 75), none] rfl (Nat.le_of_ble_eq_true rfl) ?_
  intro γ hX hRX
  have L : ∀ k, k ≤ 6 → ∀ (E : xD) (ρ : xR), (∀ a, (a < 77 ∨ 281 ≤ a) → E a = D a) → ρ 75 0 = some 76 → (∀ c, c < k → ρ 76 c = some (77 + 34 * c) ∧ WR (77 + 34 * c) ρ) → (∀ a, (a < 75 ∨ 281 ≤ a) → ρ a = r a) → xFr (77 + 34 * k) E ρ → xV γ 15 [some (.ref 75), some (vi (k : Nat))] [] (77 + 34 * k, z + 6 + 443 * k) E ρ := by
    refine xup 6 (fun k hk ih E ρ gE r0 gW gR hfr => ?_)
    refine v_iload_n (q := 16) hX dX0_init_15 rfl rfl rfl ?_
    refine v_bipush (q := 18) hX (by decide) dX0_init_16 rfl ?_
    refine v_icmp_ge (q := 21) (tgt := 40) hX ⟨by omega, by omega⟩ (by decide) dX0_init_18 (by decide) rfl (fun hx_18 => ?_) (fun hx_18 => ?_)
    · refine v_vreturn hX hRX rfl dX0_init_40  (by show 77 + 34 * k = 281; omega) ?_
      exact ⟨rfl, gE, r0, fun c hc => gW c (by omega), gR⟩
    · have hk6 : k < 6 := by omega
      have hKW := WK_his k hk6
      refine v_aload_n (q := 22) hX dX0_init_21 rfl rfl rfl ?_
      refine v_getR (q := 25) hX fl_X0_11 rfl (a := 75) (z := 0) rfl (by decide) (by dsimp only; omega) (b := 76) r0 dX0_init_22 rfl ?_
      refine v_iload_n (q := 26) hX dX0_init_25 rfl rfl rfl ?_
      refine v_new (q := 29) hX hRX.gb (ci := 3) (by decide) hKW.1.1 ck_X0_9 in_X3 ii_X3 ixX3 tyX3_ok (by omega) (hfr (77 + 34 * k) (Nat.le_refl _)).1 (hfr (77 + 34 * k) (Nat.le_refl _)).2 rfl rfl ⟨by dsimp only; omega, by show z + 6 + 443 * k + 10 ≤ z + 2664; omega⟩ dX0_init_26 rfl ?_
      refine v_dup (q := 30) hX rfl dX0_init_29 rfl ?_
      refine v_callI (q := 33) (σ' := (77 + 34 * k + 34, z + 6 + 443 * k + 10 + 433)) hX hRX.gb (c_X3_init E ρ hKW (hfr.mo (by omega))) rfl kI_X3_init rfl (by decide) lk_X0_17 ⟨by dsimp only; omega, by show z + 6 + 443 * k + 10 ≤ _; omega⟩ ⟨by dsimp only; omega, by dsimp only; omega⟩ (Nat.le_of_ble_eq_true rfl) dX0_init_30 rfl (fun v E2 ρ2 h => ?_)
      obtain ⟨rfl, j1, j2, j3, j4, j5⟩ := h
      simp only [Option.toList, List.nil_append]
      refine v_aastore (q := 34) hX (Or.inl rfl) (a := 76) (len := 6) (kk := k) rfl hk6 (by decide) rfl (by decide) (by dsimp only; omega) hKW.1.1 hKW.1.2.1 (by dsimp only; omega) dX0_init_33 rfl ?_
      refine v_iinc (q := 37) hX dX0_init_34 rfl (Nat.le_of_ble_eq_true rfl) (Nat.le_of_ble_eq_true rfl) rfl ?_
      dsimp only [xs1, xs2, xclr]
      refine v_goto (tgt := 15) hX dX0_init_37 (by decide) ?_
      have e76 : ρ2 76 = ρ 76 := j5 76 (by omega)
      have g := ih (by omega) E2 (xur ρ2 76 k (some (77 + 34 * k))) (fun a h1_ => (j1 a (by omega) (by omega)).trans (gE a h1_)) ?_ (fun c hc => ?_) (fun a h1_ => ?_) ?_
      · rw [show 77 + 34 * (k + 1) = 77 + 34 * k + 34 by omega, show z + 6 + 443 * (k + 1) = z + 6 + 443 * k + 10 + 433 by omega] at g
        exact g
      · rw [xur_row _ _ _ _ (by decide), j5 75 (by omega)]; exact r0
      · by_cases hck : c = k
        · subst hck; exact ⟨xur_at _ _ _ _, j4.eq (fun a h1_ h2_ => xur_row _ _ _ _ (by omega))⟩
        · refine ⟨?_, ((gW c (by omega)).2.eq (fun a h1_ h2_ => j5 a (by omega))).eq (fun a h1_ h2_ => xur_row _ _ _ _ (by omega))⟩
          rw [xur_ne _ _ _ _ (Or.inr hck), e76]; exact (gW c (by omega)).1
      · rw [xur_row _ _ _ _ (by omega), j5 a (by omega)]; exact gR a h1_
      · exact (xFr.x3 hfr j1 j5).ur (by omega)
  refine v_aload_n (q := 1) hX dX0_init_0 rfl rfl rfl ?_
  refine v_objInit (q := 4) hX lk_X0_3 oi_in oi_cd (Nat.le_of_ble_eq_true rfl) (Nat.le_of_ble_eq_true rfl) dX0_init_1 rfl ?_
  refine v_aload_n (q := 5) hX dX0_init_4 rfl rfl rfl ?_
  refine v_bipush (q := 7) hX (by decide) dX0_init_5 rfl ?_
  refine v_anew (q := 10) hX hRX.gb (Or.inl rfl) rfl rfl (by decide) ck_X0_9 (by decide) (hf 76 (by decide)).2 rfl rfl ⟨by dsimp only; omega, by dsimp only; omega⟩ dX0_init_7 rfl ?_
  refine v_putF (q := 13) hX fl_X0_11 rfl (fun _ => rfl) (fun _ => rfl) rfl rfl rfl (by decide) (by dsimp only; omega) dX0_init_10 rfl ?_
  refine v_iconst (q := 14) hX dX0_init_13 rfl ?_
  refine v_istore_n (q := 15) hX dX0_init_14 rfl (Nat.le_of_ble_eq_true rfl) (Nat.le_of_ble_eq_true rfl) rfl ?_
  dsimp only [xs1, xs2, xclr]
  exact L 0 (by decide) D _ (fun _ _ => rfl) (xur_at _ _ _ _) (fun c hc => absurd hc (by omega)) (fun a ha => xur_row _ _ _ _ (by omega)) ((hf.mo (by decide)).ur (by decide))


