/-- what stands of the class before its slots are filled -/
def X4s (D E : xD) (ρ r : xR) : Prop := (∀ a, a ≠ 6 ∧ a ≠ 7 → a ≠ 40 ∧ a ≠ 41 → (a < 77 ∨ 351 ≤ a ∨ a = 281 ∨ a = 282) → E a = D a) ∧ (∀ j, j < 9 → E 6 j = xst 3 j) ∧ (∀ j, j < 4 → E 7 j = 5) ∧ (∀ a, 351 ≤ a → ρ a = r a) ∧ (WR 5 ρ ∧ WR 39 ρ ∧ ρ 73 0 = some 74 ∧ ρ 75 0 = some 76 ∧ ∀ c, c < 6 → ρ 76 c = some (77 + 34 * c) ∧ WR (77 + 34 * c) ρ)
  ∧ ρ 4 0 = some 5 ∧ ρ 4 1 = some 39 ∧ ρ 4 2 = some 73 ∧ ρ 4 3 = some 75 ∧ ρ 4 4 = some 281 ∧ ρ 4 5 = some 282
theorem X4s.mv {D E E' : xD} {ρ ρ' r : xR} (h : X4s D E ρ r) (h1 : ∀ a, a < 283 ∨ 351 ≤ a → E' a = E a) (h2 : ∀ a, a ≠ 281 → (a < 283 ∨ 351 ≤ a) → ρ' a = ρ a) : X4s D E' ρ' r := by
  obtain ⟨k1, k2, k3, k4, ⟨k5, k6, k7, k8, k9⟩, k10⟩ := h
  refine ⟨fun a x y w => (h1 a (by omega)).trans (k1 a x y w), fun j hj => by rw [h1 6 (by omega)]; exact k2 j hj, fun j hj => by rw [h1 7 (by omega)]; exact k3 j hj, fun a ha => (h2 a (by omega) (by omega)).trans (k4 a ha), ⟨k5.eq (fun a x y => h2 a (by omega) (by omega)), k6.eq (fun a x y => h2 a (by omega) (by omega)), by rw [h2 73 (by decide) (by omega)]; exact k7, by rw [h2 75 (by decide) (by omega)]; exact k8, fun c hc => ⟨by rw [h2 76 (by decide) (by omega)]; exact (k9 c hc).1, (k9 c hc).2.eq (fun a x y => h2 a (by omega) (by omega))⟩⟩, ?_⟩
  rw [h2 4 (by decide) (by omega)]
  exact k10
set_option maxRecDepth 100000 in
set_option maxHeartbeats 4000000 in
theorem c_X4_init {z : Nat} (D : xD) (r : xR) (hf : xFr 5 D r) : MX 4 mX4_init [.ref 4] (5, z) D r (351, z + 4530) (fun v D' r' => v = none ∧ X4s D D' r' r ∧ ∀ c, c < 2 → r' 281 c = some (283 + 34 * c) ∧ WR (283 + 34 * c) r') := by
  refine MX.of (by decide +kernel) [some (.ref 4), none] rfl (Nat.le_of_ble_eq_true rfl) ?_
  intro γ hX hRX
  have L : ∀ zz : Nat, zz + 886 ≤ z + 4530 → ∀ k, k ≤ 2 → ∀ (E : xD) (ρ : xR), X4s D E ρ r → (∀ c, c < k → ρ 281 c = some (283 + 34 * c) ∧ WR (283 + 34 * c) ρ) → xFr (283 + 34 * k) E ρ → xV γ 65 [some (.ref 4), some (vi (k : Nat))] [] (283 + 34 * k, zz + 443 * k) E ρ := by
    intro zz hzz
    refine xup 2 (fun k hk ih E ρ hc gW hfr => ?_)
    refine v_iload_n (q := 66) hX dX4_init_65 rfl rfl rfl ?_
    refine v_iconst (q := 67) hX dX4_init_66 rfl ?_
    refine v_icmp_ge (q := 70) (tgt := 89) hX ⟨by omega, by omega⟩ (by decide) dX4_init_67 (by decide) rfl (fun hx_67 => ?_) (fun hx_67 => ?_)
    · refine v_vreturn hX hRX rfl dX4_init_89 (by show 283 + 34 * k = 351; omega) ?_
      exact ⟨rfl, hc, fun c hc2 => gW c (by omega)⟩
    · have hk2 : k < 2 := by omega
      have hKW := WK_sl hk2
      refine v_aload_n (q := 71) hX dX4_init_70 rfl rfl rfl ?_
      refine v_getR (q := 74) hX fl_X4_33 rfl (a := 4) (z := 0) rfl (by decide) (by dsimp only; omega) (b := 281) hc.2.2.2.2.2.2.2.2.2.1 dX4_init_71 rfl ?_
      refine v_iload_n (q := 75) hX dX4_init_74 rfl rfl rfl ?_
      refine v_new (q := 78) (z' := zz + 443 * k + 10) hX hRX.gb (ci := 3) (by decide) hKW.1.1 ck_X4_7 in_X3 ii_X3 ixX3 tyX3_ok (by omega) (hfr (283 + 34 * k) (Nat.le_refl _)).1 (hfr (283 + 34 * k) (Nat.le_refl _)).2 rfl rfl ⟨by dsimp only; omega, by dsimp only; omega⟩ dX4_init_75 rfl ?_
      refine v_dup (q := 79) hX rfl dX4_init_78 rfl ?_
      refine v_callI (q := 82) (σ' := (283 + 34 * k + 34, zz + 443 * k + 10 + 433)) hX hRX.gb (c_X3_init E ρ hKW (hfr.mo (by omega))) rfl kI_X3_init rfl (by decide) lk_X4_9 ⟨by dsimp only; omega, by dsimp only; omega⟩ ⟨by dsimp only; omega, by dsimp only; omega⟩ (Nat.le_of_ble_eq_true rfl) dX4_init_79 rfl (fun v E2 ρ2 h => ?_)
      obtain ⟨rfl, j1, j2, j3, j4, j5⟩ := h
      simp only [Option.toList, List.nil_append]
      refine v_aastore (q := 83) hX (Or.inl rfl) (a := 281) (len := 2) (kk := k) rfl hk2 (by decide) rfl (by decide) (by dsimp only; omega) hKW.1.1 hKW.1.2.1 (by dsimp only; omega) dX4_init_82 rfl ?_
      refine v_iinc (q := 86) hX dX4_init_83 rfl (Nat.le_of_ble_eq_true rfl) (Nat.le_of_ble_eq_true rfl) rfl ?_
      dsimp only [xs1, xs2, xclr]
      refine v_goto (tgt := 65) hX dX4_init_86 (by decide) ?_
      have e81 : ρ2 281 = ρ 281 := j5 281 (by omega)
      have g := ih (by omega) E2 (xur ρ2 281 k (some (283 + 34 * k))) (hc.mv (fun a h1_ => j1 a (by omega) (by omega)) (fun a h1_ h2_ => (xur_row _ _ _ _ h1_).trans (j5 a (by omega)))) (fun c hc2 => ?_) ?_
      · rw [show 283 + 34 * (k + 1) = 283 + 34 * k + 34 by omega, show zz + 443 * (k + 1) = zz + 443 * k + 10 + 433 by omega] at g
        exact g
      · by_cases hck : c = k
        · subst hck; exact ⟨xur_at _ _ _ _, j4.eq (fun a h1_ h2_ => xur_row _ _ _ _ (by omega))⟩
        · refine ⟨?_, ((gW c (by omega)).2.eq (fun a h1_ h2_ => j5 a (by omega))).eq (fun a h1_ h2_ => xur_row _ _ _ _ (by omega))⟩
          rw [xur_ne _ _ _ _ (Or.inr hck), e81]; exact (gW c (by omega)).1
      · exact (xFr.x3 hfr j1 j5).ur (by omega)
  refine v_aload_n (q := 1) hX dX4_init_0 rfl rfl rfl ?_
  refine v_objInit (q := 4) hX lk_X4_1 oi_in oi_cd (Nat.le_of_ble_eq_true rfl) (Nat.le_of_ble_eq_true rfl) dX4_init_1 rfl ?_
  have hfr := hf
  have hE : ∀ a, a ≠ 6 ∧ a ≠ 7 → a ≠ 40 ∧ a ≠ 41 → (a < 77 ∨ 351 ≤ a ∨ a = 281 ∨ a = 282) → D a = D a := fun _ _ _ _ => rfl
  have hR : ∀ a, 351 ≤ a → r a = r a := fun _ _ => rfl
  refine v_aload_n (q := 5) hX dX4_init_4 rfl rfl rfl ?_
  refine v_new (q := 8) (z' := z + 10) hX hRX.gb (ci := 3) (by decide) rfl ck_X4_7 in_X3 ii_X3 ixX3 tyX3_ok (by decide) (hfr 5 (by decide)).1 (hfr 5 (by decide)).2 rfl rfl ⟨by dsimp only; omega, by dsimp only; omega⟩ dX4_init_5 rfl ?_
  refine v_dup (q := 9) hX rfl dX4_init_8 rfl ?_
  refine v_callI (q := 12) (σ' := (39, z + 10 + 433)) hX hRX.gb (c_X3_init D r (o := 5) WK_5 (hfr.mo (by decide))) rfl kI_X3_init rfl (by decide) lk_X4_9 ⟨by dsimp only; omega, by dsimp only; omega⟩ ⟨by dsimp only; omega, by dsimp only; omega⟩ (Nat.le_of_ble_eq_true rfl) dX4_init_9 rfl (fun v D1 r1 h => ?_)
  obtain ⟨rfl, a1, b1, c1, w1, f1⟩ := h
  simp only [Option.toList, List.nil_append]
  have hfr := xFr.x3 hfr a1 f1
  have hE := fun (a : Nat) (h1_ : a ≠ 6 ∧ a ≠ 7) (h2_ : a ≠ 40 ∧ a ≠ 41) (h3_ : a < 77 ∨ 351 ≤ a ∨ a = 281 ∨ a = 282) => (a1 a (by omega) (by omega)).trans (hE a h1_ h2_ h3_)
  have hR := fun (a : Nat) (ha : 351 ≤ a) => (f1 a (by omega)).trans (hR a ha)
  have s6 : ∀ j, j < 9 → D1 6 j = xst 3 j := b1
  have s7 : ∀ j, j < 4 → D1 7 j = 5 := c1
  refine v_putF (q := 15) hX fl_X4_10 rfl (fun _ => rfl) (fun _ => rfl) rfl rfl rfl (by decide) (by dsimp only; omega) dX4_init_12 rfl ?_
  have w1 := w1.eq (fun a h1_ h2_ => xur_row r1 4 0 (some 5) (by omega))
  have g0 : xur r1 4 0 (some 5) 4 0 = some 5 := xur_at _ _ _ _
  have hfr := hfr.ur (a := 4) (j := 0) (b := some 5) (by decide)
  have hR := fun (a : Nat) (ha : 351 ≤ a) => (xur_row r1 4 0 (some 5) (a' := a) (by omega)).trans (hR a ha)
  generalize xur r1 4 0 (some 5) = r1p at *
  refine v_aload_n (q := 16) hX dX4_init_15 rfl rfl rfl ?_
  refine v_new (q := 19) (z' := z + 10 + 433 + 10) hX hRX.gb (ci := 3) (by decide) rfl ck_X4_7 in_X3 ii_X3 ixX3 tyX3_ok (by decide) (hfr 39 (by decide)).1 (hfr 39 (by decide)).2 rfl rfl ⟨by dsimp only; omega, by dsimp only; omega⟩ dX4_init_16 rfl ?_
  refine v_dup (q := 20) hX rfl dX4_init_19 rfl ?_
  refine v_callI (q := 23) (σ' := (73, z + 10 + 433 + 10 + 433)) hX hRX.gb (c_X3_init D1 r1p (o := 39) WK_39 (hfr.mo (by decide))) rfl kI_X3_init rfl (by decide) lk_X4_9 ⟨by dsimp only; omega, by dsimp only; omega⟩ ⟨by dsimp only; omega, by dsimp only; omega⟩ (Nat.le_of_ble_eq_true rfl) dX4_init_20 rfl (fun v D2 r2 h => ?_)
  obtain ⟨rfl, a2, b2, c2, w2, f2⟩ := h
  simp only [Option.toList, List.nil_append]
  have w1 := w1.eq (fun a h1_ h2_ => f2 a (by omega))
  have g0 := (congrFun (f2 4 (by omega)) 0).trans g0
  have hfr := xFr.x3 hfr a2 f2
  have hE := fun (a : Nat) (h1_ : a ≠ 6 ∧ a ≠ 7) (h2_ : a ≠ 40 ∧ a ≠ 41) (h3_ : a < 77 ∨ 351 ≤ a ∨ a = 281 ∨ a = 282) => (a2 a (by omega) (by omega)).trans (hE a h1_ h2_ h3_)
  have hR := fun (a : Nat) (ha : 351 ≤ a) => (f2 a (by omega)).trans (hR a ha)
  have s6 := fun (j : Nat) (hj : j < 9) => (congrFun (a2 6 (by decide) (by decide)) j).trans (s6 j hj)
  have s7 := fun (j : Nat) (hj : j < 4) => (congrFun (a2 7 (by decide) (by decide)) j).trans (s7 j hj)
  refine v_putF (q := 26) hX fl_X4_16 rfl (fun _ => rfl) (fun _ => rfl) rfl rfl rfl (by decide) (by dsimp only; omega) dX4_init_23 rfl ?_
  have w1 := w1.eq (fun a h1_ h2_ => xur_row r2 4 1 (some 39) (by omega))
  have g0 := (xur_ne r2 4 1 (some 39) (a' := 4) (j' := 0) (Or.inr (by decide))).trans g0
  have w2 := w2.eq (fun a h1_ h2_ => xur_row r2 4 1 (some 39) (by omega))
  have g1 : xur r2 4 1 (some 39) 4 1 = some 39 := xur_at _ _ _ _
  have hfr := hfr.ur (a := 4) (j := 1) (b := some 39) (by decide)
  have hR := fun (a : Nat) (ha : 351 ≤ a) => (xur_row r2 4 1 (some 39) (a' := a) (by omega)).trans (hR a ha)
  generalize xur r2 4 1 (some 39) = r2p at *
  refine v_aload_n (q := 27) hX dX4_init_26 rfl rfl rfl ?_
  refine v_new (q := 30) (z' := z + 10 + 433 + 10 + 433 + 7) hX hRX.gb (ci := 1) (by decide) rfl ck_X4_19 in_X1 ii_X1 ixX1 tyX1_ok (by decide) (hfr 73 (by decide)).1 (hfr 73 (by decide)).2 rfl rfl ⟨by dsimp only; omega, by dsimp only; omega⟩ dX4_init_27 rfl ?_
  refine v_dup (q := 31) hX rfl dX4_init_30 rfl ?_
  refine v_callIN (q := 34) (σ' := (75, z + 10 + 433 + 10 + 433 + 7 + 80)) hX hRX.gb (c_X1_init D2 r2p (hfr.mo (by decide))) rfl kI_X1_init rfl (by decide) (fun _ _ _ h => h.2.2.2.1) ⟨by dsimp only; omega, by dsimp only; omega⟩ ⟨by dsimp only; omega, by dsimp only; omega⟩ (Nat.le_of_ble_eq_true rfl) dX4_init_31 rfl (fun v D3 r3 h => ?_)
  obtain ⟨rfl, d3, f3_⟩ := h
  simp only [Option.toList, List.nil_append]
  have f3 : ∀ a, a ≠ 73 → r3 a = r2p a := fun a ha => by rw [f3_]; exact xur_row _ _ _ _ ha
  have sg : r3 73 0 = some 74 := by rw [f3_]; exact xur_at _ _ _ _
  have w1 := w1.eq (fun a h1_ h2_ => f3 a (by omega))
  have g0 := (congrFun (f3 4 (by omega)) 0).trans g0
  have w2 := w2.eq (fun a h1_ h2_ => f3 a (by omega))
  have g1 := (congrFun (f3 4 (by omega)) 1).trans g1
  have hfr : xFr 75 D3 r3 := by rw [d3]; exact fun a ha => ⟨(hfr a (by omega)).1, fun j => by rw [f3 a (by omega)]; exact (hfr a (by omega)).2 j⟩
  have hE : ∀ a, a ≠ 6 ∧ a ≠ 7 → a ≠ 40 ∧ a ≠ 41 → (a < 77 ∨ 351 ≤ a ∨ a = 281 ∨ a = 282) → D3 a = D a := by rw [d3]; exact hE
  have s6 : ∀ j, j < 9 → D3 6 j = xst 3 j := by rw [d3]; exact s6
  have s7 : ∀ j, j < 4 → D3 7 j = 5 := by rw [d3]; exact s7
  have hR := fun (a : Nat) (ha : 351 ≤ a) => (f3 a (by omega)).trans (hR a ha)
  clear d3 f3_
  refine v_putF (q := 37) hX fl_X4_22 rfl (fun _ => rfl) (fun _ => rfl) rfl rfl rfl (by decide) (by dsimp only; omega) dX4_init_34 rfl ?_
  have w1 := w1.eq (fun a h1_ h2_ => xur_row r3 4 2 (some 73) (by omega))
  have g0 := (xur_ne r3 4 2 (some 73) (a' := 4) (j' := 0) (Or.inr (by decide))).trans g0
  have w2 := w2.eq (fun a h1_ h2_ => xur_row r3 4 2 (some 73) (by omega))
  have g1 := (xur_ne r3 4 2 (some 73) (a' := 4) (j' := 1) (Or.inr (by decide))).trans g1
  have sg := (congrFun (xur_row r3 4 2 (some 73) (a' := 73) (by decide)) 0).trans sg
  have g2 : xur r3 4 2 (some 73) 4 2 = some 73 := xur_at _ _ _ _
  have hfr := hfr.ur (a := 4) (j := 2) (b := some 73) (by decide)
  have hR := fun (a : Nat) (ha : 351 ≤ a) => (xur_row r3 4 2 (some 73) (a' := a) (by omega)).trans (hR a ha)
  generalize xur r3 4 2 (some 73) = r3p at *
  refine v_aload_n (q := 38) hX dX4_init_37 rfl rfl rfl ?_
  refine v_new (q := 41) (z' := z + 10 + 433 + 10 + 433 + 7 + 80 + 3) hX hRX.gb (ci := 0) (by decide) rfl ck_X4_26 in_X0 ii_X0 ixX0 tyX0_ok (by decide) (hfr 75 (by decide)).1 (hfr 75 (by decide)).2 rfl rfl ⟨by dsimp only; omega, by dsimp only; omega⟩ dX4_init_38 rfl ?_
  refine v_dup (q := 42) hX rfl dX4_init_41 rfl ?_
  refine v_callI (q := 45) (σ' := (281, z + 10 + 433 + 10 + 433 + 7 + 80 + 3 + 2664)) hX hRX.gb (c_X0_init D3 r3p (hfr.mo (by decide))) rfl kI_X0_init rfl (by decide) lk_X4_28 ⟨by dsimp only; omega, by dsimp only; omega⟩ ⟨by dsimp only; omega, by dsimp only; omega⟩ (Nat.le_of_ble_eq_true rfl) dX4_init_42 rfl (fun v D4 r4 h => ?_)
  obtain ⟨rfl, a4, st, hw, f4⟩ := h
  simp only [Option.toList, List.nil_append]
  have w1 := w1.eq (fun a h1_ h2_ => f4 a (by omega))
  have g0 := (congrFun (f4 4 (by omega)) 0).trans g0
  have w2 := w2.eq (fun a h1_ h2_ => f4 a (by omega))
  have g1 := (congrFun (f4 4 (by omega)) 1).trans g1
  have sg := (congrFun (f4 73 (by omega)) 0).trans sg
  have g2 := (congrFun (f4 4 (by omega)) 2).trans g2
  have hfr : xFr 281 D4 r4 := fun a ha => ⟨fun j => by rw [a4 a (by omega)]; exact (hfr a (by omega)).1 j, fun j => by rw [f4 a (by omega)]; exact (hfr a (by omega)).2 j⟩
  have hE : ∀ a, a ≠ 6 ∧ a ≠ 7 → a ≠ 40 ∧ a ≠ 41 → (a < 77 ∨ 351 ≤ a ∨ a = 281 ∨ a = 282) → D4 a = D a := fun a h1_ h2_ h3_ => (a4 a (by omega)).trans (hE a h1_ h2_ h3_)
  have s6 := fun (j : Nat) (hj : j < 9) => (congrFun (a4 6 (by omega)) j).trans (s6 j hj)
  have s7 := fun (j : Nat) (hj : j < 4) => (congrFun (a4 7 (by omega)) j).trans (s7 j hj)
  have hR := fun (a : Nat) (ha : 351 ≤ a) => (f4 a (by omega)).trans (hR a ha)
  refine v_putF (q := 48) hX fl_X4_29 rfl (fun _ => rfl) (fun _ => rfl) rfl rfl rfl (by decide) (by dsimp only; omega) dX4_init_45 rfl ?_
  have w1 := w1.eq (fun a h1_ h2_ => xur_row r4 4 3 (some 75) (by omega))
  have g0 := (xur_ne r4 4 3 (some 75) (a' := 4) (j' := 0) (Or.inr (by decide))).trans g0
  have w2 := w2.eq (fun a h1_ h2_ => xur_row r4 4 3 (some 75) (by omega))
  have g1 := (xur_ne r4 4 3 (some 75) (a' := 4) (j' := 1) (Or.inr (by decide))).trans g1
  have sg := (congrFun (xur_row r4 4 3 (some 75) (a' := 73) (by decide)) 0).trans sg
  have g2 := (xur_ne r4 4 3 (some 75) (a' := 4) (j' := 2) (Or.inr (by decide))).trans g2
  have st := (congrFun (xur_row r4 4 3 (some 75) (a' := 75) (by decide)) 0).trans st
  have hw := fun (c : Nat) (hc : c < 6) => And.intro ((congrFun (xur_row r4 4 3 (some 75) (a' := 76) (by decide)) c).trans (hw c hc).1) ((hw c hc).2.eq (fun a h1_ h2_ => xur_row r4 4 3 (some 75) (by omega)))
  have g3 : xur r4 4 3 (some 75) 4 3 = some 75 := xur_at _ _ _ _
  have hfr := hfr.ur (a := 4) (j := 3) (b := some 75) (by decide)
  have hR := fun (a : Nat) (ha : 351 ≤ a) => (xur_row r4 4 3 (some 75) (a' := a) (by omega)).trans (hR a ha)
  generalize xur r4 4 3 (some 75) = r4p at *
  refine v_aload_n (q := 49) hX dX4_init_48 rfl rfl rfl ?_
  refine v_iconst (q := 50) hX dX4_init_49 rfl ?_
  refine v_anew (q := 53) hX hRX.gb (Or.inl rfl) rfl rfl (by decide) ck_X4_7 (by decide) (hfr 281 (by decide)).2 rfl rfl ⟨by dsimp only; omega, by dsimp only; omega⟩ dX4_init_50 rfl ?_
  have hfr := hfr.mo (show 281 ≤ 282 by decide)
  refine v_putF (q := 56) hX fl_X4_33 rfl (fun _ => rfl) (fun _ => rfl) rfl rfl rfl (by decide) (by dsimp only; omega) dX4_init_53 rfl ?_
  have w1 := w1.eq (fun a h1_ h2_ => xur_row r4p 4 4 (some 281) (by omega))
  have g0 := (xur_ne r4p 4 4 (some 281) (a' := 4) (j' := 0) (Or.inr (by decide))).trans g0
  have w2 := w2.eq (fun a h1_ h2_ => xur_row r4p 4 4 (some 281) (by omega))
  have g1 := (xur_ne r4p 4 4 (some 281) (a' := 4) (j' := 1) (Or.inr (by decide))).trans g1
  have sg := (congrFun (xur_row r4p 4 4 (some 281) (a' := 73) (by decide)) 0).trans sg
  have g2 := (xur_ne r4p 4 4 (some 281) (a' := 4) (j' := 2) (Or.inr (by decide))).trans g2
  have st := (congrFun (xur_row r4p 4 4 (some 281) (a' := 75) (by decide)) 0).trans st
  have hw := fun (c : Nat) (hc : c < 6) => And.intro ((congrFun (xur_row r4p 4 4 (some 281) (a' := 76) (by decide)) c).trans (hw c hc).1) ((hw c hc).2.eq (fun a h1_ h2_ => xur_row r4p 4 4 (some 281) (by omega)))
  have g3 := (xur_ne r4p 4 4 (some 281) (a' := 4) (j' := 3) (Or.inr (by decide))).trans g3
  have g4 : xur r4p 4 4 (some 281) 4 4 = some 281 := xur_at _ _ _ _
  have hfr := hfr.ur (a := 4) (j := 4) (b := some 281) (by decide)
  have hR := fun (a : Nat) (ha : 351 ≤ a) => (xur_row r4p 4 4 (some 281) (a' := a) (by omega)).trans (hR a ha)
  generalize xur r4p 4 4 (some 281) = r4pp at *
  refine v_aload_n (q := 57) hX dX4_init_56 rfl rfl rfl ?_
  refine v_iconst (q := 58) hX dX4_init_57 rfl ?_
  refine v_newarr (q := 60) hX hRX.gb (Or.inr (Or.inr (Or.inr rfl))) rfl rfl rfl (by decide) ac_boolean (by decide) (hfr 282 (by decide)).1 rfl rfl ⟨by dsimp only; omega, by dsimp only; omega⟩ dX4_init_58 rfl ?_
  have hfr := hfr.mo (show 282 ≤ 283 by decide)
  refine v_putF (q := 63) hX fl_X4_37 rfl (fun _ => rfl) (fun _ => rfl) rfl rfl rfl (by decide) (by dsimp only; omega) dX4_init_60 rfl ?_
  have w1 := w1.eq (fun a h1_ h2_ => xur_row r4pp 4 5 (some 282) (by omega))
  have g0 := (xur_ne r4pp 4 5 (some 282) (a' := 4) (j' := 0) (Or.inr (by decide))).trans g0
  have w2 := w2.eq (fun a h1_ h2_ => xur_row r4pp 4 5 (some 282) (by omega))
  have g1 := (xur_ne r4pp 4 5 (some 282) (a' := 4) (j' := 1) (Or.inr (by decide))).trans g1
  have sg := (congrFun (xur_row r4pp 4 5 (some 282) (a' := 73) (by decide)) 0).trans sg
  have g2 := (xur_ne r4pp 4 5 (some 282) (a' := 4) (j' := 2) (Or.inr (by decide))).trans g2
  have st := (congrFun (xur_row r4pp 4 5 (some 282) (a' := 75) (by decide)) 0).trans st
  have hw := fun (c : Nat) (hc : c < 6) => And.intro ((congrFun (xur_row r4pp 4 5 (some 282) (a' := 76) (by decide)) c).trans (hw c hc).1) ((hw c hc).2.eq (fun a h1_ h2_ => xur_row r4pp 4 5 (some 282) (by omega)))
  have g3 := (xur_ne r4pp 4 5 (some 282) (a' := 4) (j' := 3) (Or.inr (by decide))).trans g3
  have g4 := (xur_ne r4pp 4 5 (some 282) (a' := 4) (j' := 4) (Or.inr (by decide))).trans g4
  have g5 : xur r4pp 4 5 (some 282) 4 5 = some 282 := xur_at _ _ _ _
  have hfr := hfr.ur (a := 4) (j := 5) (b := some 282) (by decide)
  have hR := fun (a : Nat) (ha : 351 ≤ a) => (xur_row r4pp 4 5 (some 282) (a' := a) (by omega)).trans (hR a ha)
  generalize xur r4pp 4 5 (some 282) = r4ppp at *
  refine v_iconst (q := 64) hX dX4_init_63 rfl ?_
  refine v_istore_n (q := 65) hX dX4_init_64 rfl (Nat.le_of_ble_eq_true rfl) (Nat.le_of_ble_eq_true rfl) rfl ?_
  dsimp only [xs1, xs2, xclr]
  have hc : X4s D D4 r4ppp r := ⟨hE, s6, s7, hR, ⟨w1, w2, sg, st, hw⟩, g0, g1, g2, g3, g4, g5⟩
  exact L (z + 10 + 433 + 10 + 433 + 7 + 80 + 3 + 2664 + 2 + 2) (by omega) 0 (by decide) D4 r4ppp hc (fun c hc => absurd hc (by omega)) hfr

