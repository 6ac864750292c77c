/-- nothing stands yet at the cells from n on -/
def xFr (n : Nat) (D : xD) (r : xR) : Prop := ∀ a, n ≤ a → (∀ j, D a j = 0) ∧ ∀ j, r a j = none
theorem xFr.mo {n m : Nat} {D : xD} {r : xR} (h : xFr n D r) (hm : n ≤ m) : xFr m D r := fun a ha => h a (by omega)
theorem xFr.ur {n a j : Nat} {b : Option Nat} {D : xD} {r : xR} (h : xFr n D r) (ha : a < n) : xFr n D (xur r a j b) := fun c hc => ⟨(h c hc).1, fun i => by rw [xur_row _ _ _ _ (by omega)]; exact (h c hc).2 i⟩
theorem xFr.uD {n : Nat} {D D' : xD} {r : xR} (h : xFr n D r) (hD : ∀ a, n ≤ a → D' a = D a) : xFr n D' r := fun c hc => ⟨fun i => by rw [hD c hc]; exact (h c hc).1 i, (h c hc).2⟩
set_option maxRecDepth 100000 in
set_option maxHeartbeats 4000000 in
theorem c_J7_fillN {n z : Nat} (D : xD) (r : xR) {a len : Nat} (hA : xAr n a 10 len) (e : Int) : MX 0 mJ7_fill_53178 [.ref a, vi e] (n, z) D r (n, z) (xEn (fun D' => D' = xw D a (fz (D a) e len)) r) := by
  refine MX.of (by decide +kernel) [some (.ref a), some (vi e), none, none] rfl (Nat.le_of_ble_eq_true rfl) ?_
  intro γ hX hRX
  have L : ∀ k, k ≤ len → xV γ 5 [some (.ref a), some (vi e), some (vi (k : Nat)), some (vi (len : Nat))] [] (n, z) (xw D a (fz (D a) e k)) r := by
    refine xup len (fun k hk ih => ?_)
    refine v_iload_n (q := 6) hX dJ7_fill_53178_5 rfl rfl rfl ?_
    refine v_iload_n (q := 7) hX dJ7_fill_53178_6 rfl rfl rfl ?_
    refine v_icmp_ge (q := 10) (tgt := 20) hX ⟨by omega, by have := hA.2.2.2; omega⟩ ⟨by omega, by have := hA.2.2.2; omega⟩ dJ7_fill_53178_7 (by decide) rfl (fun h7 => ?_) (fun h7 => ?_)
    · refine v_vreturn hX hRX rfl dJ7_fill_53178_20 rfl ?_
      rw [show k = len by omega]
      exact ⟨rfl, rfl, rfl⟩
    · refine v_aload_n (q := 11) hX dJ7_fill_53178_10 rfl rfl rfl ?_
      refine v_iload_n (q := 12) hX dJ7_fill_53178_11 rfl rfl rfl ?_
      refine v_iload_n (q := 13) hX dJ7_fill_53178_12 rfl rfl rfl ?_
      refine w_ist (q := 14) (kk := k) hX (by omega) (by omega) hA dJ7_fill_53178_13 rfl ?_
      rw [xu_xw', fz_s]
      refine v_iinc (q := 17) hX dJ7_fill_53178_14 rfl (Nat.le_of_ble_eq_true rfl) (Nat.le_of_ble_eq_true rfl) rfl ?_
      dsimp only [xs1, xs2, xclr]
      refine v_goto (tgt := 5) hX dJ7_fill_53178_17 (by decide) ?_
      exact ih (by omega)
  refine v_iconst (q := 1) hX dJ7_fill_53178_0 rfl ?_
  refine v_istore_n (q := 2) hX dJ7_fill_53178_1 rfl (Nat.le_of_ble_eq_true rfl) (Nat.le_of_ble_eq_true rfl) rfl ?_
  dsimp only [xs1, xs2, xclr]
  refine v_aload_n (q := 3) hX dJ7_fill_53178_2 rfl rfl rfl ?_
  refine v_alen (q := 4) hX (hA).1 (hA).2.1 (hA).2.2.1 dJ7_fill_53178_3 rfl ?_
  refine v_istore_n (q := 5) hX dJ7_fill_53178_4 rfl (Nat.le_of_ble_eq_true rfl) (Nat.le_of_ble_eq_true rfl) rfl ?_
  dsimp only [xs1, xs2, xclr]
  have e1 := L 0 (Nat.zero_le _)
  rw [fz_0, xw_self] at e1
  exact e1

set_option maxRecDepth 100000 in
set_option maxHeartbeats 4000000 in
theorem c_X1_init {z : Nat} (D : xD) (r : xR) (hf : xFr 74 D r) : MX 1 mX1_init [.ref 73] (74, z) D r (75, z + 80) (fun v D' r' => v = none ∧ D' = D ∧ r' = xur r 73 0 (some 74)) := by
  refine MX.of (by decide +kernel) [some (.ref 73)] rfl (Nat.le_of_ble_eq_true rfl) ?_
  intro γ hX hRX
  refine v_aload_n (q := 1) hX dX1_init_0 rfl rfl rfl ?_
  refine v_objInit (q := 4) hX lk_X1_3 oi_in oi_cd (Nat.le_of_ble_eq_true rfl) (Nat.le_of_ble_eq_true rfl) dX1_init_1 rfl ?_
  refine v_aload_n (q := 5) hX dX1_init_4 rfl rfl rfl ?_
  refine v_bipush (q := 7) hX (by decide) dX1_init_5 rfl ?_
  refine v_newarr (q := 9) hX hRX.gb (Or.inr (Or.inr (Or.inl rfl))) rfl rfl rfl (by decide) ac_char (by decide) (hf 74 (by decide)).1 rfl rfl ⟨by dsimp only; omega, by dsimp only; omega⟩ dX1_init_7 rfl ?_
  refine v_putF (q := 12) hX fl_X1_9 rfl (fun _ => rfl) (fun _ => rfl) rfl rfl rfl (by decide) (by dsimp only; omega) dX1_init_9 rfl ?_
  refine v_vreturn hX hRX rfl dX1_init_12 rfl ?_
  exact ⟨rfl, rfl, rfl⟩

set_option maxRecDepth 100000 in
set_option maxHeartbeats 4000000 in
theorem c_X2_init {z : Nat} (D : xD) (r : xR) {a : Nat} (hK : PK a) (hf : xFr (a + 1) D r) : MX 1 mX2_init [.ref a] (a + 1, z) D r (a + 1 + 1 + 1, z + 12 + 12) (fun v D' r' => v = none ∧ D' = D ∧ r' = xur (xur r a 12 (some (a + 1))) a 13 (some (a + 2))) := by
  refine MX.of (by decide +kernel) [some (.ref a)] rfl (Nat.le_of_ble_eq_true rfl) ?_
  intro γ hX hRX
  have h3 : a + 1 < 351 ∧ a + 2 < 351 := ⟨hK.2.1.2.2.1, hK.2.2.2.2.1⟩
  refine v_aload_n (q := 1) hX dX2_init_0 rfl rfl rfl ?_
  refine v_objInit (q := 4) hX lk_X2_3 oi_in oi_cd (Nat.le_of_ble_eq_true rfl) (Nat.le_of_ble_eq_true rfl) dX2_init_1 rfl ?_
  refine v_aload_n (q := 5) hX dX2_init_4 rfl rfl rfl ?_
  refine v_bipush (q := 7) hX (by decide) dX2_init_5 rfl ?_
  refine v_newarr (q := 9) hX hRX.gb (Or.inl rfl) rfl hK.2.1.1 rfl (by decide) ac_int h3.1 (hf (a + 1) (Nat.le_refl _)).1 rfl rfl ⟨by dsimp only; omega, by dsimp only; omega⟩ dX2_init_7 rfl ?_
  refine v_putF (q := 12) hX fl_X2_9 rfl (fun _ => rfl) (fun _ => rfl) rfl rfl hK.1.1 hK.1.2.1 (by dsimp only; omega) dX2_init_9 rfl ?_
  refine v_aload_n (q := 13) hX dX2_init_12 rfl rfl rfl ?_
  refine v_bipush (q := 15) hX (by decide) dX2_init_13 rfl ?_
  refine v_newarr (q := 17) hX hRX.gb (Or.inl rfl) rfl hK.2.2.1 rfl (by decide) ac_int h3.2 (hf (a + 2) (Nat.le_succ _)).1 rfl rfl ⟨by dsimp only; omega, by dsimp only; omega⟩ dX2_init_15 rfl ?_
  refine v_putF (q := 20) hX fl_X2_15 rfl (fun _ => rfl) (fun _ => rfl) rfl rfl hK.1.1 hK.1.2.1 (by dsimp only; omega) dX2_init_17 rfl ?_
  refine v_vreturn hX hRX rfl dX2_init_20 rfl ?_
  exact ⟨rfl, rfl, rfl⟩

set_option maxRecDepth 100000 in
set_option maxHeartbeats 4000000 in
theorem c_X3_init {z : Nat} (D : xD) (r : xR) {o : Nat} (hK : WK o) (hf : xFr (o + 1) D r) : MX 2 mX3_init [.ref o] (o + 1, z) D r (o + 34, z + 433) (fun v D' r' => v = none ∧ (∀ a, a ≠ o + 1 → a ≠ o + 2 → D' a = D a) ∧ (∀ j, j < 9 → D' (o + 1) j = xst 3 j) ∧ (∀ j, j < 4 → D' (o + 2) j = 5) ∧ WR o r' ∧ ∀ a, (a < o ∨ o + 34 ≤ a) → r' a = r a) := by
  refine MX.of (by decide +kernel) [some (.ref o), none] rfl (Nat.le_of_ble_eq_true rfl) ?_
  intro γ hX hRX
  have h3 : o + 1 < 351 ∧ o + 2 < 351 ∧ o + 3 < 351 := ⟨hK.2.1.2.2.1, hK.2.2.1.2.2.1, hK.2.2.2.1.2.2.1⟩
  have L : ∀ D1 : xD, (∀ a, a ≠ o + 1 → a ≠ o + 2 → D1 a = D a) → (∀ j, j < 9 → D1 (o + 1) j = xst 3 j) → (∀ j, j < 4 → D1 (o + 2) j = 5) → ∀ p, p ≤ 10 → ∀ ρ : xR, (∀ a, (a < o ∨ o + 34 ≤ a) → ρ a = r a) → ρ o 0 = some (o + 1) → ρ o 1 = some (o + 2) → ρ o 2 = some (o + 3) → (∀ q, q < p → ρ (o + 3) q = some (o + 4 + 3 * q) ∧ PR (o + 4 + 3 * q) ρ) → xFr (o + 4 + 3 * p) D1 ρ →
      xV γ 43 [some (.ref o), some (vi (p : Nat))] [] (o + 4 + 3 * p, z + 9 + 4 + 10 + 41 * p) D1 ρ := by
    intro D1 fD e1 e2
    refine xup 10 (fun p hp10 ih ρ gR r0 r1 r2 gP hfr => ?_)
    refine v_iload_n (q := 44) hX dX3_init_43 rfl rfl rfl ?_
    refine v_bipush (q := 46) hX (by decide) dX3_init_44 rfl ?_
    refine v_icmp_ge (q := 49) (tgt := 68) hX ⟨by omega, by omega⟩ (by decide) dX3_init_46 (by decide) rfl (fun hx_46 => ?_) (fun hx_46 => ?_)
    · refine v_vreturn hX hRX rfl dX3_init_68 (by show o + 4 + 3 * p = o + 34; omega) ?_
      refine ⟨rfl, fD, e1, e2, ⟨r0, r1, r2, fun q hq => gP q (by omega)⟩, gR⟩
    · have hp : p < 10 := by omega
      have hPK := hK.pk hp
      have hb1 : o + 4 + 3 * p + 2 < 351 := hPK.2.2.2.2.1
      refine v_aload_n (q := 50) hX dX3_init_49 rfl rfl rfl ?_
      refine v_getR (q := 53) hX fl_X3_28 rfl hK.1.1 hK.1.2.1 (by dsimp only; omega) (b := o + 3) r2 dX3_init_50 rfl ?_
      refine v_iload_n (q := 54) hX dX3_init_53 rfl rfl rfl ?_
      refine v_new (q := 57) hX hRX.gb (ci := 2) (by decide) hPK.1.1 ck_X3_26 in_X2 ii_X2 ixX2 tyX2_ok (by omega) (hfr (o + 4 + 3 * p) (Nat.le_refl _)).1 (hfr (o + 4 + 3 * p) (Nat.le_refl _)).2 rfl rfl ⟨by dsimp only; omega, by show z + 9 + 4 + 10 + 41 * p + 17 ≤ z + 433; omega⟩ dX3_init_54 rfl ?_
      refine v_dup (q := 58) hX rfl dX3_init_57 rfl ?_
      refine v_callIN (q := 61) (σ' := (o + 4 + 3 * p + 1 + 1 + 1, z + 9 + 4 + 10 + 41 * p + 17 + 12 + 12)) hX hRX.gb (c_X2_init D1 ρ hPK (hfr.mo (by omega))) rfl kI_X2_init rfl (by decide) (fun _ _ _ h => h.2.2.2.2.1) ⟨by dsimp only; omega, by show z + 9 + 4 + 10 + 41 * p + 17 ≤ _; omega⟩ ⟨by dsimp only; omega, by dsimp only; omega⟩ (Nat.le_of_ble_eq_true rfl) dX3_init_58 rfl (fun v D' r' h => ?_)
      obtain ⟨rfl, rfl, rfl⟩ := h
      simp only [Option.toList, List.nil_append]
      refine v_aastore (q := 62) hX (Or.inr rfl) (kk := p) rfl hp (by decide) hK.2.2.2.1.1 hK.2.2.2.1.2.1 (by dsimp only; omega) hPK.1.1 hPK.1.2.1 (by dsimp only; omega) dX3_init_61 rfl ?_
      refine v_iinc (q := 65) hX dX3_init_62 rfl (Nat.le_of_ble_eq_true rfl) (Nat.le_of_ble_eq_true rfl) rfl ?_
      dsimp only [xs1, xs2, xclr]
      refine v_goto (tgt := 43) hX dX3_init_65 (by decide) ?_
      have g := ih (by omega) (xur (xur (xur ρ (o + 4 + 3 * p) 12 (some (o + 4 + 3 * p + 1))) (o + 4 + 3 * p) 13 (some (o + 4 + 3 * p + 2))) (o + 3) p (some (o + 4 + 3 * p))) (fun a h1_ => ?_) ?_ ?_ ?_ (fun q hq => ?_) ?_
      · rw [show o + 4 + 3 * (p + 1) = o + 4 + 3 * p + 1 + 1 + 1 by omega, show z + 9 + 4 + 10 + 41 * (p + 1) = z + 9 + 4 + 10 + 41 * p + 17 + 12 + 12 by omega] at g
        exact g
      · rw [xur_row _ _ _ _ (by omega), xur_row _ _ _ _ (by omega), xur_row _ _ _ _ (by omega)]; exact gR a h1_
      · rw [xur_row _ _ _ _ (by omega), xur_row _ _ _ _ (by omega), xur_row _ _ _ _ (by omega)]; exact r0
      · rw [xur_row _ _ _ _ (by omega), xur_row _ _ _ _ (by omega), xur_row _ _ _ _ (by omega)]; exact r1
      · rw [xur_row _ _ _ _ (by omega), xur_row _ _ _ _ (by omega), xur_row _ _ _ _ (by omega)]; exact r2
      · by_cases hqp : q = p
        · subst hqp
          refine ⟨xur_at _ _ _ _, ?_, ?_⟩
          · rw [xur_row _ _ _ _ (by omega), xur_ne _ _ _ _ (Or.inr (by decide)), xur_at]
          · rw [xur_row _ _ _ _ (by omega), xur_at]
        · have g9 := gP q (by omega)
          refine ⟨?_, ?_, ?_⟩
          · rw [xur_ne _ _ _ _ (Or.inr hqp), xur_row _ _ _ _ (by omega), xur_row _ _ _ _ (by omega)]; exact g9.1
          · rw [xur_row _ _ _ _ (by omega), xur_row _ _ _ _ (by omega), xur_row _ _ _ _ (by omega)]; exact g9.2.1
          · rw [xur_row _ _ _ _ (by omega), xur_row _ _ _ _ (by omega), xur_row _ _ _ _ (by omega)]; exact g9.2.2
      · exact (((hfr.mo (by omega)).ur (by omega)).ur (by omega)).ur (by omega)
  refine v_aload_n (q := 1) hX dX3_init_0 rfl rfl rfl ?_
  refine v_objInit (q := 4) hX lk_X3_3 oi_in oi_cd (Nat.le_of_ble_eq_true rfl) (Nat.le_of_ble_eq_true rfl) dX3_init_1 rfl ?_
  refine v_aload_n (q := 5) hX dX3_init_4 rfl rfl rfl ?_
  refine v_getstN (q := 8) hX rfl dX3_init_5 rfl ?_
  refine v_clone (q := 11) (n' := o + 1 + 1) (D' := xw D (o + 1) (fun j => xst 3 j)) hX hRX.gb lk_X3_13 sm_clone nat_clone in_clone sl_clone hK.2.1.1 h3.1 rfl rfl ⟨by dsimp only; omega, by dsimp only; omega⟩ (Nat.le_of_ble_eq_true rfl) (Nat.le_of_ble_eq_true rfl) (fun q hq => xw_ne _ _ _ hq) (fun j _ => by rw [xw_at]) dX3_init_8 rfl ?_
  refine v_cast (q := 14) hX ck_X3_14 hK.2.1.1 hK.2.1.2.1 (by dsimp only; omega) dX3_init_11 rfl ?_
  refine v_putF (q := 17) hX fl_X3_18 rfl (fun _ => rfl) (fun _ => rfl) rfl rfl hK.1.1 hK.1.2.1 (by dsimp only; omega) dX3_init_14 rfl ?_
  refine v_aload_n (q := 18) hX dX3_init_17 rfl rfl rfl ?_
  refine v_iconst (q := 19) hX dX3_init_18 rfl ?_
  refine v_newarr (q := 21) hX hRX.gb (Or.inl rfl) rfl hK.2.2.1.1 rfl (by decide) ac_int h3.2.1 (fun j => by rw [xw_ne _ _ _ (by omega)]; exact (hf (o + 2) (by omega)).1 j) rfl rfl ⟨by dsimp only; omega, by dsimp only; omega⟩ dX3_init_19 rfl ?_
  refine v_putF (q := 24) hX fl_X3_23 rfl (fun _ => rfl) (fun _ => rfl) rfl rfl hK.1.1 hK.1.2.1 (by dsimp only; omega) dX3_init_21 rfl ?_
  refine v_aload_n (q := 25) hX dX3_init_24 rfl rfl rfl ?_
  refine v_bipush (q := 27) hX (by decide) dX3_init_25 rfl ?_
  refine v_anew (q := 30) hX hRX.gb (Or.inr rfl) hK.2.2.2.1.1 rfl (by decide) ck_X3_26 h3.2.2 (fun j => by rw [xur_row _ _ _ _ (by omega), xur_row _ _ _ _ (by omega)]; exact (hf (o + 3) (by omega)).2 j) rfl rfl ⟨by dsimp only; omega, by dsimp only; omega⟩ dX3_init_27 rfl ?_
  refine v_putF (q := 33) hX fl_X3_28 rfl (fun _ => rfl) (fun _ => rfl) rfl rfl hK.1.1 hK.1.2.1 (by dsimp only; omega) dX3_init_30 rfl ?_
  refine v_aload_n (q := 34) hX dX3_init_33 rfl rfl rfl ?_
  refine v_getR (q := 37) hX fl_X3_23 rfl hK.1.1 hK.1.2.1 (by dsimp only; omega) (b := o + 2) (by rw [xur_ne _ _ _ _ (Or.inr (by decide)), xur_at]) dX3_init_34 rfl ?_
  refine v_iconst (q := 38) hX dX3_init_37 rfl ?_
  refine w_callSn (q := 41) hX (c_J7_fillN (n := o + 1 + 1 + 1 + 1) (z := _) _ _ (a := o + 2) (len := 4) ⟨hK.2.2.1.1, hK.2.2.1.2.1, by omega, by decide⟩ 5) rfl kS_J7_fill_53178 rfl (by decide) lk_X3_32 (Nat.le_of_ble_eq_true rfl) dX3_init_38 rfl (fun D1 hD1 => ?_)
  refine v_iconst (q := 42) hX dX3_init_41 rfl ?_
  refine v_istore_n (q := 43) hX dX3_init_42 rfl (Nat.le_of_ble_eq_true rfl) (Nat.le_of_ble_eq_true rfl) rfl ?_
  dsimp only [xs1, xs2, xclr]
  have fD : ∀ a, a ≠ o + 1 → a ≠ o + 2 → D1 a = D a := fun a h1 h2 => by rw [hD1, xw_ne _ _ _ h2, xw_ne _ _ _ h1]
  have e1 : ∀ j, j < 9 → D1 (o + 1) j = xst 3 j := fun j _ => by rw [hD1, xw_ne _ _ _ (by omega), xw_at]
  have e2 : ∀ j, j < 4 → D1 (o + 2) j = 5 := fun j hj => by rw [hD1, xw_at]; unfold fz; rw [if_pos hj]
  refine L D1 fD e1 e2 0 (by decide) _ (fun a h1_ => ?_) ?_ ?_ ?_ (fun p hp => absurd hp (by omega)) ?_
  · rw [xur_row _ _ _ _ (by omega), xur_row _ _ _ _ (by omega), xur_row _ _ _ _ (by omega)]
  · rw [xur_ne _ _ _ _ (Or.inr (by decide)), xur_ne _ _ _ _ (Or.inr (by decide)), xur_at]
  · rw [xur_ne _ _ _ _ (Or.inr (by decide)), xur_at]
  · rw [xur_at]
  · exact ((((hf.mo (by omega)).uD (fun a ha => fD a (by omega) (by omega))).ur (by omega)).ur (by omega)).ur (by omega)


