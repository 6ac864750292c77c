/-! ===== the reference: the acts of the pad, one after another ===== -/
def tRun (T : Nat → Int) (n np f : Nat) : Nat → Nat → (Nat → Int) → Nat → Nat × (Nat → Int)
  | 0, _, N, d => (d, N)
  | m + 1, p, N, d => if (tAct T n p).1 = true ∧ actE N np (tAct T n p).2.1 = 0 then (if (tAct T n p).2.2 < n then tRun T n np f m ((tAct T n p).2.2 + 1) (actN N np f (tAct T n p).2.1) (d + 1) else (d + 1, actN N np f (tAct T n p).2.1)) else (d, N)
set_option maxRecDepth 100000 in
set_option maxHeartbeats 4000000 in
theorem c_X5_carryOut_no {z : Nat} (D : xD) (r : xR) (hr : xRM r) (n : Nat) (g5 : D 351 5 = (n : Int)) (hT : tOk (D 355) n) (hno : tFault (D 355) n ≠ -6) (hI : xI (tFault (D 355) n)) : MX 10 mX5_carryOut [.ref 351] (356, z) D r (356, z) (xEs (vi (-3)) (fun D' => ∃ F', D' = xw D 351 F' ∧ scz (D 351) F') r) := by
  refine MX.of (by decide +kernel) [some (.ref 351), none, none] rfl (Nat.le_of_ble_eq_true rfl) ?_
  intro γ hX hRX
  refine v_aload_n (q := 1) hX dX5_carryOut_0 rfl rfl rfl ?_
  refine w_callVe (q := 4) hX (c_X5_fault _ _ hr n g5 hT) rfl kV_X5_fault rfl (by decide) lk_X5_240 (by decide) rfl oX5 (Nat.le_of_ble_eq_true rfl) dX5_carryOut_1 rfl (fun D1 hD1 => ?_)
  obtain ⟨F1, rfl, f1⟩ := hD1
  refine v_bipush (q := 6) hX (by decide) dX5_carryOut_4 rfl ?_
  refine v_icmp_eq (q := 9) (tgt := 12) hX hI (by decide) dX5_carryOut_6 (by decide) rfl (fun h6 => ?_) (fun h6 => ?_)
  · exact absurd h6 hno
  · refine v_bipush (q := 11) hX (by decide) dX5_carryOut_9 rfl ?_
    refine v_ireturn hX hRX rfl (by first | rfl | exact bi_nar _) dX5_carryOut_11 rfl ?_
    exact ⟨rfl, rfl, F1, rfl, f1⟩

theorem xu_cA (E : xD) (F1 N : Nat → Int) (j : Nat) (e : Int) : xu (xw (xw E 351 F1) 352 N) 351 j e = xw (xw E 351 (fu F1 j e)) 352 N := by
  rw [xu_xw]; funext a; unfold xw; by_cases h1 : a = 351
  · subst h1; rfl
  · by_cases h2 : a = 352
    · subst h2; rfl
    · simp [h1, h2]
theorem cA_keep (E : xD) (F1 N : Nat → Int) {a : Nat} (h1 : a ≠ 351) (h2 : a ≠ 352) : xw (xw E 351 F1) 352 N a = E a := by rw [xw_ne _ _ _ h2, xw_ne _ _ _ h1]
theorem cA_fin {E R : xD} (h : ∀ a, a ≠ 351 → a ≠ 352 → E a = R a) (F1 N : Nat → Int) (e u : Int) : xu (xu (xw (xw E 351 F1) 352 N) 351 6 e) 351 5 u = xw (xw R 352 N) 351 (fu (fu F1 6 e) 5 u) := by
  rw [xu_cA, xu_cA]; funext a; unfold xw; by_cases h1 : a = 351
  · subst h1; rfl
  · by_cases h2 : a = 352
    · subst h2; rfl
    · simp [h1, h2, h a h1 h2]
theorem cA_fin0 {E R : xD} {N : Nat → Int} (h : ∀ a, a ≠ 351 → a ≠ 352 → E a = R a) (h2 : E 352 = N) (F1 : Nat → Int) (e u : Int) : xu (xu (xw E 351 F1) 351 6 e) 351 5 u = xw (xw R 352 N) 351 (fu (fu F1 6 e) 5 u) := by
  subst h2
  rw [xu_xw', xu_xw']; funext a; unfold xw; by_cases h1 : a = 351
  · subst h1; rfl
  · by_cases h2 : a = 352
    · subst h2; rfl
    · simp [h1, h2, h a h1 h2]
set_option maxRecDepth 100000 in
set_option maxHeartbeats 4000000 in
theorem c_X5_carryOut {z : Nat} (D : xD) (r : xR) (hr : xRM r) {B : Int} {np : Nat} (hV : nV B np (D 352)) (hB : B + 4100000 ≤ 2100000000) (f : Nat) (hf1 : D 352 7 = (f : Int)) (hf2 : f ≤ 8) (hs0 : 0 ≤ D 351 3 ∧ D 351 3 ≤ 6) (n : Nat) (g5 : D 351 5 = (n : Int)) (hT : tOk (D 355) n) (hno : tFault (D 355) n = -6) : MX 10 mX5_carryOut [.ref 351] (356, z) D r (356, z) (xEs (vi ((tRun (D 355) n np f n 0 (D 352) 0).1 : Nat)) (fun D' => ∃ F', D' = xw (xw (xw D 353 (rcK (D 351) (D 353) (D 352))) 352 (tRun (D 355) n np f n 0 (D 352) 0).2) 351 F' ∧ F' 5 = 0 ∧ ∀ j, j < 5 → F' j = (fu (D 351) 3 (rcS (D 351) + 1)) j) r) := by
  refine MX.of (by decide +kernel) [some (.ref 351), none, none] rfl (Nat.le_of_ble_eq_true rfl) ?_
  intro γ hX hRX
  have q2 := hT.1
  have L : ∀ m p d (N : Nat → Int) (E : xD), n - p ≤ m → p ≤ n → 2 * d ≤ p → E 351 5 = (n : Int) → E 351 6 = (p : Int) → E 352 = N → (∀ j, j < 6 → E 351 j = (fu (D 351) 3 (rcS (D 351) + 1)) j) → (∀ a, a ≠ 351 → a ≠ 352 → E a = (xw D 353 (rcK (D 351) (D 353) (D 352))) a) → nV (B + 100000 * d) np N → N 7 = D 352 7 → tRun (D 355) n np f m p N d = tRun (D 355) n np f n 0 (D 352) 0 →
      xV γ 25 [some (.ref 351), some (vi d), some (vi 1)] [] (356, z) E r := by
    intro m
    induction m with
    | zero =>
      intro p d N E hm hp hd e5 e6 e52 eF eA eV eV7 hG
      have eT : E 355 = D 355 := eA 355 (by decide) (by decide)
      have hE : tOk (E 355) n := by rw [eT]; exact hT
      have hA : ¬ (tAct (D 355) n p).1 = true := fun h => by have := tAct_le (D 355) n p hp; have := this.2.2 h; omega
      refine v_iload_n (q := 26) hX dX5_carryOut_25 rfl rfl rfl ?_
      refine v_if_eq (q := 29) (tgt := 95) hX ⟨by omega, by omega⟩ dX5_carryOut_26 (by decide) rfl (fun h26 => ?_) (fun h26 => ?_)
      · exact absurd h26 (by decide)
      · refine v_aload_n (q := 30) hX dX5_carryOut_29 rfl rfl rfl ?_
        refine w_callVe (q := 33) hX (c_X5_passesAct E _ hr n p e5 e6 hE hp) rfl kV_X5_passesAct rfl (by decide) lk_X5_237 (by decide) rfl oX5 (Nat.le_of_ble_eq_true rfl) dX5_carryOut_30 rfl (fun D1 hD1 => ?_)
        obtain ⟨F1, rfl, f1, f2⟩ := hD1
        rw [eT] at f1 f2
        rw [eT]
        have w52 : xw E 351 F1 352 = N := by rw [xw_ne _ _ _ (show 352 ≠ 351 by decide)]; exact e52
        refine w_ifeq (q := 36) (tgt := 47) hX dX5_carryOut_33 (by decide) rfl (fun h33 => ?_) (fun h33 => ?_)
        · refine v_iconst (q := 48) hX dX5_carryOut_47 rfl ?_
          refine v_istore_n (q := 49) hX dX5_carryOut_48 rfl (Nat.le_of_ble_eq_true rfl) (Nat.le_of_ble_eq_true rfl) rfl ?_
          dsimp only [xs1, xs2, xclr]
          refine v_iload_n (q := 50) hX dX5_carryOut_49 rfl rfl rfl ?_
          refine v_iload_n (q := 51) hX dX5_carryOut_50 rfl rfl rfl ?_
          refine v_if_eq (q := 54) (tgt := 58) hX ⟨by omega, by omega⟩ dX5_carryOut_51 (by decide) rfl (fun h51 => ?_) (fun h51 => ?_)
          · refine v_iconst (q := 59) hX dX5_carryOut_58 rfl ?_
            refine v_iadd (q := 60) hX dX5_carryOut_59 rfl ?_
            refine v_istore_n (q := 61) hX dX5_carryOut_60 rfl (Nat.le_of_ble_eq_true rfl) (Nat.le_of_ble_eq_true rfl) rfl ?_
            dsimp only [xs1, xs2, xclr]
            refine v_iload_n (q := 62) hX dX5_carryOut_61 rfl rfl rfl ?_
            refine v_if_eq (q := 65) (tgt := 80) hX ⟨by omega, by omega⟩ dX5_carryOut_62 (by decide) rfl (fun h62 => ?_) (fun h62 => ?_)
            · refine v_iconst (q := 81) hX dX5_carryOut_80 rfl ?_
              refine v_istore_n (q := 82) hX dX5_carryOut_81 rfl (Nat.le_of_ble_eq_true rfl) (Nat.le_of_ble_eq_true rfl) rfl ?_
              dsimp only [xs1, xs2, xclr]
              refine v_aload_n (q := 83) hX dX5_carryOut_82 rfl rfl rfl ?_
              refine v_dup (q := 84) hX rfl dX5_carryOut_83 rfl ?_
              refine w_getI (q := 87) hX fl_X5_206 rfl oX5 dX5_carryOut_84 rfl ?_
              rw [show xw E 351 F1 351 6 = _ from f1.2]
              refine v_iconst (q := 88) hX dX5_carryOut_87 rfl ?_
              refine v_iadd (q := 89) hX dX5_carryOut_88 rfl ?_
              refine w_putI (q := 92) hX fl_X5_206 rfl oX5 dX5_carryOut_89 rfl ?_
              refine v_goto (tgt := 25) hX dX5_carryOut_92 (by decide) ?_
              refine v_iload_n (q := 26) hX dX5_carryOut_25 rfl rfl rfl ?_
              refine v_if_eq (q := 29) (tgt := 95) hX ⟨by omega, by omega⟩ dX5_carryOut_26 (by decide) rfl (fun h26 => ?_) (fun h26 => ?_)
              · refine v_aload_n (q := 96) hX dX5_carryOut_95 rfl rfl rfl ?_
                refine v_iconst (q := 97) hX dX5_carryOut_96 rfl ?_
                refine w_putI (q := 100) hX fl_X5_188 rfl oX5 dX5_carryOut_97 rfl ?_
                refine v_iload_n (q := 101) hX dX5_carryOut_100 rfl rfl rfl ?_
                refine v_ireturn hX hRX rfl (by first | rfl | exact bi_nar _) dX5_carryOut_101 rfl ?_
                refine ⟨congrArg (fun e => some (vi e)) ?_, rfl, fu (fu F1 6 ((((tAct (D 355) n p).2.2 : Nat) : Int) + 1)) 5 0, ?_, fu_at _ _ _, fun j hj => ?_⟩
                · rw [← hG]; simp only [tRun]; exact Int.add_zero _
                · rw [← hG]; simp only [tRun]; exact cA_fin0 eA e52 F1 _ _
                · rw [fu_ne _ _ _ (by omega), fu_ne _ _ _ (by omega), f1.1 j (by omega)]; exact eF j (by omega)
              · exact absurd h26 (by decide)
            · exact absurd h62 (by decide)
          · exact absurd h51 (by decide)
        · exact absurd h33 hA
    | succ m ih =>
      intro p d N E hm hp hd e5 e6 e52 eF eA eV eV7 hG
      have eT : E 355 = D 355 := eA 355 (by decide) (by decide)
      have hE : tOk (E 355) n := by rw [eT]; exact hT
      have hle := tAct_le (D 355) n p hp
      by_cases hA : (tAct (D 355) n p).1 = true
      · have hlt := hle.2.2 hA
        by_cases hN : actE N np (tAct (D 355) n p).2.1 = 0
        · by_cases hL : (tAct (D 355) n p).2.2 < n
          · refine v_iload_n (q := 26) hX dX5_carryOut_25 rfl rfl rfl ?_
            refine v_if_eq (q := 29) (tgt := 95) hX ⟨by omega, by omega⟩ dX5_carryOut_26 (by decide) rfl (fun h26 => ?_) (fun h26 => ?_)
            · exact absurd h26 (by decide)
            · refine v_aload_n (q := 30) hX dX5_carryOut_29 rfl rfl rfl ?_
              refine w_callVe (q := 33) hX (c_X5_passesAct E _ hr n p e5 e6 hE hp) rfl kV_X5_passesAct rfl (by decide) lk_X5_237 (by decide) rfl oX5 (Nat.le_of_ble_eq_true rfl) dX5_carryOut_30 rfl (fun D1 hD1 => ?_)
              obtain ⟨F1, rfl, f1, f2⟩ := hD1
              rw [eT] at f1 f2
              rw [eT]
              have w52 : xw E 351 F1 352 = N := by rw [xw_ne _ _ _ (show 352 ≠ 351 by decide)]; exact e52
              refine w_ifeq (q := 36) (tgt := 47) hX dX5_carryOut_33 (by decide) rfl (fun h33 => ?_) (fun h33 => ?_)
              · exact absurd hA h33
              · refine v_aload_n (q := 37) hX dX5_carryOut_36 rfl rfl rfl ?_
                refine w_callVe (q := 40) hX (c_X5_acts (B := B + 100000 * d) (np := np) (xw E 351 F1) _ hr (by rw [w52]; exact eV) (by omega) f (by rw [w52, eV7]; exact hf1) hf2 (tAct (D 355) n p).2.1 (tAct_k _ _ _ hA) (tAct_v _ _ _) (by rw [xw_at]; exact f2 hA) (by rw [w52]; exact hN)) rfl kV_X5_acts rfl (by decide) lk_X5_243 (by decide) rfl oX5 (Nat.le_of_ble_eq_true rfl) dX5_carryOut_37 rfl (fun D2 hD2 => ?_)
                rw [w52] at hD2
                subst hD2
                refine v_if_ne (q := 43) (tgt := 47) hX ⟨by omega, by omega⟩ dX5_carryOut_40 (by decide) rfl (fun h40 => ?_) (fun h40 => ?_)
                · exact absurd h40 (by decide)
                · refine v_iconst (q := 44) hX dX5_carryOut_43 rfl ?_
                  refine v_goto (tgt := 48) hX dX5_carryOut_44 (by decide) ?_
                  refine v_istore_n (q := 49) hX dX5_carryOut_48 rfl (Nat.le_of_ble_eq_true rfl) (Nat.le_of_ble_eq_true rfl) rfl ?_
                  dsimp only [xs1, xs2, xclr]
                  refine v_iload_n (q := 50) hX dX5_carryOut_49 rfl rfl rfl ?_
                  refine v_iload_n (q := 51) hX dX5_carryOut_50 rfl rfl rfl ?_
                  refine v_if_eq (q := 54) (tgt := 58) hX ⟨by omega, by omega⟩ dX5_carryOut_51 (by decide) rfl (fun h51 => ?_) (fun h51 => ?_)
                  · exact absurd h51 (by decide)
                  · refine v_iconst (q := 55) hX dX5_carryOut_54 rfl ?_
                    refine v_goto (tgt := 59) hX dX5_carryOut_55 (by decide) ?_
                    refine v_iadd (q := 60) hX dX5_carryOut_59 rfl ?_
                    refine v_istore_n (q := 61) hX dX5_carryOut_60 rfl (Nat.le_of_ble_eq_true rfl) (Nat.le_of_ble_eq_true rfl) rfl ?_
                    dsimp only [xs1, xs2, xclr]
                    refine v_iload_n (q := 62) hX dX5_carryOut_61 rfl rfl rfl ?_
                    refine v_if_eq (q := 65) (tgt := 80) hX ⟨by omega, by omega⟩ dX5_carryOut_62 (by decide) rfl (fun h62 => ?_) (fun h62 => ?_)
                    · exact absurd h62 (by decide)
                    · refine v_aload_n (q := 66) hX dX5_carryOut_65 rfl rfl rfl ?_
                      refine w_getI (q := 69) hX fl_X5_206 rfl oX5 dX5_carryOut_66 rfl ?_
                      rw [show xw (xw E 351 F1) 352 (actN N np f (tAct (D 355) n p).2.1) 351 6 = _ from f1.2]
                      refine v_aload_n (q := 70) hX dX5_carryOut_69 rfl rfl rfl ?_
                      refine w_getI (q := 73) hX fl_X5_188 rfl oX5 dX5_carryOut_70 rfl ?_
                      rw [show xw (xw E 351 F1) 352 (actN N np f (tAct (D 355) n p).2.1) 351 5 = _ from (f1.1 5 (by decide)).trans e5]
                      refine v_icmp_ge (q := 76) (tgt := 80) hX ⟨by omega, by omega⟩ ⟨by omega, by omega⟩ dX5_carryOut_73 (by decide) rfl (fun h73 => ?_) (fun h73 => ?_)
                      · exact absurd h73 (by omega)
                      · refine v_iconst (q := 77) hX dX5_carryOut_76 rfl ?_
                        refine v_goto (tgt := 81) hX dX5_carryOut_77 (by decide) ?_
                        refine v_istore_n (q := 82) hX dX5_carryOut_81 rfl (Nat.le_of_ble_eq_true rfl) (Nat.le_of_ble_eq_true rfl) rfl ?_
                        dsimp only [xs1, xs2, xclr]
                        refine v_aload_n (q := 83) hX dX5_carryOut_82 rfl rfl rfl ?_
                        refine v_dup (q := 84) hX rfl dX5_carryOut_83 rfl ?_
                        refine w_getI (q := 87) hX fl_X5_206 rfl oX5 dX5_carryOut_84 rfl ?_
                        rw [show xw (xw E 351 F1) 352 (actN N np f (tAct (D 355) n p).2.1) 351 6 = _ from f1.2]
                        refine v_iconst (q := 88) hX dX5_carryOut_87 rfl ?_
                        refine v_iadd (q := 89) hX dX5_carryOut_88 rfl ?_
                        refine w_putI (q := 92) hX fl_X5_206 rfl oX5 dX5_carryOut_89 rfl ?_
                        refine v_goto (tgt := 25) hX dX5_carryOut_92 (by decide) ?_
                        rw [xu_cA]
                        have b1 := actN_V (f := f) eV hf2 (by omega) hN
                        rw [show B + 100000 * (d : Int) + 100000 = B + 100000 * ((d + 1 : Nat) : Int) by push_cast; omega] at b1
                        have e1 := ih ((tAct (D 355) n p).2.2 + 1) (d + 1) (actN N np f (tAct (D 355) n p).2.1) (xw (xw E 351 (fu F1 6 ((((tAct (D 355) n p).2.2 : Nat) : Int) + 1))) 352 (actN N np f (tAct (D 355) n p).2.1)) (by omega) (by omega) (by omega) ((fu_ne F1 6 ((((tAct (D 355) n p).2.2 : Nat) : Int) + 1) (by decide)).trans ((f1.1 5 (by decide)).trans e5)) ((fu_at F1 6 _).trans (by push_cast; rfl)) rfl (fun j hj => (fu_ne F1 6 _ (by omega)).trans ((f1.1 j (by omega)).trans (eF j hj))) (fun a h1 h2 => (cA_keep E _ _ h1 h2).trans (eA a h1 h2)) b1 ((actN_hd _ (Or.inr (by omega))).trans eV7) (by rw [← hG]; simp only [tRun]; rw [if_pos (And.intro hA hN), if_pos hL])
                        exact e1
          · refine v_iload_n (q := 26) hX dX5_carryOut_25 rfl rfl rfl ?_
            refine v_if_eq (q := 29) (tgt := 95) hX ⟨by omega, by omega⟩ dX5_carryOut_26 (by decide) rfl (fun h26 => ?_) (fun h26 => ?_)
            · exact absurd h26 (by decide)
            · refine v_aload_n (q := 30) hX dX5_carryOut_29 rfl rfl rfl ?_
              refine w_callVe (q := 33) hX (c_X5_passesAct E _ hr n p e5 e6 hE hp) rfl kV_X5_passesAct rfl (by decide) lk_X5_237 (by decide) rfl oX5 (Nat.le_of_ble_eq_true rfl) dX5_carryOut_30 rfl (fun D1 hD1 => ?_)
              obtain ⟨F1, rfl, f1, f2⟩ := hD1
              rw [eT] at f1 f2
              rw [eT]
              have w52 : xw E 351 F1 352 = N := by rw [xw_ne _ _ _ (show 352 ≠ 351 by decide)]; exact e52
              refine w_ifeq (q := 36) (tgt := 47) hX dX5_carryOut_33 (by decide) rfl (fun h33 => ?_) (fun h33 => ?_)
              · exact absurd hA h33
              · refine v_aload_n (q := 37) hX dX5_carryOut_36 rfl rfl rfl ?_
                refine w_callVe (q := 40) hX (c_X5_acts (B := B + 100000 * d) (np := np) (xw E 351 F1) _ hr (by rw [w52]; exact eV) (by omega) f (by rw [w52, eV7]; exact hf1) hf2 (tAct (D 355) n p).2.1 (tAct_k _ _ _ hA) (tAct_v _ _ _) (by rw [xw_at]; exact f2 hA) (by rw [w52]; exact hN)) rfl kV_X5_acts rfl (by decide) lk_X5_243 (by decide) rfl oX5 (Nat.le_of_ble_eq_true rfl) dX5_carryOut_37 rfl (fun D2 hD2 => ?_)
                rw [w52] at hD2
                subst hD2
                refine v_if_ne (q := 43) (tgt := 47) hX ⟨by omega, by omega⟩ dX5_carryOut_40 (by decide) rfl (fun h40 => ?_) (fun h40 => ?_)
                · exact absurd h40 (by decide)
                · refine v_iconst (q := 44) hX dX5_carryOut_43 rfl ?_
                  refine v_goto (tgt := 48) hX dX5_carryOut_44 (by decide) ?_
                  refine v_istore_n (q := 49) hX dX5_carryOut_48 rfl (Nat.le_of_ble_eq_true rfl) (Nat.le_of_ble_eq_true rfl) rfl ?_
                  dsimp only [xs1, xs2, xclr]
                  refine v_iload_n (q := 50) hX dX5_carryOut_49 rfl rfl rfl ?_
                  refine v_iload_n (q := 51) hX dX5_carryOut_50 rfl rfl rfl ?_
                  refine v_if_eq (q := 54) (tgt := 58) hX ⟨by omega, by omega⟩ dX5_carryOut_51 (by decide) rfl (fun h51 => ?_) (fun h51 => ?_)
                  · exact absurd h51 (by decide)
                  · refine v_iconst (q := 55) hX dX5_carryOut_54 rfl ?_
                    refine v_goto (tgt := 59) hX dX5_carryOut_55 (by decide) ?_
                    refine v_iadd (q := 60) hX dX5_carryOut_59 rfl ?_
                    refine v_istore_n (q := 61) hX dX5_carryOut_60 rfl (Nat.le_of_ble_eq_true rfl) (Nat.le_of_ble_eq_true rfl) rfl ?_
                    dsimp only [xs1, xs2, xclr]
                    refine v_iload_n (q := 62) hX dX5_carryOut_61 rfl rfl rfl ?_
                    refine v_if_eq (q := 65) (tgt := 80) hX ⟨by omega, by omega⟩ dX5_carryOut_62 (by decide) rfl (fun h62 => ?_) (fun h62 => ?_)
                    · exact absurd h62 (by decide)
                    · refine v_aload_n (q := 66) hX dX5_carryOut_65 rfl rfl rfl ?_
                      refine w_getI (q := 69) hX fl_X5_206 rfl oX5 dX5_carryOut_66 rfl ?_
                      rw [show xw (xw E 351 F1) 352 (actN N np f (tAct (D 355) n p).2.1) 351 6 = _ from f1.2]
                      refine v_aload_n (q := 70) hX dX5_carryOut_69 rfl rfl rfl ?_
                      refine w_getI (q := 73) hX fl_X5_188 rfl oX5 dX5_carryOut_70 rfl ?_
                      rw [show xw (xw E 351 F1) 352 (actN N np f (tAct (D 355) n p).2.1) 351 5 = _ from (f1.1 5 (by decide)).trans e5]
                      refine v_icmp_ge (q := 76) (tgt := 80) hX ⟨by omega, by omega⟩ ⟨by omega, by omega⟩ dX5_carryOut_73 (by decide) rfl (fun h73 => ?_) (fun h73 => ?_)
                      · refine v_iconst (q := 81) hX dX5_carryOut_80 rfl ?_
                        refine v_istore_n (q := 82) hX dX5_carryOut_81 rfl (Nat.le_of_ble_eq_true rfl) (Nat.le_of_ble_eq_true rfl) rfl ?_
                        dsimp only [xs1, xs2, xclr]
                        refine v_aload_n (q := 83) hX dX5_carryOut_82 rfl rfl rfl ?_
                        refine v_dup (q := 84) hX rfl dX5_carryOut_83 rfl ?_
                        refine w_getI (q := 87) hX fl_X5_206 rfl oX5 dX5_carryOut_84 rfl ?_
                        rw [show xw (xw E 351 F1) 352 (actN N np f (tAct (D 355) n p).2.1) 351 6 = _ from f1.2]
                        refine v_iconst (q := 88) hX dX5_carryOut_87 rfl ?_
                        refine v_iadd (q := 89) hX dX5_carryOut_88 rfl ?_
                        refine w_putI (q := 92) hX fl_X5_206 rfl oX5 dX5_carryOut_89 rfl ?_
                        refine v_goto (tgt := 25) hX dX5_carryOut_92 (by decide) ?_
                        refine v_iload_n (q := 26) hX dX5_carryOut_25 rfl rfl rfl ?_
                        refine v_if_eq (q := 29) (tgt := 95) hX ⟨by omega, by omega⟩ dX5_carryOut_26 (by decide) rfl (fun h26 => ?_) (fun h26 => ?_)
                        · refine v_aload_n (q := 96) hX dX5_carryOut_95 rfl rfl rfl ?_
                          refine v_iconst (q := 97) hX dX5_carryOut_96 rfl ?_
                          refine w_putI (q := 100) hX fl_X5_188 rfl oX5 dX5_carryOut_97 rfl ?_
                          refine v_iload_n (q := 101) hX dX5_carryOut_100 rfl rfl rfl ?_
                          refine v_ireturn hX hRX rfl (by first | rfl | exact bi_nar _) dX5_carryOut_101 rfl ?_
                          refine ⟨congrArg (fun e => some (vi e)) ?_, rfl, fu (fu F1 6 ((((tAct (D 355) n p).2.2 : Nat) : Int) + 1)) 5 0, ?_, fu_at _ _ _, fun j hj => ?_⟩
                          · rw [← hG]; simp only [tRun]; rw [if_pos ⟨hA, hN⟩, if_neg hL]; push_cast; rfl
                          · rw [← hG]; simp only [tRun]; rw [if_pos ⟨hA, hN⟩, if_neg hL]; exact cA_fin (fun a h1 h2 => eA a h1 h2) F1 _ _ _
                          · rw [fu_ne _ _ _ (by omega), fu_ne _ _ _ (by omega), f1.1 j (by omega)]; exact eF j (by omega)
                        · exact absurd h26 (by decide)
                      · exact absurd h73 (by omega)
        · have hae := actE_le N np (tAct (D 355) n p).2.1
          refine v_iload_n (q := 26) hX dX5_carryOut_25 rfl rfl rfl ?_
          refine v_if_eq (q := 29) (tgt := 95) hX ⟨by omega, by omega⟩ dX5_carryOut_26 (by decide) rfl (fun h26 => ?_) (fun h26 => ?_)
          · exact absurd h26 (by decide)
          · refine v_aload_n (q := 30) hX dX5_carryOut_29 rfl rfl rfl ?_
            refine w_callVe (q := 33) hX (c_X5_passesAct E _ hr n p e5 e6 hE hp) rfl kV_X5_passesAct rfl (by decide) lk_X5_237 (by decide) rfl oX5 (Nat.le_of_ble_eq_true rfl) dX5_carryOut_30 rfl (fun D1 hD1 => ?_)
            obtain ⟨F1, rfl, f1, f2⟩ := hD1
            rw [eT] at f1 f2
            rw [eT]
            have w52 : xw E 351 F1 352 = N := by rw [xw_ne _ _ _ (show 352 ≠ 351 by decide)]; exact e52
            refine w_ifeq (q := 36) (tgt := 47) hX dX5_carryOut_33 (by decide) rfl (fun h33 => ?_) (fun h33 => ?_)
            · exact absurd hA h33
            · refine v_aload_n (q := 37) hX dX5_carryOut_36 rfl rfl rfl ?_
              refine w_callV (q := 40) hX (c_X5_acts_err (B := B + 100000 * d) (np := np) (xw E 351 F1) _ hr (by rw [w52]; exact eV) (by omega) f (by rw [w52, eV7]; exact hf1) hf2 (tAct (D 355) n p).2.1 (tAct_k _ _ _ hA) (tAct_v _ _ _) (by rw [xw_at]; exact f2 hA) (by rw [w52]; exact hN)) rfl kV_X5_acts rfl (by decide) lk_X5_243 (by decide) rfl oX5 (Nat.le_of_ble_eq_true rfl) dX5_carryOut_37 rfl ?_
              rw [w52]
              refine v_if_ne (q := 43) (tgt := 47) hX ⟨by omega, by omega⟩ dX5_carryOut_40 (by decide) rfl (fun h40 => ?_) (fun h40 => ?_)
              · refine v_iconst (q := 48) hX dX5_carryOut_47 rfl ?_
                refine v_istore_n (q := 49) hX dX5_carryOut_48 rfl (Nat.le_of_ble_eq_true rfl) (Nat.le_of_ble_eq_true rfl) rfl ?_
                dsimp only [xs1, xs2, xclr]
                refine v_iload_n (q := 50) hX dX5_carryOut_49 rfl rfl rfl ?_
                refine v_iload_n (q := 51) hX dX5_carryOut_50 rfl rfl rfl ?_
                refine v_if_eq (q := 54) (tgt := 58) hX ⟨by omega, by omega⟩ dX5_carryOut_51 (by decide) rfl (fun h51 => ?_) (fun h51 => ?_)
                · refine v_iconst (q := 59) hX dX5_carryOut_58 rfl ?_
                  refine v_iadd (q := 60) hX dX5_carryOut_59 rfl ?_
                  refine v_istore_n (q := 61) hX dX5_carryOut_60 rfl (Nat.le_of_ble_eq_true rfl) (Nat.le_of_ble_eq_true rfl) rfl ?_
                  dsimp only [xs1, xs2, xclr]
                  refine v_iload_n (q := 62) hX dX5_carryOut_61 rfl rfl rfl ?_
                  refine v_if_eq (q := 65) (tgt := 80) hX ⟨by omega, by omega⟩ dX5_carryOut_62 (by decide) rfl (fun h62 => ?_) (fun h62 => ?_)
                  · refine v_iconst (q := 81) hX dX5_carryOut_80 rfl ?_
                    refine v_istore_n (q := 82) hX dX5_carryOut_81 rfl (Nat.le_of_ble_eq_true rfl) (Nat.le_of_ble_eq_true rfl) rfl ?_
                    dsimp only [xs1, xs2, xclr]
                    refine v_aload_n (q := 83) hX dX5_carryOut_82 rfl rfl rfl ?_
                    refine v_dup (q := 84) hX rfl dX5_carryOut_83 rfl ?_
                    refine w_getI (q := 87) hX fl_X5_206 rfl oX5 dX5_carryOut_84 rfl ?_
                    rw [show xw E 351 F1 351 6 = _ from f1.2]
                    refine v_iconst (q := 88) hX dX5_carryOut_87 rfl ?_
                    refine v_iadd (q := 89) hX dX5_carryOut_88 rfl ?_
                    refine w_putI (q := 92) hX fl_X5_206 rfl oX5 dX5_carryOut_89 rfl ?_
                    refine v_goto (tgt := 25) hX dX5_carryOut_92 (by decide) ?_
                    refine v_iload_n (q := 26) hX dX5_carryOut_25 rfl rfl rfl ?_
                    refine v_if_eq (q := 29) (tgt := 95) hX ⟨by omega, by omega⟩ dX5_carryOut_26 (by decide) rfl (fun h26 => ?_) (fun h26 => ?_)
                    · refine v_aload_n (q := 96) hX dX5_carryOut_95 rfl rfl rfl ?_
                      refine v_iconst (q := 97) hX dX5_carryOut_96 rfl ?_
                      refine w_putI (q := 100) hX fl_X5_188 rfl oX5 dX5_carryOut_97 rfl ?_
                      refine v_iload_n (q := 101) hX dX5_carryOut_100 rfl rfl rfl ?_
                      refine v_ireturn hX hRX rfl (by first | rfl | exact bi_nar _) dX5_carryOut_101 rfl ?_
                      refine ⟨congrArg (fun e => some (vi e)) ?_, rfl, fu (fu F1 6 ((((tAct (D 355) n p).2.2 : Nat) : Int) + 1)) 5 0, ?_, fu_at _ _ _, fun j hj => ?_⟩
                      · rw [← hG]; simp only [tRun]; rw [if_neg (fun h => hN h.2)]; exact Int.add_zero _
                      · rw [← hG]; simp only [tRun]; rw [if_neg (fun h => hN h.2)]; exact cA_fin0 eA e52 F1 _ _
                      · rw [fu_ne _ _ _ (by omega), fu_ne _ _ _ (by omega), f1.1 j (by omega)]; exact eF j (by omega)
                    · exact absurd h26 (by decide)
                  · exact absurd h62 (by decide)
                · exact absurd h51 (by decide)
              · exact absurd h40 hN
      · refine v_iload_n (q := 26) hX dX5_carryOut_25 rfl rfl rfl ?_
        refine v_if_eq (q := 29) (tgt := 95) hX ⟨by omega, by omega⟩ dX5_carryOut_26 (by decide) rfl (fun h26 => ?_) (fun h26 => ?_)
        · exact absurd h26 (by decide)
        · refine v_aload_n (q := 30) hX dX5_carryOut_29 rfl rfl rfl ?_
          refine w_callVe (q := 33) hX (c_X5_passesAct E _ hr n p e5 e6 hE hp) rfl kV_X5_passesAct rfl (by decide) lk_X5_237 (by decide) rfl oX5 (Nat.le_of_ble_eq_true rfl) dX5_carryOut_30 rfl (fun D1 hD1 => ?_)
          obtain ⟨F1, rfl, f1, f2⟩ := hD1
          rw [eT] at f1 f2
          rw [eT]
          have w52 : xw E 351 F1 352 = N := by rw [xw_ne _ _ _ (show 352 ≠ 351 by decide)]; exact e52
          refine w_ifeq (q := 36) (tgt := 47) hX dX5_carryOut_33 (by decide) rfl (fun h33 => ?_) (fun h33 => ?_)
          · refine v_iconst (q := 48) hX dX5_carryOut_47 rfl ?_
            refine v_istore_n (q := 49) hX dX5_carryOut_48 rfl (Nat.le_of_ble_eq_true rfl) (Nat.le_of_ble_eq_true rfl) rfl ?_
            dsimp only [xs1, xs2, xclr]
            refine v_iload_n (q := 50) hX dX5_carryOut_49 rfl rfl rfl ?_
            refine v_iload_n (q := 51) hX dX5_carryOut_50 rfl rfl rfl ?_
            refine v_if_eq (q := 54) (tgt := 58) hX ⟨by omega, by omega⟩ dX5_carryOut_51 (by decide) rfl (fun h51 => ?_) (fun h51 => ?_)
            · refine v_iconst (q := 59) hX dX5_carryOut_58 rfl ?_
              refine v_iadd (q := 60) hX dX5_carryOut_59 rfl ?_
              refine v_istore_n (q := 61) hX dX5_carryOut_60 rfl (Nat.le_of_ble_eq_true rfl) (Nat.le_of_ble_eq_true rfl) rfl ?_
              dsimp only [xs1, xs2, xclr]
              refine v_iload_n (q := 62) hX dX5_carryOut_61 rfl rfl rfl ?_
              refine v_if_eq (q := 65) (tgt := 80) hX ⟨by omega, by omega⟩ dX5_carryOut_62 (by decide) rfl (fun h62 => ?_) (fun h62 => ?_)
              · refine v_iconst (q := 81) hX dX5_carryOut_80 rfl ?_
                refine v_istore_n (q := 82) hX dX5_carryOut_81 rfl (Nat.le_of_ble_eq_true rfl) (Nat.le_of_ble_eq_true rfl) rfl ?_
                dsimp only [xs1, xs2, xclr]
                refine v_aload_n (q := 83) hX dX5_carryOut_82 rfl rfl rfl ?_
                refine v_dup (q := 84) hX rfl dX5_carryOut_83 rfl ?_
                refine w_getI (q := 87) hX fl_X5_206 rfl oX5 dX5_carryOut_84 rfl ?_
                rw [show xw E 351 F1 351 6 = _ from f1.2]
                refine v_iconst (q := 88) hX dX5_carryOut_87 rfl ?_
                refine v_iadd (q := 89) hX dX5_carryOut_88 rfl ?_
                refine w_putI (q := 92) hX fl_X5_206 rfl oX5 dX5_carryOut_89 rfl ?_
                refine v_goto (tgt := 25) hX dX5_carryOut_92 (by decide) ?_
                refine v_iload_n (q := 26) hX dX5_carryOut_25 rfl rfl rfl ?_
                refine v_if_eq (q := 29) (tgt := 95) hX ⟨by omega, by omega⟩ dX5_carryOut_26 (by decide) rfl (fun h26 => ?_) (fun h26 => ?_)
                · refine v_aload_n (q := 96) hX dX5_carryOut_95 rfl rfl rfl ?_
                  refine v_iconst (q := 97) hX dX5_carryOut_96 rfl ?_
                  refine w_putI (q := 100) hX fl_X5_188 rfl oX5 dX5_carryOut_97 rfl ?_
                  refine v_iload_n (q := 101) hX dX5_carryOut_100 rfl rfl rfl ?_
                  refine v_ireturn hX hRX rfl (by first | rfl | exact bi_nar _) dX5_carryOut_101 rfl ?_
                  refine ⟨congrArg (fun e => some (vi e)) ?_, rfl, fu (fu F1 6 ((((tAct (D 355) n p).2.2 : Nat) : Int) + 1)) 5 0, ?_, fu_at _ _ _, fun j hj => ?_⟩
                  · rw [← hG]; simp only [tRun]; rw [if_neg (fun h => hA h.1)]; exact Int.add_zero _
                  · rw [← hG]; simp only [tRun]; rw [if_neg (fun h => hA h.1)]; exact cA_fin0 eA e52 F1 _ _
                  · rw [fu_ne _ _ _ (by omega), fu_ne _ _ _ (by omega), f1.1 j (by omega)]; exact eF j (by omega)
                · exact absurd h26 (by decide)
              · exact absurd h62 (by decide)
            · exact absurd h51 (by decide)
          · exact absurd h33 hA
  refine v_aload_n (q := 1) hX dX5_carryOut_0 rfl rfl rfl ?_
  refine w_callVe (q := 4) hX (c_X5_fault _ _ hr n g5 hT) rfl kV_X5_fault rfl (by decide) lk_X5_240 (by decide) rfl oX5 (Nat.le_of_ble_eq_true rfl) dX5_carryOut_1 rfl (fun D1 hD1 => ?_)
  obtain ⟨F1, rfl, f1⟩ := hD1
  rw [hno]
  refine v_bipush (q := 6) hX (by decide) dX5_carryOut_4 rfl ?_
  refine v_icmp_eq (q := 9) (tgt := 12) hX (by decide) (by decide) dX5_carryOut_6 (by decide) rfl (fun h6 => ?_) (fun h6 => ?_)
  · refine v_aload_n (q := 13) hX dX5_carryOut_12 rfl rfl rfl ?_
    refine w_callVn (q := 16) hX (c_X5_records _ _ hr (by rw [xw_at, f1 3 (by decide)]; exact hs0)) rfl kV_X5_records rfl (by decide) lk_X5_56 (by decide) rfl oX5 (Nat.le_of_ble_eq_true rfl) dX5_carryOut_13 rfl (fun D2 hD2 => ?_)
    subst hD2
    refine v_iconst (q := 17) hX dX5_carryOut_16 rfl ?_
    refine v_istore_n (q := 18) hX dX5_carryOut_17 rfl (Nat.le_of_ble_eq_true rfl) (Nat.le_of_ble_eq_true rfl) rfl ?_
    dsimp only [xs1, xs2, xclr]
    refine v_iconst (q := 19) hX dX5_carryOut_18 rfl ?_
    refine v_istore_n (q := 20) hX dX5_carryOut_19 rfl (Nat.le_of_ble_eq_true rfl) (Nat.le_of_ble_eq_true rfl) rfl ?_
    dsimp only [xs1, xs2, xclr]
    refine v_aload_n (q := 21) hX dX5_carryOut_20 rfl rfl rfl ?_
    refine v_iconst (q := 22) hX dX5_carryOut_21 rfl ?_
    refine w_putI (q := 25) hX fl_X5_206 rfl oX5 dX5_carryOut_22 rfl ?_
    have e3 := f1 3 (by decide)
    refine L n 0 0 (D 352) _ (by omega) (Nat.zero_le _) (by omega) ?_ ?_ ?_ ?_ ?_ ?_ rfl rfl
    · rw [xu_xw, xw_at, fu_ne _ _ _ (by decide), rcD_351, fu_ne _ _ _ (by decide), xw_at, f1 5 (by decide)]; exact g5
    · rw [xu_xw, xw_at, fu_at]; rfl
    · rfl
    · intro j hj; rw [xu_xw, xw_at, fu_ne _ _ _ (by omega), rcD_351, xw_at]; unfold rcS fu; rw [e3, f1 j hj]
    · intro a h1 h2; rw [xu_xw, xw_ne _ _ _ h1]; unfold rcD; rw [xw_ne _ _ _ h1]; show xw (xw D 351 F1) 353 (rcK F1 (D 353) (D 352)) a = _; rw [show rcK F1 (D 353) (D 352) = rcK (D 351) (D 353) (D 352) by unfold rcK rcS; rw [e3]]; unfold xw; simp [h1]
    · exact hV.mono (by omega) (by omega)
  · exact absurd rfl h6

