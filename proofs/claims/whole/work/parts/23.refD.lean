theorem tSig_no {T : Nat → Int} {n q : Nat} {c : Int} (h : ¬ (q < n ∧ c ≤ T q ∧ T q ≤ c)) : tSig T n q c = (false, 0, q) := if_neg h
theorem tSig_yes {T : Nat → Int} {n q : Nat} {c : Int} (h : q < n ∧ c ≤ T q ∧ T q ≤ c) : tSig T n q c = tNum T n (q + 1) := if_pos h
theorem xE_2 {D E : xD} {q : Nat} {F : Nat → Int} (h : ∀ a, a ≠ 351 → E a = D a) : xw (poD E q) 351 F = xw D 351 F := by
  funext a
  by_cases ha : a = 351
  · rw [ha, xw_at, xw_at]
  · rw [xw_ne _ _ _ ha, xw_ne _ _ _ ha]; unfold poD; rw [xw_ne _ _ _ ha]; exact h a ha
theorem xE_3 {D E : xD} {q : Nat} {F : Nat → Int} (h : ∀ a, a ≠ 351 → E a = D a) : xw (poD E q) 351 F = xw D 351 F := xE_2 h
theorem xE_4 {D E : xD} {F : Nat → Int} (h : ∀ a, a ≠ 351 → E a = D a) : ∀ a, a ≠ 351 → (xw E 351 F) a = D a := fun a ha => by rw [xw_ne _ _ _ ha]; exact h a ha
set_option maxRecDepth 100000 in
set_option maxHeartbeats 4000000 in
theorem c_X5_passesNumbers {z : Nat} (D : xD) (r : xR) (hr : xRM r) (n p : Nat) (g5 : D 351 5 = (n : Int)) (g6 : D 351 6 = (p : Int)) (hT : tOk (D 355) n) (gp : p ≤ n) (week : Bool) : MX 4 mX5_passesNumbers [.ref 351, vi (bi (week = true))] (356, z) D r (356, z) (xEs (vi (bi ((tNums (D 355) n p week).1 = true))) (fun D' => ∃ F', D' = xw D 351 F' ∧ scw (D 351) F' (tNums (D 355) n p week).2.2 ∧ F' 7 = D 351 7 ∧ ((tNums (D 355) n p week).1 = true → F' 9 = (tNums (D 355) n p week).2.1.1 ∧ (week = true → F' 10 = (tNums (D 355) n p week).2.1.2.1) ∧ F' 11 = (tNums (D 355) n p week).2.1.2.2)) r) := by
  refine MX.of (by decide +kernel) [some (.ref 351), some (vi (bi (week = true)))] rfl (Nat.le_of_ble_eq_true rfl) ?_
  intro γ hX hRX
  have K : ∀ (q : Nat) (E : xD) (a b : Int), q ≤ n → E 351 5 = (n : Int) → E 351 6 = (q : Int) → E 355 = D 355 → (∀ a, a ≠ 351 → E a = D a) → scw (D 351) (E 351) q → E 351 7 = D 351 7 → E 351 9 = a → (week = true → E 351 10 = b) →
      tNums (D 355) n p week = ((tSig (D 355) n q 42).1, (a, b, (tSig (D 355) n q 42).2.1), (tSig (D 355) n q 42).2.2) → xV γ 53 [some (.ref 351), some (vi (bi (week = true)))] [] (356, z) E r := by
    intro q E a b hq e5 e6 eT eA eF e7 e9 e10 hG
    have hE : tOk (E 355) n := by rw [eT]; exact hT
    by_cases he : q < n ∧ 42 ≤ D 355 q ∧ D 355 q ≤ 42
    · have he0 := he
      rw [tSig_yes he] at hG
      rw [← eT] at he
      refine v_aload_n (q := 54) hX dX5_passesNumbers_53 rfl rfl rfl ?_
      refine v_bipush (q := 56) hX (by decide) dX5_passesNumbers_54 rfl ?_
      refine v_bipush (q := 58) hX (by decide) dX5_passesNumbers_56 rfl ?_
      refine w_callVe (q := 61) hX (c_X5_passesOne E _ hr n q e5 e6 hE hq 42 42 (by decide) (by decide) he) rfl kV_X5_passesOne rfl (by decide) lk_X5_215 (by decide) rfl oX5 (Nat.le_of_ble_eq_true rfl) dX5_passesNumbers_58 rfl (fun D1 hD1 => ?_)
      subst hD1
      refine v_if_eq (q := 64) (tgt := 71) hX (by decide) dX5_passesNumbers_61 (by decide) rfl (fun h61 => ?_) (fun h61 => ?_)
      · exact absurd h61 (by decide)
      · refine v_aload_n (q := 65) hX dX5_passesNumbers_64 rfl rfl rfl ?_
        refine w_callVe (q := 68) hX (c_X5_passesNumber (poD E q) _ hr n (q + 1) ((poD_at E q).2.2.1.trans e5) (poD_at E q).2.1 hE (by omega)) rfl kV_X5_passesNumber rfl (by decide) lk_X5_221 (by decide) rfl oX5 (Nat.le_of_ble_eq_true rfl) dX5_passesNumbers_65 rfl (fun D1 hD1 => ?_)
        obtain ⟨F1, rfl, f1, f2⟩ := hD1
        have f0 := (poD_at E q).2.2.2.2
        rw [show (poD E q) 355 = D 355 from eT] at f1 f2
        rw [show (poD E q) 355 = D 355 from eT]
        refine w_ifne (q := 71) (tgt := 73) hX dX5_passesNumbers_68 (by decide) rfl (fun h68 => ?_) (fun h68 => ?_)
        · refine v_aload_n (q := 74) hX dX5_passesNumbers_73 rfl rfl rfl ?_
          refine v_aload_n (q := 75) hX dX5_passesNumbers_74 rfl rfl rfl ?_
          refine w_getI (q := 78) hX fl_X5_212 rfl oX5 dX5_passesNumbers_75 rfl ?_
          rw [xw_at]
          refine w_putI (q := 81) hX fl_X5_227 rfl oX5 dX5_passesNumbers_78 rfl ?_
          rw [xu_xw']
          refine v_iconst (q := 82) hX dX5_passesNumbers_81 rfl ?_
          refine v_ireturn hX hRX rfl (by first | rfl | exact bi_nar _) dX5_passesNumbers_82 rfl ?_
          refine ⟨congrArg (fun e => some (vi e)) ?_, rfl, fu F1 11 (F1 8), xE_3 eA, ?_, ?_, ?_⟩
          · rw [hG]; exact bi1 h68
          · rw [hG]; exact ⟨fun j hj => by rw [fu_ne _ _ _ (by omega), f1.1 j (by omega) (by omega), f0.1 j (by omega) (by omega)]; exact eF.1 j hj, by rw [fu_ne _ _ _ (by decide)]; exact f1.2⟩
          · rw [fu_ne _ _ _ (by decide), f1.1 7 (by decide) (by decide), f0.1 7 (by decide) (by decide)]; exact e7
          · rw [hG]; intro _; rw [fu_ne _ _ _ (by decide), f1.1 9 (by decide) (by decide), f0.1 9 (by decide) (by decide), fu_at, f2 h68]; refine ⟨e9, fun hw => ?_, rfl⟩; rw [fu_ne _ _ _ (by decide), f1.1 10 (by decide) (by decide), f0.1 10 (by decide) (by decide)]; exact e10 hw
        · refine v_iconst (q := 72) hX dX5_passesNumbers_71 rfl ?_
          refine v_ireturn hX hRX rfl (by first | rfl | exact bi_nar _) dX5_passesNumbers_72 rfl ?_
          refine ⟨congrArg (fun e => some (vi e)) ?_, rfl, F1, xE_2 eA, ?_, ?_, ?_⟩
          · rw [hG]; exact bi0 h68
          · rw [hG]; exact ⟨fun j hj => by rw [f1.1 j (by omega) (by omega), f0.1 j (by omega) (by omega)]; exact eF.1 j hj, f1.2⟩
          · rw [f1.1 7 (by decide) (by decide), f0.1 7 (by decide) (by decide)]; exact e7
          · rw [hG]; intro h; exact absurd h h68
    · rw [tSig_no he] at hG
      rw [← eT] at he
      refine v_aload_n (q := 54) hX dX5_passesNumbers_53 rfl rfl rfl ?_
      refine v_bipush (q := 56) hX (by decide) dX5_passesNumbers_54 rfl ?_
      refine v_bipush (q := 58) hX (by decide) dX5_passesNumbers_56 rfl ?_
      refine w_callV (q := 61) hX (c_X5_passesOne0 E _ hr n q e5 e6 hE hq 42 42 (by decide) (by decide) he) rfl kV_X5_passesOne rfl (by decide) lk_X5_215 (by decide) rfl oX5 (Nat.le_of_ble_eq_true rfl) dX5_passesNumbers_58 rfl ?_
      refine v_if_eq (q := 64) (tgt := 71) hX (by decide) dX5_passesNumbers_61 (by decide) rfl (fun h61 => ?_) (fun h61 => ?_)
      · refine v_iconst (q := 72) hX dX5_passesNumbers_71 rfl ?_
        refine v_ireturn hX hRX rfl (by first | rfl | exact bi_nar _) dX5_passesNumbers_72 rfl ?_
        refine ⟨congrArg (fun e => some (vi e)) ?_, rfl, E 351, xE_self eA, ?_, ?_, ?_⟩
        · rw [hG]; rfl
        · rw [hG]; exact eF
        · exact e7
        · rw [hG]; intro h; cases h
      · exact absurd h61 (by decide)
  by_cases he : p < n ∧ 48 ≤ D 355 p ∧ D 355 p ≤ 57
  · have q2 := hT.1
    have f0 := (poD_at D p).2.2.2.2
    -- behind the digit
    have E0A : ∀ a, a ≠ 351 → xw D 351 (fu (poD D p 351) 9 (D 355 p - 48)) a = D a := fun a ha => xw_ne _ _ _ ha
    have g5' : xw D 351 (fu (poD D p 351) 9 (D 355 p - 48)) 351 5 = (n : Int) := by rw [xw_at, fu_ne _ _ _ (by decide), (poD_at D p).2.2.1]; exact g5
    have g6' : xw D 351 (fu (poD D p 351) 9 (D 355 p - 48)) 351 6 = ((p + 1 : Nat) : Int) := by rw [xw_at, fu_ne _ _ _ (by decide)]; exact (poD_at D p).2.1
    have g7' : xw D 351 (fu (poD D p 351) 9 (D 355 p - 48)) 351 7 = D 351 7 := by rw [xw_at, fu_ne _ _ _ (by decide)]; exact f0.1 7 (by decide) (by decide)
    have g9' : xw D 351 (fu (poD D p 351) 9 (D 355 p - 48)) 351 9 = D 355 p - 48 := by rw [xw_at, fu_at]
    have gF : scw (D 351) (xw D 351 (fu (poD D p 351) 9 (D 355 p - 48)) 351) (p + 1) := ⟨fun j hj => by rw [xw_at, fu_ne _ _ _ (by omega)]; exact f0.1 j (by omega) (by omega), g6'⟩
    generalize hE : xw D 351 (fu (poD D p 351) 9 (D 355 p - 48)) = E at E0A g5' g6' g7' g9' gF
    have eT : E 355 = D 355 := E0A 355 (by decide)
    have hTE : tOk (E 355) n := by rw [eT]; exact hT
    have K21 : xV γ 21 [some (.ref 351), some (vi (bi (week = true)))] [] (356, z) E r := by
      by_cases hwk : week = true
      · by_cases h64' : p + 1 < n ∧ 64 ≤ D 355 (p + 1) ∧ D 355 (p + 1) ≤ 64
        · have h64 := h64'
          rw [← eT] at h64
          refine v_iload_n (q := 22) hX dX5_passesNumbers_21 rfl rfl rfl ?_
          refine w_ifeq (q := 25) (tgt := 53) hX dX5_passesNumbers_22 (by decide) rfl (fun h22 => ?_) (fun h22 => ?_)
          · exact absurd hwk h22
          · refine v_aload_n (q := 26) hX dX5_passesNumbers_25 rfl rfl rfl ?_
            refine v_bipush (q := 28) hX (by decide) dX5_passesNumbers_26 rfl ?_
            refine v_bipush (q := 30) hX (by decide) dX5_passesNumbers_28 rfl ?_
            refine w_callVe (q := 33) hX (c_X5_passesOne E _ hr n (p + 1) g5' g6' hTE (by omega) 64 64 (by decide) (by decide) h64) rfl kV_X5_passesOne rfl (by decide) lk_X5_215 (by decide) rfl oX5 (Nat.le_of_ble_eq_true rfl) dX5_passesNumbers_30 rfl (fun D1 hD1 => ?_)
            subst hD1
            refine v_if_eq (q := 36) (tgt := 43) hX (by decide) dX5_passesNumbers_33 (by decide) rfl (fun h33 => ?_) (fun h33 => ?_)
            · exact absurd h33 (by decide)
            · refine v_aload_n (q := 37) hX dX5_passesNumbers_36 rfl rfl rfl ?_
              refine w_callVe (q := 40) hX (c_X5_passesNumber (poD E (p + 1)) _ hr n (p + 1 + 1) ((poD_at E (p + 1)).2.2.1.trans g5') (poD_at E (p + 1)).2.1 hTE (by omega)) rfl kV_X5_passesNumber rfl (by decide) lk_X5_221 (by decide) rfl oX5 (Nat.le_of_ble_eq_true rfl) dX5_passesNumbers_37 rfl (fun D1 hD1 => ?_)
              obtain ⟨F1, rfl, f1, f2⟩ := hD1
              have f9 := (poD_at E (p + 1)).2.2.2.2
              rw [show (poD E (p + 1)) 355 = D 355 from eT] at f1 f2
              rw [show (poD E (p + 1)) 355 = D 355 from eT]
              refine w_ifne (q := 43) (tgt := 45) hX dX5_passesNumbers_40 (by decide) rfl (fun h40 => ?_) (fun h40 => ?_)
              · refine v_aload_n (q := 46) hX dX5_passesNumbers_45 rfl rfl rfl ?_
                refine v_aload_n (q := 47) hX dX5_passesNumbers_46 rfl rfl rfl ?_
                refine w_getI (q := 50) hX fl_X5_212 rfl oX5 dX5_passesNumbers_47 rfl ?_
                rw [xw_at]
                refine w_putI (q := 53) hX fl_X5_224 rfl oX5 dX5_passesNumbers_50 rfl ?_
                have hG : tNums (D 355) n p week = ((tSig (D 355) n (tNum (D 355) n (p + 1 + 1)).2.2 42).1, (D 355 p - 48, (tNum (D 355) n (p + 1 + 1)).2.1, (tSig (D 355) n (tNum (D 355) n (p + 1 + 1)).2.2 42).2.1), (tSig (D 355) n (tNum (D 355) n (p + 1 + 1)).2.2 42).2.2) := by
                  rw [tNums, if_pos he, if_pos h22, tSig_yes h64', if_pos h40]
                rw [xu_xw', xE_2 E0A]
                exact K _ _ _ _ (tNum_le (D 355) n (p + 1 + 1) (by omega)).2 (by rw [xw_at, fu_ne _ _ _ (by decide), f1.1 5 (by decide) (by decide), f9.1 5 (by decide) (by decide)]; exact g5') (by rw [xw_at, fu_ne _ _ _ (by decide)]; exact f1.2) rfl (fun a ha => xw_ne _ _ _ ha) ⟨fun j hj => by rw [xw_at, fu_ne _ _ _ (by omega), f1.1 j (by omega) (by omega), f9.1 j (by omega) (by omega)]; exact gF.1 j hj, by rw [xw_at, fu_ne _ _ _ (by decide)]; exact f1.2⟩ (by rw [xw_at, fu_ne _ _ _ (by decide), f1.1 7 (by decide) (by decide), f9.1 7 (by decide) (by decide)]; exact g7') (by rw [xw_at, fu_ne _ _ _ (by decide), f1.1 9 (by decide) (by decide), f9.1 9 (by decide) (by decide)]; exact g9') (fun _ => by rw [xw_at, fu_at]; exact f2 h40) hG
              · refine v_iconst (q := 44) hX dX5_passesNumbers_43 rfl ?_
                refine v_ireturn hX hRX rfl (by first | rfl | exact bi_nar _) dX5_passesNumbers_44 rfl ?_
                have hG : tNums (D 355) n p week = (false, (0, 0, 0), (tNum (D 355) n (p + 1 + 1)).2.2) := by
                  rw [tNums, if_pos he, if_pos h22, tSig_yes h64', if_neg h40]
                refine ⟨congrArg (fun e => some (vi e)) ?_, rfl, F1, xE_2 E0A, ?_, ?_, ?_⟩
                · rw [hG]; rfl
                · rw [hG]; exact ⟨fun j hj => by rw [f1.1 j (by omega) (by omega), f9.1 j (by omega) (by omega)]; exact gF.1 j hj, f1.2⟩
                · rw [f1.1 7 (by decide) (by decide), f9.1 7 (by decide) (by decide)]; exact g7'
                · rw [hG]; intro h; cases h
        · have h64 := h64'
          rw [← eT] at h64
          refine v_iload_n (q := 22) hX dX5_passesNumbers_21 rfl rfl rfl ?_
          refine w_ifeq (q := 25) (tgt := 53) hX dX5_passesNumbers_22 (by decide) rfl (fun h22 => ?_) (fun h22 => ?_)
          · exact absurd hwk h22
          · refine v_aload_n (q := 26) hX dX5_passesNumbers_25 rfl rfl rfl ?_
            refine v_bipush (q := 28) hX (by decide) dX5_passesNumbers_26 rfl ?_
            refine v_bipush (q := 30) hX (by decide) dX5_passesNumbers_28 rfl ?_
            refine w_callV (q := 33) hX (c_X5_passesOne0 E _ hr n (p + 1) g5' g6' hTE (by omega) 64 64 (by decide) (by decide) h64) rfl kV_X5_passesOne rfl (by decide) lk_X5_215 (by decide) rfl oX5 (Nat.le_of_ble_eq_true rfl) dX5_passesNumbers_30 rfl ?_
            refine v_if_eq (q := 36) (tgt := 43) hX (by decide) dX5_passesNumbers_33 (by decide) rfl (fun h33 => ?_) (fun h33 => ?_)
            · refine v_iconst (q := 44) hX dX5_passesNumbers_43 rfl ?_
              refine v_ireturn hX hRX rfl (by first | rfl | exact bi_nar _) dX5_passesNumbers_44 rfl ?_
              have hG : tNums (D 355) n p week = (false, (0, 0, 0), p + 1) := by
                rw [tNums, if_pos he, if_pos h22, tSig_no h64', if_neg (fun h => by cases h)]
              refine ⟨congrArg (fun e => some (vi e)) ?_, rfl, E 351, xE_self E0A, ?_, g7', ?_⟩
              · rw [hG]; rfl
              · rw [hG]; exact gF
              · rw [hG]; intro h; cases h
            · exact absurd h33 (by decide)
      · refine v_iload_n (q := 22) hX dX5_passesNumbers_21 rfl rfl rfl ?_
        refine w_ifeq (q := 25) (tgt := 53) hX dX5_passesNumbers_22 (by decide) rfl (fun h22 => ?_) (fun h22 => ?_)
        · exact K (p + 1) E _ 0 (by omega) g5' g6' eT E0A gF g7' g9' (fun h => absurd h hwk) (by rw [tNums, if_pos he, if_neg hwk])
        · exact absurd h22 hwk
    refine v_aload_n (q := 1) hX dX5_passesNumbers_0 rfl rfl rfl ?_
    refine v_bipush (q := 3) hX (by decide) dX5_passesNumbers_1 rfl ?_
    refine v_bipush (q := 5) hX (by decide) dX5_passesNumbers_3 rfl ?_
    refine w_callVe (q := 8) hX (c_X5_passesOne _ _ hr n p g5 g6 hT gp 48 57 (by decide) (by decide) he) rfl kV_X5_passesOne rfl (by decide) lk_X5_215 (by decide) rfl oX5 (Nat.le_of_ble_eq_true rfl) dX5_passesNumbers_5 rfl (fun D1 hD1 => ?_)
    subst hD1
    refine v_if_ne (q := 11) (tgt := 13) hX (by decide) dX5_passesNumbers_8 (by decide) rfl (fun h8 => ?_) (fun h8 => ?_)
    · refine v_aload_n (q := 14) hX dX5_passesNumbers_13 rfl rfl rfl ?_
      refine v_aload_n (q := 15) hX dX5_passesNumbers_14 rfl rfl rfl ?_
      refine w_getI (q := 18) hX fl_X5_212 rfl oX5 dX5_passesNumbers_15 rfl ?_
      rw [(poD_at D p).1]
      refine w_putI (q := 21) hX fl_X5_218 rfl oX5 dX5_passesNumbers_18 rfl ?_
      have e0 : xu (poD D p) 351 9 (D 355 p - 48) = E := by
        rw [← hE, xu_xw]; unfold poD; rw [xw_xw, xw_at]
      rw [e0]
      exact K21
    · exact absurd h8 (by decide)
  · refine v_aload_n (q := 1) hX dX5_passesNumbers_0 rfl rfl rfl ?_
    refine v_bipush (q := 3) hX (by decide) dX5_passesNumbers_1 rfl ?_
    refine v_bipush (q := 5) hX (by decide) dX5_passesNumbers_3 rfl ?_
    refine w_callV (q := 8) hX (c_X5_passesOne0 _ _ hr n p g5 g6 hT gp 48 57 (by decide) (by decide) he) rfl kV_X5_passesOne rfl (by decide) lk_X5_215 (by decide) rfl oX5 (Nat.le_of_ble_eq_true rfl) dX5_passesNumbers_5 rfl ?_
    refine v_if_ne (q := 11) (tgt := 13) hX (by decide) dX5_passesNumbers_8 (by decide) rfl (fun h8 => ?_) (fun h8 => ?_)
    · exact absurd h8 (by decide)
    · refine v_iconst (q := 12) hX dX5_passesNumbers_11 rfl ?_
      refine v_ireturn hX hRX rfl (by first | rfl | exact bi_nar _) dX5_passesNumbers_12 rfl ?_
      refine ⟨congrArg (fun e => some (vi e)) ?_, rfl, D 351, (xw_self D 351).symm, ?_, rfl, ?_⟩
      · rw [tNums, if_neg he]; rfl
      · rw [tNums, if_neg he]; exact ⟨fun _ _ => rfl, g6⟩
      · rw [tNums, if_neg he]; intro h; cases h

