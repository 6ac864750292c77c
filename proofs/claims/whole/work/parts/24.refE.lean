/-- what the reader has read, where it is an act -/
def rdOk (F : Nat → Int) (a : Int × Int × Int × Int) : Prop := F 7 = a.1 ∧ (a.1 = 110 → F 9 = a.2.1) ∧ (a.1 = 102 ∨ a.1 = 97 ∨ a.1 = 108 → F 9 = a.2.1 ∧ F 11 = a.2.2.2) ∧ (a.1 = 102 ∨ a.1 = 108 → F 10 = a.2.2.1)
theorem xE_5 {D E : xD} {F : Nat → Int} (h : ∀ a, a ≠ 351 → E a = D a) : xw E 351 F = xw D 351 F := by
  funext a
  by_cases ha : a = 351
  · rw [ha, xw_at, xw_at]
  · rw [xw_ne _ _ _ ha, xw_ne _ _ _ ha]; exact h a ha
theorem bi_ok {b c : Bool} (h : b = c) : bi (b = true) = bi (c = true) := by rw [h]
set_option maxRecDepth 100000 in
set_option maxHeartbeats 4000000 in
theorem c_X5_passesAct {z : Nat} (D : xD) (r : xR) (hr : xRM r) (n p : Nat) (g5 : D 351 5 = (n : Int)) (g6 : D 351 6 = (p : Int)) (hT : tOk (D 355) n) (gp : p ≤ n) : MX 5 mX5_passesAct [.ref 351] (356, z) D r (356, z) (xEs (vi (bi ((tAct (D 355) n p).1 = true))) (fun D' => ∃ F', D' = xw D 351 F' ∧ scw (D 351) F' (tAct (D 355) n p).2.2 ∧ ((tAct (D 355) n p).1 = true → rdOk F' (tAct (D 355) n p).2.1)) r) := by
  refine MX.of (by decide +kernel) [some (.ref 351), none] rfl (Nat.le_of_ble_eq_true rfl) ?_
  intro γ hX hRX
  have q2 := hT.1
  have hch : tCh (D 355) n p = 0 ∨ (33 ≤ tCh (D 355) n p ∧ tCh (D 355) n p ≤ 126) := by
    unfold tCh
    split
    · exact Or.inr (hT.2 p (by assumption))
    · exact Or.inl rfl
  generalize hkd : tCh (D 355) n p = kd at hch
  have EA : ∀ a, a ≠ 351 → xw D 351 (fu (D 351) 7 kd) a = D a := fun a ha => xw_ne _ _ _ ha
  have e7 : xw D 351 (fu (D 351) 7 kd) 351 7 = kd := by rw [xw_at, fu_at]
  have e5 : xw D 351 (fu (D 351) 7 kd) 351 5 = (n : Int) := by rw [xw_at, fu_ne _ _ _ (by decide)]; exact g5
  have e6 : xw D 351 (fu (D 351) 7 kd) 351 6 = (p : Int) := by rw [xw_at, fu_ne _ _ _ (by decide)]; exact g6
  have eF : scw (D 351) (xw D 351 (fu (D 351) 7 kd) 351) p := ⟨fun j hj => by rw [xw_at, fu_ne _ _ _ (by omega)], e6⟩
  generalize hE : xw D 351 (fu (D 351) 7 kd) = E at EA e7 e5 e6 eF
  have eT : E 355 = D 355 := EA 355 (by decide)
  -- one further on
  have K75 : kd = 102 ∨ kd = 97 ∨ kd = 108 ∨ kd = 112 ∨ kd = 110 → xV γ 75 [some (.ref 351), none] [] (356, z) E r := by
    intro hk
    have hp2 : p < n := tCh_ne hkd (by omega)
    have EA2 : ∀ a, a ≠ 351 → xw E 351 (fu (E 351) 6 ((p + 1 : Nat) : Int)) a = D a := xE_4 EA
    have k7 : xw E 351 (fu (E 351) 6 ((p + 1 : Nat) : Int)) 351 7 = kd := by rw [xw_at, fu_ne _ _ _ (by decide)]; exact e7
    have k5 : xw E 351 (fu (E 351) 6 ((p + 1 : Nat) : Int)) 351 5 = (n : Int) := by rw [xw_at, fu_ne _ _ _ (by decide)]; exact e5
    have k6 : xw E 351 (fu (E 351) 6 ((p + 1 : Nat) : Int)) 351 6 = ((p + 1 : Nat) : Int) := by rw [xw_at, fu_at]
    have kF : scw (D 351) (xw E 351 (fu (E 351) 6 ((p + 1 : Nat) : Int)) 351) (p + 1) := ⟨fun j hj => by rw [xw_at, fu_ne _ _ _ (by omega)]; exact eF.1 j hj, k6⟩
    have hG0 : xu E 351 6 ((p : Int) + 1) = xw E 351 (fu (E 351) 6 ((p + 1 : Nat) : Int)) := xu_xw _ _ _ _
    generalize hG : xw E 351 (fu (E 351) 6 ((p + 1 : Nat) : Int)) = G at EA2 k7 k5 k6 kF hG0
    have gT : G 355 = D 355 := EA2 355 (by decide)
    have hTG : tOk (G 355) n := by rw [gT]; exact hT
    by_cases h9 : kd = 110
    · refine v_aload_n (q := 76) hX dX5_passesAct_75 rfl rfl rfl ?_
      refine v_dup (q := 77) hX rfl dX5_passesAct_76 rfl ?_
      refine w_getI (q := 80) hX fl_X5_206 rfl oX5 dX5_passesAct_77 rfl ?_
      rw [e6]
      refine v_iconst (q := 81) hX dX5_passesAct_80 rfl ?_
      refine v_iadd (q := 82) hX dX5_passesAct_81 rfl ?_
      refine w_putI (q := 85) hX fl_X5_206 rfl oX5 dX5_passesAct_82 rfl ?_
      rw [hG0]
      refine v_aload_n (q := 86) hX dX5_passesAct_85 rfl rfl rfl ?_
      refine w_getI (q := 89) hX fl_X5_230 rfl oX5 dX5_passesAct_86 rfl ?_
      rw [k7]
      refine v_bipush (q := 91) hX (by decide) dX5_passesAct_89 rfl ?_
      refine v_icmp_ne (q := 94) (tgt := 109) hX ⟨by omega, by omega⟩ (by decide) dX5_passesAct_91 (by decide) rfl (fun h91 => ?_) (fun h91 => ?_)
      · exact absurd h9 h91
      · refine v_aload_n (q := 95) hX dX5_passesAct_94 rfl rfl rfl ?_
        refine w_callVe (q := 98) hX (c_X5_passesNumber G _ hr n (p + 1) k5 k6 hTG (by omega)) rfl kV_X5_passesNumber rfl (by decide) lk_X5_221 (by decide) rfl oX5 (Nat.le_of_ble_eq_true rfl) dX5_passesAct_95 rfl (fun D1 hD1 => ?_)
        obtain ⟨F1, rfl, f1, f2⟩ := hD1
        rw [gT] at f1 f2
        rw [gT]
        refine v_istore_n (q := 99) hX dX5_passesAct_98 rfl (Nat.le_of_ble_eq_true rfl) (Nat.le_of_ble_eq_true rfl) rfl ?_
        dsimp only [xs1, xs2, xclr]
        refine v_aload_n (q := 100) hX dX5_passesAct_99 rfl rfl rfl ?_
        refine v_aload_n (q := 101) hX dX5_passesAct_100 rfl rfl rfl ?_
        refine w_getI (q := 104) hX fl_X5_212 rfl oX5 dX5_passesAct_101 rfl ?_
        rw [xw_at]
        refine w_putI (q := 107) hX fl_X5_218 rfl oX5 dX5_passesAct_104 rfl ?_
        rw [xu_xw']
        refine v_iload_n (q := 108) hX dX5_passesAct_107 rfl rfl rfl ?_
        refine v_ireturn hX hRX rfl (by first | rfl | exact bi_nar _) dX5_passesAct_108 rfl ?_
        have hA : tAct (D 355) n p = ((tNum (D 355) n (p + 1)).1, (110, (tNum (D 355) n (p + 1)).2.1, 0, 0), (tNum (D 355) n (p + 1)).2.2) := by
          rw [tAct, hkd, if_pos h9]
        refine ⟨congrArg (fun e => some (vi e)) ?_, rfl, fu F1 9 (F1 8), xE_5 EA2, ?_, ?_⟩
        · rw [hA]
        · rw [hA]; exact ⟨fun j hj => by rw [fu_ne _ _ _ (by omega), f1.1 j (by omega) (by omega)]; exact kF.1 j hj, by rw [fu_ne _ _ _ (by decide)]; exact f1.2⟩
        · rw [hA]; intro hok; exact ⟨by rw [fu_ne _ _ _ (by decide), f1.1 7 (by decide) (by decide), k7]; exact h9, fun _ => by rw [fu_at]; exact f2 hok, fun h => absurd h (show ¬ ((110 : Int) = 102 ∨ (110 : Int) = 97 ∨ (110 : Int) = 108) by decide), fun h => absurd h (show ¬ ((110 : Int) = 102 ∨ (110 : Int) = 108) by decide)⟩
    · by_cases h8 : kd = 112
      · refine v_aload_n (q := 76) hX dX5_passesAct_75 rfl rfl rfl ?_
        refine v_dup (q := 77) hX rfl dX5_passesAct_76 rfl ?_
        refine w_getI (q := 80) hX fl_X5_206 rfl oX5 dX5_passesAct_77 rfl ?_
        rw [e6]
        refine v_iconst (q := 81) hX dX5_passesAct_80 rfl ?_
        refine v_iadd (q := 82) hX dX5_passesAct_81 rfl ?_
        refine w_putI (q := 85) hX fl_X5_206 rfl oX5 dX5_passesAct_82 rfl ?_
        rw [hG0]
        refine v_aload_n (q := 86) hX dX5_passesAct_85 rfl rfl rfl ?_
        refine w_getI (q := 89) hX fl_X5_230 rfl oX5 dX5_passesAct_86 rfl ?_
        rw [k7]
        refine v_bipush (q := 91) hX (by decide) dX5_passesAct_89 rfl ?_
        refine v_icmp_ne (q := 94) (tgt := 109) hX ⟨by omega, by omega⟩ (by decide) dX5_passesAct_91 (by decide) rfl (fun h91 => ?_) (fun h91 => ?_)
        · refine v_aload_n (q := 110) hX dX5_passesAct_109 rfl rfl rfl ?_
          refine w_getI (q := 113) hX fl_X5_230 rfl oX5 dX5_passesAct_110 rfl ?_
          rw [k7]
          refine v_bipush (q := 115) hX (by decide) dX5_passesAct_113 rfl ?_
          refine v_icmp_eq (q := 118) (tgt := 139) hX ⟨by omega, by omega⟩ (by decide) dX5_passesAct_115 (by decide) rfl (fun h115 => ?_) (fun h115 => ?_)
          · refine v_iconst (q := 140) hX dX5_passesAct_139 rfl ?_
            refine v_goto (tgt := 144) hX dX5_passesAct_140 (by decide) ?_
            refine v_ireturn hX hRX rfl (by first | rfl | exact bi_nar _) dX5_passesAct_144 rfl ?_
            have hA : tAct (D 355) n p = (true, (112, 0, 0, 0), p + 1) := by
              rw [tAct, hkd, if_neg h9, if_pos h8]
            refine ⟨congrArg (fun e => some (vi e)) ?_, rfl, G 351, xE_self EA2, ?_, ?_⟩
            · rw [hA]; rfl
            · rw [hA]; exact kF
            · rw [hA]; intro _; exact ⟨k7.trans h8, fun h => absurd h (show ¬ ((112 : Int) = 110) by decide), fun h => absurd h (show ¬ ((112 : Int) = 102 ∨ (112 : Int) = 97 ∨ (112 : Int) = 108) by decide), fun h => absurd h (show ¬ ((112 : Int) = 102 ∨ (112 : Int) = 108) by decide)⟩
          · exact absurd h8 h115
        · exact absurd h91 h9
      · by_cases h7 : kd = 97
        · refine v_aload_n (q := 76) hX dX5_passesAct_75 rfl rfl rfl ?_
          refine v_dup (q := 77) hX rfl dX5_passesAct_76 rfl ?_
          refine w_getI (q := 80) hX fl_X5_206 rfl oX5 dX5_passesAct_77 rfl ?_
          rw [e6]
          refine v_iconst (q := 81) hX dX5_passesAct_80 rfl ?_
          refine v_iadd (q := 82) hX dX5_passesAct_81 rfl ?_
          refine w_putI (q := 85) hX fl_X5_206 rfl oX5 dX5_passesAct_82 rfl ?_
          rw [hG0]
          refine v_aload_n (q := 86) hX dX5_passesAct_85 rfl rfl rfl ?_
          refine w_getI (q := 89) hX fl_X5_230 rfl oX5 dX5_passesAct_86 rfl ?_
          rw [k7]
          refine v_bipush (q := 91) hX (by decide) dX5_passesAct_89 rfl ?_
          refine v_icmp_ne (q := 94) (tgt := 109) hX ⟨by omega, by omega⟩ (by decide) dX5_passesAct_91 (by decide) rfl (fun h91 => ?_) (fun h91 => ?_)
          · refine v_aload_n (q := 110) hX dX5_passesAct_109 rfl rfl rfl ?_
            refine w_getI (q := 113) hX fl_X5_230 rfl oX5 dX5_passesAct_110 rfl ?_
            rw [k7]
            refine v_bipush (q := 115) hX (by decide) dX5_passesAct_113 rfl ?_
            refine v_icmp_eq (q := 118) (tgt := 139) hX ⟨by omega, by omega⟩ (by decide) dX5_passesAct_115 (by decide) rfl (fun h115 => ?_) (fun h115 => ?_)
            · exact absurd h115 h8
            · refine v_aload_n (q := 119) hX dX5_passesAct_118 rfl rfl rfl ?_
              refine v_aload_n (q := 120) hX dX5_passesAct_119 rfl rfl rfl ?_
              refine w_getI (q := 123) hX fl_X5_230 rfl oX5 dX5_passesAct_120 rfl ?_
              rw [k7]
              refine v_bipush (q := 125) hX (by decide) dX5_passesAct_123 rfl ?_
              refine v_icmp_eq (q := 128) (tgt := 132) hX ⟨by omega, by omega⟩ (by decide) dX5_passesAct_125 (by decide) rfl (fun h125 => ?_) (fun h125 => ?_)
              · refine v_iconst (q := 133) hX dX5_passesAct_132 rfl ?_
                refine w_callVe (q := 136) hX (c_X5_passesNumbers G _ hr n (p + 1) k5 k6 hTG (by omega) false) rfl kV_X5_passesNumbers rfl (by decide) lk_X5_233 (by decide) rfl oX5 (Nat.le_of_ble_eq_true rfl) dX5_passesAct_133 rfl (fun D1 hD1 => ?_)
                obtain ⟨F1, rfl, f1, f7, f2⟩ := hD1
                rw [gT] at f1 f2
                rw [gT]
                refine w_ifeq (q := 139) (tgt := 143) hX dX5_passesAct_136 (by decide) rfl (fun h136 => ?_) (fun h136 => ?_)
                · refine v_iconst (q := 144) hX dX5_passesAct_143 rfl ?_
                  refine v_ireturn hX hRX rfl (by first | rfl | exact bi_nar _) dX5_passesAct_144 rfl ?_
                  have hA : tAct (D 355) n p = ((tNums (D 355) n (p + 1) false).1, (kd, (tNums (D 355) n (p + 1) false).2.1), (tNums (D 355) n (p + 1) false).2.2) := by
                    rw [tAct, hkd, if_neg (by omega), if_neg (by omega), if_pos (by omega), show decide (kd ≠ 97) = false from decide_eq_false (fun h => h h7)]
                  refine ⟨congrArg (fun e => some (vi e)) ?_, rfl, F1, xE_5 EA2, ?_, ?_⟩
                  · rw [hA]; first | exact bi1 h136 | exact bi0 h136
                  · rw [hA]; exact ⟨fun j hj => by rw [f1.1 j hj]; exact kF.1 j hj, f1.2⟩
                  · rw [hA]; intro hok; first | exact absurd hok h136 | (have f3 := f2 hok; exact ⟨f7.trans k7, fun h => absurd h (by show ¬ kd = 110; omega), fun _ => ⟨f3.1, f3.2.2⟩, fun h => f3.2.1 (absurd h (by show ¬ (kd = 102 ∨ kd = 108); omega))⟩)
                · refine v_iconst (q := 140) hX dX5_passesAct_139 rfl ?_
                  refine v_goto (tgt := 144) hX dX5_passesAct_140 (by decide) ?_
                  refine v_ireturn hX hRX rfl (by first | rfl | exact bi_nar _) dX5_passesAct_144 rfl ?_
                  have hA : tAct (D 355) n p = ((tNums (D 355) n (p + 1) false).1, (kd, (tNums (D 355) n (p + 1) false).2.1), (tNums (D 355) n (p + 1) false).2.2) := by
                    rw [tAct, hkd, if_neg (by omega), if_neg (by omega), if_pos (by omega), show decide (kd ≠ 97) = false from decide_eq_false (fun h => h h7)]
                  refine ⟨congrArg (fun e => some (vi e)) ?_, rfl, F1, xE_5 EA2, ?_, ?_⟩
                  · rw [hA]; first | exact bi1 h136 | exact bi0 h136
                  · rw [hA]; exact ⟨fun j hj => by rw [f1.1 j hj]; exact kF.1 j hj, f1.2⟩
                  · rw [hA]; intro hok; first | exact absurd hok h136 | (have f3 := f2 hok; exact ⟨f7.trans k7, fun h => absurd h (by show ¬ kd = 110; omega), fun _ => ⟨f3.1, f3.2.2⟩, fun h => f3.2.1 (absurd h (by show ¬ (kd = 102 ∨ kd = 108); omega))⟩)
              · exact absurd h7 h125
          · exact absurd h91 h9
        · refine v_aload_n (q := 76) hX dX5_passesAct_75 rfl rfl rfl ?_
          refine v_dup (q := 77) hX rfl dX5_passesAct_76 rfl ?_
          refine w_getI (q := 80) hX fl_X5_206 rfl oX5 dX5_passesAct_77 rfl ?_
          rw [e6]
          refine v_iconst (q := 81) hX dX5_passesAct_80 rfl ?_
          refine v_iadd (q := 82) hX dX5_passesAct_81 rfl ?_
          refine w_putI (q := 85) hX fl_X5_206 rfl oX5 dX5_passesAct_82 rfl ?_
          rw [hG0]
          refine v_aload_n (q := 86) hX dX5_passesAct_85 rfl rfl rfl ?_
          refine w_getI (q := 89) hX fl_X5_230 rfl oX5 dX5_passesAct_86 rfl ?_
          rw [k7]
          refine v_bipush (q := 91) hX (by decide) dX5_passesAct_89 rfl ?_
          refine v_icmp_ne (q := 94) (tgt := 109) hX ⟨by omega, by omega⟩ (by decide) dX5_passesAct_91 (by decide) rfl (fun h91 => ?_) (fun h91 => ?_)
          · refine v_aload_n (q := 110) hX dX5_passesAct_109 rfl rfl rfl ?_
            refine w_getI (q := 113) hX fl_X5_230 rfl oX5 dX5_passesAct_110 rfl ?_
            rw [k7]
            refine v_bipush (q := 115) hX (by decide) dX5_passesAct_113 rfl ?_
            refine v_icmp_eq (q := 118) (tgt := 139) hX ⟨by omega, by omega⟩ (by decide) dX5_passesAct_115 (by decide) rfl (fun h115 => ?_) (fun h115 => ?_)
            · exact absurd h115 h8
            · refine v_aload_n (q := 119) hX dX5_passesAct_118 rfl rfl rfl ?_
              refine v_aload_n (q := 120) hX dX5_passesAct_119 rfl rfl rfl ?_
              refine w_getI (q := 123) hX fl_X5_230 rfl oX5 dX5_passesAct_120 rfl ?_
              rw [k7]
              refine v_bipush (q := 125) hX (by decide) dX5_passesAct_123 rfl ?_
              refine v_icmp_eq (q := 128) (tgt := 132) hX ⟨by omega, by omega⟩ (by decide) dX5_passesAct_125 (by decide) rfl (fun h125 => ?_) (fun h125 => ?_)
              · exact absurd h125 h7
              · refine v_iconst (q := 129) hX dX5_passesAct_128 rfl ?_
                refine v_goto (tgt := 133) hX dX5_passesAct_129 (by decide) ?_
                refine w_callVe (q := 136) hX (c_X5_passesNumbers G _ hr n (p + 1) k5 k6 hTG (by omega) true) rfl kV_X5_passesNumbers rfl (by decide) lk_X5_233 (by decide) rfl oX5 (Nat.le_of_ble_eq_true rfl) dX5_passesAct_133 rfl (fun D1 hD1 => ?_)
                obtain ⟨F1, rfl, f1, f7, f2⟩ := hD1
                rw [gT] at f1 f2
                rw [gT]
                refine w_ifeq (q := 139) (tgt := 143) hX dX5_passesAct_136 (by decide) rfl (fun h136 => ?_) (fun h136 => ?_)
                · refine v_iconst (q := 144) hX dX5_passesAct_143 rfl ?_
                  refine v_ireturn hX hRX rfl (by first | rfl | exact bi_nar _) dX5_passesAct_144 rfl ?_
                  have hA : tAct (D 355) n p = ((tNums (D 355) n (p + 1) true).1, (kd, (tNums (D 355) n (p + 1) true).2.1), (tNums (D 355) n (p + 1) true).2.2) := by
                    rw [tAct, hkd, if_neg (by omega), if_neg (by omega), if_pos (by omega), show decide (kd ≠ 97) = true from decide_eq_true h7]
                  refine ⟨congrArg (fun e => some (vi e)) ?_, rfl, F1, xE_5 EA2, ?_, ?_⟩
                  · rw [hA]; first | exact bi1 h136 | exact bi0 h136
                  · rw [hA]; exact ⟨fun j hj => by rw [f1.1 j hj]; exact kF.1 j hj, f1.2⟩
                  · rw [hA]; intro hok; first | exact absurd hok h136 | (have f3 := f2 hok; exact ⟨f7.trans k7, fun h => absurd h (by show ¬ kd = 110; omega), fun _ => ⟨f3.1, f3.2.2⟩, fun h => f3.2.1 (rfl)⟩)
                · refine v_iconst (q := 140) hX dX5_passesAct_139 rfl ?_
                  refine v_goto (tgt := 144) hX dX5_passesAct_140 (by decide) ?_
                  refine v_ireturn hX hRX rfl (by first | rfl | exact bi_nar _) dX5_passesAct_144 rfl ?_
                  have hA : tAct (D 355) n p = ((tNums (D 355) n (p + 1) true).1, (kd, (tNums (D 355) n (p + 1) true).2.1), (tNums (D 355) n (p + 1) true).2.2) := by
                    rw [tAct, hkd, if_neg (by omega), if_neg (by omega), if_pos (by omega), show decide (kd ≠ 97) = true from decide_eq_true h7]
                  refine ⟨congrArg (fun e => some (vi e)) ?_, rfl, F1, xE_5 EA2, ?_, ?_⟩
                  · rw [hA]; first | exact bi1 h136 | exact bi0 h136
                  · rw [hA]; exact ⟨fun j hj => by rw [f1.1 j hj]; exact kF.1 j hj, f1.2⟩
                  · rw [hA]; intro hok; first | exact absurd hok h136 | (have f3 := f2 hok; exact ⟨f7.trans k7, fun h => absurd h (by show ¬ kd = 110; omega), fun _ => ⟨f3.1, f3.2.2⟩, fun h => f3.2.1 (rfl)⟩)
          · exact absurd h91 h9
  have K28 : xV γ 28 [some (.ref 351), none] [] (356, z) E r := by
    refine v_aload_n (q := 29) hX dX5_passesAct_28 rfl rfl rfl ?_
    refine w_getI (q := 32) hX fl_X5_230 rfl oX5 dX5_passesAct_29 rfl ?_
    rw [e7]
    refine v_bipush (q := 34) hX (by decide) dX5_passesAct_32 rfl ?_
    refine v_icmp_eq (q := 37) (tgt := 75) hX ⟨by omega, by omega⟩ (by decide) dX5_passesAct_34 (by decide) rfl (fun h34 => ?_) (fun h34 => ?_)
    · exact K75 (by omega)
    · refine v_aload_n (q := 38) hX dX5_passesAct_37 rfl rfl rfl ?_
      refine w_getI (q := 41) hX fl_X5_230 rfl oX5 dX5_passesAct_38 rfl ?_
      rw [e7]
      refine v_bipush (q := 43) hX (by decide) dX5_passesAct_41 rfl ?_
      refine v_icmp_eq (q := 46) (tgt := 75) hX ⟨by omega, by omega⟩ (by decide) dX5_passesAct_43 (by decide) rfl (fun h43 => ?_) (fun h43 => ?_)
      · exact K75 (by omega)
      · refine v_aload_n (q := 47) hX dX5_passesAct_46 rfl rfl rfl ?_
        refine w_getI (q := 50) hX fl_X5_230 rfl oX5 dX5_passesAct_47 rfl ?_
        rw [e7]
        refine v_bipush (q := 52) hX (by decide) dX5_passesAct_50 rfl ?_
        refine v_icmp_eq (q := 55) (tgt := 75) hX ⟨by omega, by omega⟩ (by decide) dX5_passesAct_52 (by decide) rfl (fun h52 => ?_) (fun h52 => ?_)
        · exact K75 (by omega)
        · refine v_aload_n (q := 56) hX dX5_passesAct_55 rfl rfl rfl ?_
          refine w_getI (q := 59) hX fl_X5_230 rfl oX5 dX5_passesAct_56 rfl ?_
          rw [e7]
          refine v_bipush (q := 61) hX (by decide) dX5_passesAct_59 rfl ?_
          refine v_icmp_eq (q := 64) (tgt := 75) hX ⟨by omega, by omega⟩ (by decide) dX5_passesAct_61 (by decide) rfl (fun h61 => ?_) (fun h61 => ?_)
          · exact K75 (by omega)
          · refine v_aload_n (q := 65) hX dX5_passesAct_64 rfl rfl rfl ?_
            refine w_getI (q := 68) hX fl_X5_230 rfl oX5 dX5_passesAct_65 rfl ?_
            rw [e7]
            refine v_bipush (q := 70) hX (by decide) dX5_passesAct_68 rfl ?_
            refine v_icmp_eq (q := 73) (tgt := 75) hX ⟨by omega, by omega⟩ (by decide) dX5_passesAct_70 (by decide) rfl (fun h70 => ?_) (fun h70 => ?_)
            · exact K75 (by omega)
            · refine v_iconst (q := 74) hX dX5_passesAct_73 rfl ?_
              refine v_ireturn hX hRX rfl (by first | rfl | exact bi_nar _) dX5_passesAct_74 rfl ?_
              have hA : tAct (D 355) n p = (false, (0, 0, 0, 0), p) := by
                rw [tAct, hkd, if_neg (by omega), if_neg (by omega), if_neg (by omega)]
              refine ⟨congrArg (fun e => some (vi e)) ?_, rfl, E 351, xE_self EA, ?_, ?_⟩
              · rw [hA]; rfl
              · rw [hA]; exact eF
              · rw [hA]; intro h; cases h
  refine v_aload_n (q := 1) hX dX5_passesAct_0 rfl rfl rfl ?_
  refine v_aload_n (q := 2) hX dX5_passesAct_1 rfl rfl rfl ?_
  refine w_getI (q := 5) hX fl_X5_206 rfl oX5 dX5_passesAct_2 rfl ?_
  rw [g6]
  refine v_aload_n (q := 6) hX dX5_passesAct_5 rfl rfl rfl ?_
  refine w_getI (q := 9) hX fl_X5_188 rfl oX5 dX5_passesAct_6 rfl ?_
  rw [g5]
  refine v_icmp_ge (q := 12) (tgt := 24) hX ⟨by omega, by omega⟩ ⟨by omega, by omega⟩ dX5_passesAct_9 (by decide) rfl (fun h9 => ?_) (fun h9 => ?_)
  · refine v_iconst (q := 25) hX dX5_passesAct_24 rfl ?_
    first | rw [show D 355 p = kd by rw [← hkd, tCh, if_pos (by omega)]] | (rw [show vi 0 = vi kd from by rw [← hkd, tCh, if_neg (by omega)]])
    refine w_putI (q := 28) hX fl_X5_230 rfl oX5 dX5_passesAct_25 rfl ?_
    have e0 : xu D 351 7 kd = E := by rw [xu_xw]; exact hE
    rw [e0]
    exact K28
  · refine v_aload_n (q := 13) hX dX5_passesAct_12 rfl rfl rfl ?_
    refine w_getR (q := 16) hX fl_X5_20 rfl oX5 hr.2.2.2 dX5_passesAct_13 rfl ?_
    refine v_aload_n (q := 17) hX dX5_passesAct_16 rfl rfl rfl ?_
    refine w_getI (q := 20) hX fl_X5_206 rfl oX5 dX5_passesAct_17 rfl ?_
    rw [g6]
    refine w_ild (q := 21) (kk := p) hX (rfl) (by omega) aPad dX5_passesAct_20 rfl ?_
    refine v_goto (tgt := 25) hX dX5_passesAct_21 (by decide) ?_
    first | rw [show D 355 p = kd by rw [← hkd, tCh, if_pos (by omega)]] | (rw [show vi 0 = vi kd from by rw [← hkd, tCh, if_neg (by omega)]])
    refine w_putI (q := 28) hX fl_X5_230 rfl oX5 dX5_passesAct_25 rfl ?_
    have e0 : xu D 351 7 kd = E := by rw [xu_xw]; exact hE
    rw [e0]
    exact K28

/-- the acts from a place on, each behind a ';': the place of a fault, -6: none -/
def tFl (T : Nat → Int) (n : Nat) : Nat → Nat → Int
  | 0, _ => -6
  | m + 1, p => if p < n then (if 59 ≤ T p ∧ T p ≤ 59 then (if (tAct T n (p + 1)).1 = true then tFl T n m (tAct T n (p + 1)).2.2 else ((tAct T n (p + 1)).2.2 : Int)) else (p : Int)) else -6
def tFault (T : Nat → Int) (n : Nat) : Int := if (tAct T n 0).1 = true then tFl T n n (tAct T n 0).2.2 else ((tAct T n 0).2.2 : Int)
def scz (F F' : Nat → Int) : Prop := ∀ j, j < 6 → F' j = F j
set_option maxRecDepth 100000 in
set_option maxHeartbeats 4000000 in
theorem c_X5_fault {z : Nat} (D : xD) (r : xR) (hr : xRM r) (n : Nat) (g5 : D 351 5 = (n : Int)) (hT : tOk (D 355) n) : MX 6 mX5_fault [.ref 351] (356, z) D r (356, z) (xEs (vi (tFault (D 355) n)) (fun D' => ∃ F', D' = xw D 351 F' ∧ scz (D 351) F') r) := by
  refine MX.of (by decide +kernel) [some (.ref 351)] rfl (Nat.le_of_ble_eq_true rfl) ?_
  intro γ hX hRX
  have q2 := hT.1
  have L : ∀ m p (E : xD), n - p ≤ m → p ≤ n → E 351 5 = (n : Int) → E 351 6 = (p : Int) → E 355 = D 355 → scz (D 351) (E 351) → (∀ a, a ≠ 351 → E a = D a) → tFl (D 355) n m p = tFault (D 355) n →
      xV γ 17 [some (.ref 351)] [] (356, z) E r := by
    intro m
    induction m with
    | zero =>
      intro p E hm hp e5 e6 eT eF eA hG
      have m : Nat := 0
      have hG : tFl (D 355) n 0 p = tFault (D 355) n := hG
      refine v_aload_n (q := 18) hX dX5_fault_17 rfl rfl rfl ?_
      refine w_getI (q := 21) hX fl_X5_206 rfl oX5 dX5_fault_18 rfl ?_
      rw [e6]
      refine v_aload_n (q := 22) hX dX5_fault_21 rfl rfl rfl ?_
      refine w_getI (q := 25) hX fl_X5_188 rfl oX5 dX5_fault_22 rfl ?_
      rw [e5]
      refine v_icmp_ge (q := 28) (tgt := 51) hX ⟨by omega, by omega⟩ ⟨by omega, by omega⟩ dX5_fault_25 (by decide) rfl (fun h25 => ?_) (fun h25 => ?_)
      · refine v_bipush (q := 53) hX (by decide) dX5_fault_51 rfl ?_
        refine v_ireturn hX hRX rfl (by first | rfl | exact bi_nar _) dX5_fault_53 rfl ?_
        refine ⟨congrArg (fun e => some (vi e)) ?_, rfl, E 351, xE_self eA, eF⟩
        rw [← hG]; rfl
      · exact absurd h25 (by omega)
    | succ m ih =>
      intro p E hm hp e5 e6 eT eF eA hG
      have hE : tOk (E 355) n := by rw [eT]; exact hT
      by_cases h25n : p < n
      · by_cases he : p < n ∧ 59 ≤ E 355 p ∧ E 355 p ≤ 59
        · refine v_aload_n (q := 18) hX dX5_fault_17 rfl rfl rfl ?_
          refine w_getI (q := 21) hX fl_X5_206 rfl oX5 dX5_fault_18 rfl ?_
          rw [e6]
          refine v_aload_n (q := 22) hX dX5_fault_21 rfl rfl rfl ?_
          refine w_getI (q := 25) hX fl_X5_188 rfl oX5 dX5_fault_22 rfl ?_
          rw [e5]
          refine v_icmp_ge (q := 28) (tgt := 51) hX ⟨by omega, by omega⟩ ⟨by omega, by omega⟩ dX5_fault_25 (by decide) rfl (fun h25 => ?_) (fun h25 => ?_)
          · exact absurd h25 (by omega)
          · refine v_aload_n (q := 29) hX dX5_fault_28 rfl rfl rfl ?_
            refine v_bipush (q := 31) hX (by decide) dX5_fault_29 rfl ?_
            refine v_bipush (q := 33) hX (by decide) dX5_fault_31 rfl ?_
            refine w_callVe (q := 36) hX (c_X5_passesOne E _ hr n p e5 e6 hE hp 59 59 (by decide) (by decide) he) rfl kV_X5_passesOne rfl (by decide) lk_X5_215 (by decide) rfl oX5 (Nat.le_of_ble_eq_true rfl) dX5_fault_33 rfl (fun D1 hD1 => ?_)
            subst hD1
            refine v_if_eq (q := 39) (tgt := 46) hX (by decide) dX5_fault_36 (by decide) rfl (fun h36 => ?_) (fun h36 => ?_)
            · exact absurd h36 (by decide)
            · refine v_aload_n (q := 40) hX dX5_fault_39 rfl rfl rfl ?_
              refine w_callVe (q := 43) hX (c_X5_passesAct (poD E p) _ hr n (p + 1) ((poD_at E p).2.2.1.trans e5) (poD_at E p).2.1 hE (by omega)) rfl kV_X5_passesAct rfl (by decide) lk_X5_237 (by decide) rfl oX5 (Nat.le_of_ble_eq_true rfl) dX5_fault_40 rfl (fun D1 hD1 => ?_)
              obtain ⟨F1, rfl, f1, f2⟩ := hD1
              have f0 := (poD_at E p).2.2.2.2
              rw [show (poD E p) 355 = D 355 from eT] at f1 f2
              rw [show (poD E p) 355 = D 355 from eT]
              refine w_ifne (q := 46) (tgt := 17) hX dX5_fault_43 (by decide) rfl (fun h43 => ?_) (fun h43 => ?_)
              · have ha := tAct_le (D 355) n (p + 1) (by omega)
                have e1 := ih _ (xw D 351 F1) (by omega) ha.2.1 (by rw [xw_at, f1.1 5 (by decide), f0.1 5 (by decide) (by decide)]; exact e5) (by rw [xw_at]; exact f1.2) rfl (fun j hj => by rw [xw_at, f1.1 j hj, f0.1 j (by omega) (by omega)]; exact eF j hj) (fun a ha => xw_ne _ _ _ ha) (by rw [← hG, tFl, if_pos he.1, if_pos (by rw [← eT]; exact he.2), if_pos h43])
                rw [xE_2 eA]
                exact e1
              · refine v_aload_n (q := 47) hX dX5_fault_46 rfl rfl rfl ?_
                refine w_getI (q := 50) hX fl_X5_206 rfl oX5 dX5_fault_47 rfl ?_
                rw [xw_at, f1.2]
                refine v_ireturn hX hRX rfl (by first | rfl | exact bi_nar _) dX5_fault_50 rfl ?_
                refine ⟨congrArg (fun e => some (vi e)) ?_, rfl, F1, xE_2 eA, fun j hj => by rw [f1.1 j hj, f0.1 j (by omega) (by omega)]; exact eF j hj⟩
                rw [← hG, tFl, if_pos he.1, if_pos (by rw [← eT]; exact he.2), if_neg h43]
        · refine v_aload_n (q := 18) hX dX5_fault_17 rfl rfl rfl ?_
          refine w_getI (q := 21) hX fl_X5_206 rfl oX5 dX5_fault_18 rfl ?_
          rw [e6]
          refine v_aload_n (q := 22) hX dX5_fault_21 rfl rfl rfl ?_
          refine w_getI (q := 25) hX fl_X5_188 rfl oX5 dX5_fault_22 rfl ?_
          rw [e5]
          refine v_icmp_ge (q := 28) (tgt := 51) hX ⟨by omega, by omega⟩ ⟨by omega, by omega⟩ dX5_fault_25 (by decide) rfl (fun h25 => ?_) (fun h25 => ?_)
          · exact absurd h25 (by omega)
          · refine v_aload_n (q := 29) hX dX5_fault_28 rfl rfl rfl ?_
            refine v_bipush (q := 31) hX (by decide) dX5_fault_29 rfl ?_
            refine v_bipush (q := 33) hX (by decide) dX5_fault_31 rfl ?_
            refine w_callV (q := 36) hX (c_X5_passesOne0 E _ hr n p e5 e6 hE hp 59 59 (by decide) (by decide) he) rfl kV_X5_passesOne rfl (by decide) lk_X5_215 (by decide) rfl oX5 (Nat.le_of_ble_eq_true rfl) dX5_fault_33 rfl ?_
            refine v_if_eq (q := 39) (tgt := 46) hX (by decide) dX5_fault_36 (by decide) rfl (fun h36 => ?_) (fun h36 => ?_)
            · refine v_aload_n (q := 47) hX dX5_fault_46 rfl rfl rfl ?_
              refine w_getI (q := 50) hX fl_X5_206 rfl oX5 dX5_fault_47 rfl ?_
              rw [e6]
              refine v_ireturn hX hRX rfl (by first | rfl | exact bi_nar _) dX5_fault_50 rfl ?_
              refine ⟨congrArg (fun e => some (vi e)) ?_, rfl, E 351, xE_self eA, eF⟩
              rw [← hG, tFl, if_pos h25n, if_neg (fun h => he ⟨h25n, by rw [eT]; exact h⟩)]
            · exact absurd h36 (by decide)
      · refine v_aload_n (q := 18) hX dX5_fault_17 rfl rfl rfl ?_
        refine w_getI (q := 21) hX fl_X5_206 rfl oX5 dX5_fault_18 rfl ?_
        rw [e6]
        refine v_aload_n (q := 22) hX dX5_fault_21 rfl rfl rfl ?_
        refine w_getI (q := 25) hX fl_X5_188 rfl oX5 dX5_fault_22 rfl ?_
        rw [e5]
        refine v_icmp_ge (q := 28) (tgt := 51) hX ⟨by omega, by omega⟩ ⟨by omega, by omega⟩ dX5_fault_25 (by decide) rfl (fun h25 => ?_) (fun h25 => ?_)
        · refine v_bipush (q := 53) hX (by decide) dX5_fault_51 rfl ?_
          refine v_ireturn hX hRX rfl (by first | rfl | exact bi_nar _) dX5_fault_53 rfl ?_
          refine ⟨congrArg (fun e => some (vi e)) ?_, rfl, E 351, xE_self eA, eF⟩
          rw [← hG, tFl, if_neg h25n]
        · exact absurd h25 (by omega)
  have a0 := tAct_le (D 355) n 0 (Nat.zero_le _)
  have z5 : xw D 351 (fu (D 351) 6 0) 351 5 = (n : Int) := by rw [xw_at, fu_ne _ _ _ (by decide)]; exact g5
  have z6 : xw D 351 (fu (D 351) 6 0) 351 6 = ((0 : Nat) : Int) := by rw [xw_at, fu_at]; rfl
  refine v_aload_n (q := 1) hX dX5_fault_0 rfl rfl rfl ?_
  refine v_iconst (q := 2) hX dX5_fault_1 rfl ?_
  refine w_putI (q := 5) hX fl_X5_206 rfl oX5 dX5_fault_2 rfl ?_
  rw [xu_xw]
  refine v_aload_n (q := 6) hX dX5_fault_5 rfl rfl rfl ?_
  refine w_callVe (q := 9) hX (c_X5_passesAct (xw D 351 (fu (D 351) 6 0)) _ hr n 0 z5 z6 hT (Nat.zero_le _)) rfl kV_X5_passesAct rfl (by decide) lk_X5_237 (by decide) rfl oX5 (Nat.le_of_ble_eq_true rfl) dX5_fault_6 rfl (fun D1 hD1 => ?_)
  obtain ⟨F1, rfl, f1, f2⟩ := hD1
  rw [xw_ne _ _ _ (show 355 ≠ 351 by decide)] at f1
  rw [xw_ne _ _ _ (show 355 ≠ 351 by decide), xw_xw]
  refine w_ifne (q := 12) (tgt := 17) hX dX5_fault_9 (by decide) rfl (fun h9 => ?_) (fun h9 => ?_)
  · exact L n _ (xw D 351 F1) (by omega) a0.2.1 (by rw [xw_at, f1.1 5 (by decide)]; exact z5) (by rw [xw_at]; exact f1.2) rfl (fun j hj => by rw [xw_at, f1.1 j hj, xw_at, fu_ne _ _ _ (by omega)]) (fun a ha => xw_ne _ _ _ ha) (by rw [tFault, if_pos h9])
  · refine v_aload_n (q := 13) hX dX5_fault_12 rfl rfl rfl ?_
    refine w_getI (q := 16) hX fl_X5_206 rfl oX5 dX5_fault_13 rfl ?_
    rw [xw_at, f1.2]
    refine v_ireturn hX hRX rfl (by first | rfl | exact bi_nar _) dX5_fault_16 rfl ?_
    refine ⟨congrArg (fun e => some (vi e)) ?_, rfl, F1, rfl, fun j hj => by rw [f1.1 j hj, xw_at, fu_ne _ _ _ (by omega)]⟩
    rw [tFault, if_neg h9]

set_option maxRecDepth 100000 in
set_option maxHeartbeats 4000000 in
theorem c_X5_wipe {z : Nat} (D : xD) (r : xR) (hr : xRM r) : MX 0 mX5_wipe [.ref 351] (356, z) D r (356, z) (xEs (vi (D 351 5)) (fun D' => D' = xw D 351 (fu (D 351) 5 0)) r) := by
  refine MX.of (by decide +kernel) [some (.ref 351), none] rfl (Nat.le_of_ble_eq_true rfl) ?_
  intro γ hX hRX
  refine v_aload_n (q := 1) hX dX5_wipe_0 rfl rfl rfl ?_
  refine w_getI (q := 4) hX fl_X5_188 rfl oX5 dX5_wipe_1 rfl ?_
  refine v_istore_n (q := 5) hX dX5_wipe_4 rfl (Nat.le_of_ble_eq_true rfl) (Nat.le_of_ble_eq_true rfl) rfl ?_
  dsimp only [xs1, xs2, xclr]
  refine v_aload_n (q := 6) hX dX5_wipe_5 rfl rfl rfl ?_
  refine v_iconst (q := 7) hX dX5_wipe_6 rfl ?_
  refine w_putI (q := 10) hX fl_X5_188 rfl oX5 dX5_wipe_7 rfl ?_
  refine v_iload_n (q := 11) hX dX5_wipe_10 rfl rfl rfl ?_
  refine v_ireturn hX hRX rfl (by first | rfl | exact bi_nar _) dX5_wipe_11 rfl ?_
  exact ⟨rfl, rfl, xu_xw _ _ _ _⟩

