theorem pF_fu_ne' (N : Nat → Int) (p w : Nat) {i : Nat} (hi : i < 24) : pF (fu N (18 + 36 * p + (24 + w)) 0) p i = pF N p i := fu_ne _ _ _ (by omega)
theorem nLeft_A {B : Int} {np p w : Nat} {N : Nat → Int} (h : nOk B np N) (hp : p < np) (hw : w < 12) : N 5 + N 6 - nHours (fu N (18 + 36 * p + (24 + w)) (pF N p (24 + w) + 1)) np w = nLeft N np p w - pF N p 2 := by
  obtain ⟨f, hf1, hf2, hf3⟩ := h.fam hp
  have hf4 : (pF N p 0).toNat < 4 := by omega
  have hl := h.lots hp hw
  by_cases hc : 0 < pF N p (24 + w)
  · have g := fun (x : Int) (hx : 0 < x) => nHours_add (N := fu N (18 + 36 * p + (24 + w)) 0) (np := np) (p := p) (w := w) hp (pF_fu_at _ _ _ _) hw (g := x) hx (by rw [pF_fu_ne' N p w (by omega)]; exact hf4)
    have g1 := g _ hc
    have g2 := g (pF N p (24 + w) + 1) (by omega)
    rw [fu_fu] at g1 g2
    rw [fu_self N (e := pF N p (24 + w)) rfl] at g1
    unfold nLeft
    rw [if_pos hc, g2, g1]
    rw [pF_fu_ne' N p w (i := 3) (by omega), pF_fu_ne' N p w (i := 2) (by omega), Int.add_mul]
    omega
  · have h0 : pF N p (24 + w) = 0 := by omega
    rw [h0]
    have g2 := nHours_add (N := N) (np := np) hp h0 hw (g := 0 + 1) (by decide) hf4
    rw [g2]
    unfold nLeft
    rw [if_neg hc]
    omega
set_option maxRecDepth 100000 in
set_option maxHeartbeats 4000000 in
theorem c_X4_ofProduct {z : Nat} (D : xD) (r : xR) (hF : rF r) {N : Nat → Int} {np : Nat} (hC : CR D 5 N np) (hnp : np ≤ 10) {B : Int} (hO : nOk B np N) (p w : Nat) (hp : p < np) (hw13 : w < 13) : MX 1 mX4_ofProduct [.ref 4, vi p, vi w] (351, z) D r (351, z) (xP (vi (nOf N p w)) D r) := by
  refine MX.of (by decide +kernel) [some (.ref 4), some (vi p), some (vi w), none] rfl (Nat.le_of_ble_eq_true rfl) ?_
  intro γ hX hRX
  have hw : w = 0 ∨ w = 1 ∨ w = 2 ∨ w = 3 ∨ w = 4 ∨ w = 5 ∨ w = 6 ∨ w = 7 ∨ w = 8 ∨ w = 9 ∨ w = 10 ∨ w = 11 ∨ w = 12 := by omega
  rcases hw with rfl | rfl | rfl | rfl | rfl | rfl | rfl | rfl | rfl | rfl | rfl | rfl | rfl
  · refine v_aload_n (q := 1) hX dX4_ofProduct_0 rfl rfl rfl ?_
    refine w_getR (q := 4) hX fl_X4_10 rfl oLF hF.f0 dX4_ofProduct_1 rfl ?_
    refine v_iload_n (q := 5) hX dX4_ofProduct_4 rfl rfl rfl ?_
    refine w_callV (q := 8) hX (c_X3_productAt _ _ WK_5 hF.w5 hC.np hnp p hp) rfl kV_X3_productAt rfl (by decide) lk_X4_85 (by decide) rfl WK_5.1 (Nat.le_of_ble_eq_true rfl) dX4_ofProduct_5 rfl ?_
    refine v_astore_n (q := 9) hX dX4_ofProduct_8 rfl (Nat.le_of_ble_eq_true rfl) (Nat.le_of_ble_eq_true rfl) rfl ?_
    dsimp only [xs1, xs2, xclr]
    refine v_aload_n (q := 10) hX dX4_ofProduct_9 rfl rfl rfl ?_
    refine v_ifnonnull (tgt := 15) hX dX4_ofProduct_10 (by decide) ?_
    refine v_iload_n (q := 16) hX dX4_ofProduct_15 rfl rfl rfl ?_
    refine v_tableIn (tgt := 84) hX (by decide) dX4_ofProduct_16 (by decide) (by decide) rfl (by decide) ?_
    refine v_aload_n (q := 85) hX dX4_ofProduct_84 rfl rfl rfl ?_
    refine w_getI (q := 88) hX fl_X4_127 rfl (WK_5.pk (p := p) (by omega)).1 dX4_ofProduct_85 rfl ?_
    rw [(hC.pc hp).fa]
    refine v_ireturn hX hRX rfl (by first | rfl | exact bi_nar _) dX4_ofProduct_88 rfl ?_
    exact ⟨rfl, rfl, rfl⟩
  · refine v_aload_n (q := 1) hX dX4_ofProduct_0 rfl rfl rfl ?_
    refine w_getR (q := 4) hX fl_X4_10 rfl oLF hF.f0 dX4_ofProduct_1 rfl ?_
    refine v_iload_n (q := 5) hX dX4_ofProduct_4 rfl rfl rfl ?_
    refine w_callV (q := 8) hX (c_X3_productAt _ _ WK_5 hF.w5 hC.np hnp p hp) rfl kV_X3_productAt rfl (by decide) lk_X4_85 (by decide) rfl WK_5.1 (Nat.le_of_ble_eq_true rfl) dX4_ofProduct_5 rfl ?_
    refine v_astore_n (q := 9) hX dX4_ofProduct_8 rfl (Nat.le_of_ble_eq_true rfl) (Nat.le_of_ble_eq_true rfl) rfl ?_
    dsimp only [xs1, xs2, xclr]
    refine v_aload_n (q := 10) hX dX4_ofProduct_9 rfl rfl rfl ?_
    refine v_ifnonnull (tgt := 15) hX dX4_ofProduct_10 (by decide) ?_
    refine v_iload_n (q := 16) hX dX4_ofProduct_15 rfl rfl rfl ?_
    refine v_tableIn (tgt := 89) hX (by decide) dX4_ofProduct_16 (by decide) (by decide) rfl (by decide) ?_
    refine v_aload_n (q := 90) hX dX4_ofProduct_89 rfl rfl rfl ?_
    refine w_getI (q := 93) hX fl_X4_130 rfl (WK_5.pk (p := p) (by omega)).1 dX4_ofProduct_90 rfl ?_
    rw [(hC.pc hp).sz]
    refine v_ireturn hX hRX rfl (by first | rfl | exact bi_nar _) dX4_ofProduct_93 rfl ?_
    exact ⟨rfl, rfl, rfl⟩
  · refine v_aload_n (q := 1) hX dX4_ofProduct_0 rfl rfl rfl ?_
    refine w_getR (q := 4) hX fl_X4_10 rfl oLF hF.f0 dX4_ofProduct_1 rfl ?_
    refine v_iload_n (q := 5) hX dX4_ofProduct_4 rfl rfl rfl ?_
    refine w_callV (q := 8) hX (c_X3_productAt _ _ WK_5 hF.w5 hC.np hnp p hp) rfl kV_X3_productAt rfl (by decide) lk_X4_85 (by decide) rfl WK_5.1 (Nat.le_of_ble_eq_true rfl) dX4_ofProduct_5 rfl ?_
    refine v_astore_n (q := 9) hX dX4_ofProduct_8 rfl (Nat.le_of_ble_eq_true rfl) (Nat.le_of_ble_eq_true rfl) rfl ?_
    dsimp only [xs1, xs2, xclr]
    refine v_aload_n (q := 10) hX dX4_ofProduct_9 rfl rfl rfl ?_
    refine v_ifnonnull (tgt := 15) hX dX4_ofProduct_10 (by decide) ?_
    refine v_iload_n (q := 16) hX dX4_ofProduct_15 rfl rfl rfl ?_
    refine v_tableIn (tgt := 94) hX (by decide) dX4_ofProduct_16 (by decide) (by decide) rfl (by decide) ?_
    refine v_aload_n (q := 95) hX dX4_ofProduct_94 rfl rfl rfl ?_
    refine w_getI (q := 98) hX fl_X4_133 rfl (WK_5.pk (p := p) (by omega)).1 dX4_ofProduct_95 rfl ?_
    rw [(hC.pc hp).lh]
    refine v_ireturn hX hRX rfl (by first | rfl | exact bi_nar _) dX4_ofProduct_98 rfl ?_
    exact ⟨rfl, rfl, rfl⟩
  · refine v_aload_n (q := 1) hX dX4_ofProduct_0 rfl rfl rfl ?_
    refine w_getR (q := 4) hX fl_X4_10 rfl oLF hF.f0 dX4_ofProduct_1 rfl ?_
    refine v_iload_n (q := 5) hX dX4_ofProduct_4 rfl rfl rfl ?_
    refine w_callV (q := 8) hX (c_X3_productAt _ _ WK_5 hF.w5 hC.np hnp p hp) rfl kV_X3_productAt rfl (by decide) lk_X4_85 (by decide) rfl WK_5.1 (Nat.le_of_ble_eq_true rfl) dX4_ofProduct_5 rfl ?_
    refine v_astore_n (q := 9) hX dX4_ofProduct_8 rfl (Nat.le_of_ble_eq_true rfl) (Nat.le_of_ble_eq_true rfl) rfl ?_
    dsimp only [xs1, xs2, xclr]
    refine v_aload_n (q := 10) hX dX4_ofProduct_9 rfl rfl rfl ?_
    refine v_ifnonnull (tgt := 15) hX dX4_ofProduct_10 (by decide) ?_
    refine v_iload_n (q := 16) hX dX4_ofProduct_15 rfl rfl rfl ?_
    refine v_tableIn (tgt := 99) hX (by decide) dX4_ofProduct_16 (by decide) (by decide) rfl (by decide) ?_
    refine v_aload_n (q := 100) hX dX4_ofProduct_99 rfl rfl rfl ?_
    refine w_getI (q := 103) hX fl_X4_136 rfl (WK_5.pk (p := p) (by omega)).1 dX4_ofProduct_100 rfl ?_
    rw [(hC.pc hp).sh]
    refine v_ireturn hX hRX rfl (by first | rfl | exact bi_nar _) dX4_ofProduct_103 rfl ?_
    exact ⟨rfl, rfl, rfl⟩
  · refine v_aload_n (q := 1) hX dX4_ofProduct_0 rfl rfl rfl ?_
    refine w_getR (q := 4) hX fl_X4_10 rfl oLF hF.f0 dX4_ofProduct_1 rfl ?_
    refine v_iload_n (q := 5) hX dX4_ofProduct_4 rfl rfl rfl ?_
    refine w_callV (q := 8) hX (c_X3_productAt _ _ WK_5 hF.w5 hC.np hnp p hp) rfl kV_X3_productAt rfl (by decide) lk_X4_85 (by decide) rfl WK_5.1 (Nat.le_of_ble_eq_true rfl) dX4_ofProduct_5 rfl ?_
    refine v_astore_n (q := 9) hX dX4_ofProduct_8 rfl (Nat.le_of_ble_eq_true rfl) (Nat.le_of_ble_eq_true rfl) rfl ?_
    dsimp only [xs1, xs2, xclr]
    refine v_aload_n (q := 10) hX dX4_ofProduct_9 rfl rfl rfl ?_
    refine v_ifnonnull (tgt := 15) hX dX4_ofProduct_10 (by decide) ?_
    refine v_iload_n (q := 16) hX dX4_ofProduct_15 rfl rfl rfl ?_
    refine v_tableIn (tgt := 104) hX (by decide) dX4_ofProduct_16 (by decide) (by decide) rfl (by decide) ?_
    refine v_aload_n (q := 105) hX dX4_ofProduct_104 rfl rfl rfl ?_
    refine w_getI (q := 108) hX fl_X4_139 rfl (WK_5.pk (p := p) (by omega)).1 dX4_ofProduct_105 rfl ?_
    rw [(hC.pc hp).st]
    refine v_ireturn hX hRX rfl (by first | rfl | exact bi_nar _) dX4_ofProduct_108 rfl ?_
    exact ⟨rfl, rfl, rfl⟩
  · refine v_aload_n (q := 1) hX dX4_ofProduct_0 rfl rfl rfl ?_
    refine w_getR (q := 4) hX fl_X4_10 rfl oLF hF.f0 dX4_ofProduct_1 rfl ?_
    refine v_iload_n (q := 5) hX dX4_ofProduct_4 rfl rfl rfl ?_
    refine w_callV (q := 8) hX (c_X3_productAt _ _ WK_5 hF.w5 hC.np hnp p hp) rfl kV_X3_productAt rfl (by decide) lk_X4_85 (by decide) rfl WK_5.1 (Nat.le_of_ble_eq_true rfl) dX4_ofProduct_5 rfl ?_
    refine v_astore_n (q := 9) hX dX4_ofProduct_8 rfl (Nat.le_of_ble_eq_true rfl) (Nat.le_of_ble_eq_true rfl) rfl ?_
    dsimp only [xs1, xs2, xclr]
    refine v_aload_n (q := 10) hX dX4_ofProduct_9 rfl rfl rfl ?_
    refine v_ifnonnull (tgt := 15) hX dX4_ofProduct_10 (by decide) ?_
    refine v_iload_n (q := 16) hX dX4_ofProduct_15 rfl rfl rfl ?_
    refine v_tableIn (tgt := 109) hX (by decide) dX4_ofProduct_16 (by decide) (by decide) rfl (by decide) ?_
    refine v_aload_n (q := 110) hX dX4_ofProduct_109 rfl rfl rfl ?_
    refine w_getI (q := 113) hX fl_X4_142 rfl (WK_5.pk (p := p) (by omega)).1 dX4_ofProduct_110 rfl ?_
    rw [(hC.pc hp).bl]
    refine v_ireturn hX hRX rfl (by first | rfl | exact bi_nar _) dX4_ofProduct_113 rfl ?_
    exact ⟨rfl, rfl, rfl⟩
  · refine v_aload_n (q := 1) hX dX4_ofProduct_0 rfl rfl rfl ?_
    refine w_getR (q := 4) hX fl_X4_10 rfl oLF hF.f0 dX4_ofProduct_1 rfl ?_
    refine v_iload_n (q := 5) hX dX4_ofProduct_4 rfl rfl rfl ?_
    refine w_callV (q := 8) hX (c_X3_productAt _ _ WK_5 hF.w5 hC.np hnp p hp) rfl kV_X3_productAt rfl (by decide) lk_X4_85 (by decide) rfl WK_5.1 (Nat.le_of_ble_eq_true rfl) dX4_ofProduct_5 rfl ?_
    refine v_astore_n (q := 9) hX dX4_ofProduct_8 rfl (Nat.le_of_ble_eq_true rfl) (Nat.le_of_ble_eq_true rfl) rfl ?_
    dsimp only [xs1, xs2, xclr]
    refine v_aload_n (q := 10) hX dX4_ofProduct_9 rfl rfl rfl ?_
    refine v_ifnonnull (tgt := 15) hX dX4_ofProduct_10 (by decide) ?_
    refine v_iload_n (q := 16) hX dX4_ofProduct_15 rfl rfl rfl ?_
    refine v_tableIn (tgt := 114) hX (by decide) dX4_ofProduct_16 (by decide) (by decide) rfl (by decide) ?_
    refine v_aload_n (q := 115) hX dX4_ofProduct_114 rfl rfl rfl ?_
    refine w_getI (q := 118) hX fl_X4_145 rfl (WK_5.pk (p := p) (by omega)).1 dX4_ofProduct_115 rfl ?_
    rw [(hC.pc hp).er]
    refine v_ireturn hX hRX rfl (by first | rfl | exact bi_nar _) dX4_ofProduct_118 rfl ?_
    exact ⟨rfl, rfl, rfl⟩
  · refine v_aload_n (q := 1) hX dX4_ofProduct_0 rfl rfl rfl ?_
    refine w_getR (q := 4) hX fl_X4_10 rfl oLF hF.f0 dX4_ofProduct_1 rfl ?_
    refine v_iload_n (q := 5) hX dX4_ofProduct_4 rfl rfl rfl ?_
    refine w_callV (q := 8) hX (c_X3_productAt _ _ WK_5 hF.w5 hC.np hnp p hp) rfl kV_X3_productAt rfl (by decide) lk_X4_85 (by decide) rfl WK_5.1 (Nat.le_of_ble_eq_true rfl) dX4_ofProduct_5 rfl ?_
    refine v_astore_n (q := 9) hX dX4_ofProduct_8 rfl (Nat.le_of_ble_eq_true rfl) (Nat.le_of_ble_eq_true rfl) rfl ?_
    dsimp only [xs1, xs2, xclr]
    refine v_aload_n (q := 10) hX dX4_ofProduct_9 rfl rfl rfl ?_
    refine v_ifnonnull (tgt := 15) hX dX4_ofProduct_10 (by decide) ?_
    refine v_iload_n (q := 16) hX dX4_ofProduct_15 rfl rfl rfl ?_
    refine v_tableIn (tgt := 119) hX (by decide) dX4_ofProduct_16 (by decide) (by decide) rfl (by decide) ?_
    refine v_aload_n (q := 120) hX dX4_ofProduct_119 rfl rfl rfl ?_
    refine v_aload_n (q := 121) hX dX4_ofProduct_120 rfl rfl rfl ?_
    refine w_getR (q := 124) hX fl_X4_10 rfl oLF hF.f0 dX4_ofProduct_121 rfl ?_
    refine v_iconst (q := 125) hX dX4_ofProduct_124 rfl ?_
    refine w_callV (q := 128) hX (c_X3_setting _ _ WK_5 hF.w5 hC 4 (by decide) (j := 9) rfl) rfl kV_X3_setting rfl (by decide) lk_X4_56 (by decide) rfl WK_5.1 (Nat.le_of_ble_eq_true rfl) dX4_ofProduct_125 rfl ?_
    refine w_callV (q := 131) hX (c_X2_cover _ _ (WK_5.pk (p := p) (by omega)) (hF.w5.pr (p := p) (by omega)) hO hp (hC.pc hp)) rfl kV_X2_cover rfl (by decide) lk_X4_148 (by decide) rfl (WK_5.pk (p := p) (by omega)).1 (Nat.le_of_ble_eq_true rfl) dX4_ofProduct_128 rfl ?_
    refine v_ireturn hX hRX rfl (by first | rfl | exact bi_nar _) dX4_ofProduct_131 rfl ?_
    exact ⟨rfl, rfl, rfl⟩
  · refine v_aload_n (q := 1) hX dX4_ofProduct_0 rfl rfl rfl ?_
    refine w_getR (q := 4) hX fl_X4_10 rfl oLF hF.f0 dX4_ofProduct_1 rfl ?_
    refine v_iload_n (q := 5) hX dX4_ofProduct_4 rfl rfl rfl ?_
    refine w_callV (q := 8) hX (c_X3_productAt _ _ WK_5 hF.w5 hC.np hnp p hp) rfl kV_X3_productAt rfl (by decide) lk_X4_85 (by decide) rfl WK_5.1 (Nat.le_of_ble_eq_true rfl) dX4_ofProduct_5 rfl ?_
    refine v_astore_n (q := 9) hX dX4_ofProduct_8 rfl (Nat.le_of_ble_eq_true rfl) (Nat.le_of_ble_eq_true rfl) rfl ?_
    dsimp only [xs1, xs2, xclr]
    refine v_aload_n (q := 10) hX dX4_ofProduct_9 rfl rfl rfl ?_
    refine v_ifnonnull (tgt := 15) hX dX4_ofProduct_10 (by decide) ?_
    refine v_iload_n (q := 16) hX dX4_ofProduct_15 rfl rfl rfl ?_
    refine v_tableIn (tgt := 132) hX (by decide) dX4_ofProduct_16 (by decide) (by decide) rfl (by decide) ?_
    refine v_aload_n (q := 133) hX dX4_ofProduct_132 rfl rfl rfl ?_
    refine w_getI (q := 136) hX fl_X4_95 rfl (WK_5.pk (p := p) (by omega)).1 dX4_ofProduct_133 rfl ?_
    rw [(hC.pc hp).to]
    refine v_ireturn hX hRX rfl (by first | rfl | exact bi_nar _) dX4_ofProduct_136 rfl ?_
    exact ⟨rfl, rfl, rfl⟩
  · refine v_aload_n (q := 1) hX dX4_ofProduct_0 rfl rfl rfl ?_
    refine w_getR (q := 4) hX fl_X4_10 rfl oLF hF.f0 dX4_ofProduct_1 rfl ?_
    refine v_iload_n (q := 5) hX dX4_ofProduct_4 rfl rfl rfl ?_
    refine w_callV (q := 8) hX (c_X3_productAt _ _ WK_5 hF.w5 hC.np hnp p hp) rfl kV_X3_productAt rfl (by decide) lk_X4_85 (by decide) rfl WK_5.1 (Nat.le_of_ble_eq_true rfl) dX4_ofProduct_5 rfl ?_
    refine v_astore_n (q := 9) hX dX4_ofProduct_8 rfl (Nat.le_of_ble_eq_true rfl) (Nat.le_of_ble_eq_true rfl) rfl ?_
    dsimp only [xs1, xs2, xclr]
    refine v_aload_n (q := 10) hX dX4_ofProduct_9 rfl rfl rfl ?_
    refine v_ifnonnull (tgt := 15) hX dX4_ofProduct_10 (by decide) ?_
    refine v_iload_n (q := 16) hX dX4_ofProduct_15 rfl rfl rfl ?_
    refine v_tableIn (tgt := 137) hX (by decide) dX4_ofProduct_16 (by decide) (by decide) rfl (by decide) ?_
    refine v_aload_n (q := 138) hX dX4_ofProduct_137 rfl rfl rfl ?_
    refine w_getI (q := 141) hX fl_X4_151 rfl (WK_5.pk (p := p) (by omega)).1 dX4_ofProduct_138 rfl ?_
    rw [(hC.pc hp).ma]
    refine v_ireturn hX hRX rfl (by first | rfl | exact bi_nar _) dX4_ofProduct_141 rfl ?_
    exact ⟨rfl, rfl, rfl⟩
  · refine v_aload_n (q := 1) hX dX4_ofProduct_0 rfl rfl rfl ?_
    refine w_getR (q := 4) hX fl_X4_10 rfl oLF hF.f0 dX4_ofProduct_1 rfl ?_
    refine v_iload_n (q := 5) hX dX4_ofProduct_4 rfl rfl rfl ?_
    refine w_callV (q := 8) hX (c_X3_productAt _ _ WK_5 hF.w5 hC.np hnp p hp) rfl kV_X3_productAt rfl (by decide) lk_X4_85 (by decide) rfl WK_5.1 (Nat.le_of_ble_eq_true rfl) dX4_ofProduct_5 rfl ?_
    refine v_astore_n (q := 9) hX dX4_ofProduct_8 rfl (Nat.le_of_ble_eq_true rfl) (Nat.le_of_ble_eq_true rfl) rfl ?_
    dsimp only [xs1, xs2, xclr]
    refine v_aload_n (q := 10) hX dX4_ofProduct_9 rfl rfl rfl ?_
    refine v_ifnonnull (tgt := 15) hX dX4_ofProduct_10 (by decide) ?_
    refine v_iload_n (q := 16) hX dX4_ofProduct_15 rfl rfl rfl ?_
    refine v_tableIn (tgt := 142) hX (by decide) dX4_ofProduct_16 (by decide) (by decide) rfl (by decide) ?_
    refine v_aload_n (q := 143) hX dX4_ofProduct_142 rfl rfl rfl ?_
    refine w_getI (q := 146) hX fl_X4_154 rfl (WK_5.pk (p := p) (by omega)).1 dX4_ofProduct_143 rfl ?_
    rw [(hC.pc hp).si]
    refine v_ireturn hX hRX rfl (by first | rfl | exact bi_nar _) dX4_ofProduct_146 rfl ?_
    exact ⟨rfl, rfl, rfl⟩
  · refine v_aload_n (q := 1) hX dX4_ofProduct_0 rfl rfl rfl ?_
    refine w_getR (q := 4) hX fl_X4_10 rfl oLF hF.f0 dX4_ofProduct_1 rfl ?_
    refine v_iload_n (q := 5) hX dX4_ofProduct_4 rfl rfl rfl ?_
    refine w_callV (q := 8) hX (c_X3_productAt _ _ WK_5 hF.w5 hC.np hnp p hp) rfl kV_X3_productAt rfl (by decide) lk_X4_85 (by decide) rfl WK_5.1 (Nat.le_of_ble_eq_true rfl) dX4_ofProduct_5 rfl ?_
    refine v_astore_n (q := 9) hX dX4_ofProduct_8 rfl (Nat.le_of_ble_eq_true rfl) (Nat.le_of_ble_eq_true rfl) rfl ?_
    dsimp only [xs1, xs2, xclr]
    refine v_aload_n (q := 10) hX dX4_ofProduct_9 rfl rfl rfl ?_
    refine v_ifnonnull (tgt := 15) hX dX4_ofProduct_10 (by decide) ?_
    refine v_iload_n (q := 16) hX dX4_ofProduct_15 rfl rfl rfl ?_
    refine v_tableIn (tgt := 147) hX (by decide) dX4_ofProduct_16 (by decide) (by decide) rfl (by decide) ?_
    refine v_aload_n (q := 148) hX dX4_ofProduct_147 rfl rfl rfl ?_
    refine w_getI (q := 151) hX fl_X4_157 rfl (WK_5.pk (p := p) (by omega)).1 dX4_ofProduct_148 rfl ?_
    rw [(hC.pc hp).ca]
    refine v_ireturn hX hRX rfl (by first | rfl | exact bi_nar _) dX4_ofProduct_151 rfl ?_
    exact ⟨rfl, rfl, rfl⟩
  · refine v_aload_n (q := 1) hX dX4_ofProduct_0 rfl rfl rfl ?_
    refine w_getR (q := 4) hX fl_X4_10 rfl oLF hF.f0 dX4_ofProduct_1 rfl ?_
    refine v_iload_n (q := 5) hX dX4_ofProduct_4 rfl rfl rfl ?_
    refine w_callV (q := 8) hX (c_X3_productAt _ _ WK_5 hF.w5 hC.np hnp p hp) rfl kV_X3_productAt rfl (by decide) lk_X4_85 (by decide) rfl WK_5.1 (Nat.le_of_ble_eq_true rfl) dX4_ofProduct_5 rfl ?_
    refine v_astore_n (q := 9) hX dX4_ofProduct_8 rfl (Nat.le_of_ble_eq_true rfl) (Nat.le_of_ble_eq_true rfl) rfl ?_
    dsimp only [xs1, xs2, xclr]
    refine v_aload_n (q := 10) hX dX4_ofProduct_9 rfl rfl rfl ?_
    refine v_ifnonnull (tgt := 15) hX dX4_ofProduct_10 (by decide) ?_
    refine v_iload_n (q := 16) hX dX4_ofProduct_15 rfl rfl rfl ?_
    refine v_tableIn (tgt := 152) hX (by decide) dX4_ofProduct_16 (by decide) (by decide) rfl (by decide) ?_
    refine v_aload_n (q := 153) hX dX4_ofProduct_152 rfl rfl rfl ?_
    refine w_getI (q := 156) hX fl_X4_160 rfl (WK_5.pk (p := p) (by omega)).1 dX4_ofProduct_153 rfl ?_
    rw [(hC.pc hp).bg]
    refine v_ireturn hX hRX rfl (by first | rfl | exact bi_nar _) dX4_ofProduct_156 rfl ?_
    exact ⟨rfl, rfl, rfl⟩


set_option maxRecDepth 100000 in
set_option maxHeartbeats 4000000 in
theorem c_X4_at {z : Nat} (D : xD) (r : xR) (hF : rF r) {N : Nat → Int} {np : Nat} (hC : CR D 5 N np) (hnp : np ≤ 10) (p w u : Nat) (hp : p < np) (hw : w < 12) (hu : u < 2) : MX 1 mX4_at [.ref 4, vi p, vi w, vi u] (351, z) D r (351, z) (xP (vi (if u = 0 then pF N p (12 + w) else pF N p (24 + w))) D r) := by
  refine MX.of (by decide +kernel) [some (.ref 4), some (vi p), some (vi w), some (vi u), none] rfl (Nat.le_of_ble_eq_true rfl) ?_
  intro γ hX hRX
  have hu2 : u = 0 ∨ u = 1 := by omega
  rcases hu2 with rfl | rfl
  · refine v_aload_n (q := 1) hX dX4_at_0 rfl rfl rfl ?_
    refine w_getR (q := 4) hX fl_X4_10 rfl oLF hF.f0 dX4_at_1 rfl ?_
    refine v_iload_n (q := 5) hX dX4_at_4 rfl rfl rfl ?_
    refine w_callV (q := 8) hX (c_X3_productAt _ _ WK_5 hF.w5 hC.np hnp p hp) rfl kV_X3_productAt rfl (by decide) lk_X4_85 (by decide) rfl WK_5.1 (Nat.le_of_ble_eq_true rfl) dX4_at_5 rfl ?_
    refine v_astore (q := 10) hX dX4_at_8 (Nat.le_of_ble_eq_true rfl) (Nat.le_of_ble_eq_true rfl) rfl ?_
    dsimp only [xs1, xs2, xclr]
    refine v_aload (q := 12) hX dX4_at_10 rfl rfl ?_
    refine v_ifnull (q := 15) hX dX4_at_12 rfl ?_
    refine v_iload_n (q := 16) hX dX4_at_15 rfl rfl rfl ?_
    refine w_callS (q := 19) hX (c_X4_isWeek _ _ _ (by first | assumption | decide | exact ⟨by omega, by omega⟩)) rfl kS_X4_isWeek rfl (by decide) lk_X4_89 (Nat.le_of_ble_eq_true rfl) dX4_at_16 rfl ?_
    refine w_ifne (q := 22) (tgt := 24) hX dX4_at_19 (by decide) rfl (fun hx_19 => ?_) (fun hx_19 => ?_)
    · refine v_iload_n (q := 25) hX dX4_at_24 rfl rfl rfl ?_
      refine v_if_ne (q := 28) (tgt := 36) hX (by decide) dX4_at_25 (by decide) rfl (fun hx_25 => ?_) (fun hx_25 => ?_)
      · exact absurd rfl hx_25
      · refine v_aload (q := 30) hX dX4_at_28 rfl rfl ?_
        refine w_getR (q := 33) hX fl_X4_92 rfl (WK_5.pk (p := p) (by omega)).1 (hF.w5.pr (p := p) (by omega)).1 dX4_at_30 rfl ?_
        refine v_iload_n (q := 34) hX dX4_at_33 rfl rfl rfl ?_
        refine w_ild (q := 35) (kk := w) hX (rfl) (hw) (WK_5.pk (p := p) (by omega)).2.1 dX4_at_34 rfl ?_
        rw [(hC.pc hp).fc w hw]
        refine v_ireturn hX hRX rfl (by first | rfl | exact bi_nar _) dX4_at_35 rfl ?_
        exact ⟨rfl, rfl, rfl⟩
    · exact absurd ⟨by omega, by omega⟩ hx_19
  · refine v_aload_n (q := 1) hX dX4_at_0 rfl rfl rfl ?_
    refine w_getR (q := 4) hX fl_X4_10 rfl oLF hF.f0 dX4_at_1 rfl ?_
    refine v_iload_n (q := 5) hX dX4_at_4 rfl rfl rfl ?_
    refine w_callV (q := 8) hX (c_X3_productAt _ _ WK_5 hF.w5 hC.np hnp p hp) rfl kV_X3_productAt rfl (by decide) lk_X4_85 (by decide) rfl WK_5.1 (Nat.le_of_ble_eq_true rfl) dX4_at_5 rfl ?_
    refine v_astore (q := 10) hX dX4_at_8 (Nat.le_of_ble_eq_true rfl) (Nat.le_of_ble_eq_true rfl) rfl ?_
    dsimp only [xs1, xs2, xclr]
    refine v_aload (q := 12) hX dX4_at_10 rfl rfl ?_
    refine v_ifnull (q := 15) hX dX4_at_12 rfl ?_
    refine v_iload_n (q := 16) hX dX4_at_15 rfl rfl rfl ?_
    refine w_callS (q := 19) hX (c_X4_isWeek _ _ _ (by first | assumption | decide | exact ⟨by omega, by omega⟩)) rfl kS_X4_isWeek rfl (by decide) lk_X4_89 (Nat.le_of_ble_eq_true rfl) dX4_at_16 rfl ?_
    refine w_ifne (q := 22) (tgt := 24) hX dX4_at_19 (by decide) rfl (fun hx_19 => ?_) (fun hx_19 => ?_)
    · refine v_iload_n (q := 25) hX dX4_at_24 rfl rfl rfl ?_
      refine v_if_ne (q := 28) (tgt := 36) hX (by decide) dX4_at_25 (by decide) rfl (fun hx_25 => ?_) (fun hx_25 => ?_)
      · refine v_iload_n (q := 37) hX dX4_at_36 rfl rfl rfl ?_
        refine v_iconst (q := 38) hX dX4_at_37 rfl ?_
        refine v_icmp_ne (q := 41) (tgt := 51) hX (by decide) (by decide) dX4_at_38 (by decide) rfl (fun hx_38 => ?_) (fun hx_38 => ?_)
        · exact absurd rfl hx_38
        · refine v_aload (q := 43) hX dX4_at_41 rfl rfl ?_
          refine w_getR (q := 46) hX fl_X4_112 rfl (WK_5.pk (p := p) (by omega)).1 (hF.w5.pr (p := p) (by omega)).2 dX4_at_43 rfl ?_
          refine v_iload_n (q := 47) hX dX4_at_46 rfl rfl rfl ?_
          refine w_ild (q := 48) (kk := w) hX (rfl) (hw) (WK_5.pk (p := p) (by omega)).2.2 dX4_at_47 rfl ?_
          rw [(hC.pc hp).lt w hw]
          refine v_goto (tgt := 53) hX dX4_at_48 (by decide) ?_
          refine v_ireturn hX hRX rfl (by first | rfl | exact bi_nar _) dX4_at_53 rfl ?_
          exact ⟨rfl, rfl, rfl⟩
      · exact absurd hx_25 (by decide)
    · exact absurd ⟨by omega, by omega⟩ hx_19


theorem xset_I {B : Int} {np : Nat} {N : Nat → Int} (h : nOk B np N) {w : Nat} (hw : w < 9) : xI (N (5 + w)) := by
  have hs := h.2.2.2.1
  have h9 : w = 0 ∨ w = 1 ∨ w = 2 ∨ w = 3 ∨ w = 4 ∨ w = 5 ∨ w = 6 ∨ w = 7 ∨ w = 8 := by omega
  rcases h9 with rfl | rfl | rfl | rfl | rfl | rfl | rfl | rfl | rfl
  · exact show xI (N 5) from ⟨by omega, by omega⟩
  · exact show xI (N 6) from ⟨by omega, by omega⟩
  · exact show xI (N 7) from ⟨by omega, by omega⟩
  · exact show xI (N 8) from ⟨by omega, by omega⟩
  · exact show xI (N 9) from ⟨by omega, by omega⟩
  · exact show xI (N 10) from ⟨by omega, by omega⟩
  · exact show xI (N 11) from ⟨by omega, by omega⟩
  · exact show xI (N 12) from ⟨by omega, by omega⟩
  · exact show xI (N 13) from ⟨by omega, by omega⟩
set_option maxRecDepth 100000 in
set_option maxHeartbeats 4000000 in
theorem c_X4_count {z : Nat} (D : xD) (r : xR) (hF : rF r) {N : Nat → Int} {np : Nat} (hC : CR D 5 N np) (hnp : np ≤ 10) {B : Int} (hO : nOk B np N) (hW : 0 ≤ N 0 ∧ N 0 ≤ 2100000000) {G : Nat → Int} (h8 : D 73 1 = G 5) (h9_ : D 75 1 = G 3) (hG : (0 ≤ G 3 ∧ G 3 ≤ 6) ∧ 0 ≤ G 5 ∧ G 5 ≤ 80) (u : Nat) (hu : u < 23) : MX 2 mX4_count [.ref 4, vi u] (351, z) D r (351, z) (xP (vl (nCnt G N np u)) D r) := by
  refine MX.of (by decide +kernel) [some (.ref 4), some (vi u), none, none] rfl (Nat.le_of_ble_eq_true rfl) ?_
  intro γ hX hRX
  have hs := hO.2.2.2.1
  have hll := nLots_le hO np (Nat.le_refl _)
  by_cases hu10 : u < 10
  · have h9 : u = 0 ∨ u = 1 ∨ u = 2 ∨ u = 3 ∨ u = 4 ∨ u = 5 ∨ u = 6 ∨ u = 7 ∨ u = 8 ∨ u = 9 := by omega
    rcases h9 with rfl | rfl | rfl | rfl | rfl | rfl | rfl | rfl | rfl | rfl
    · refine v_iload_n (q := 1) hX dX4_count_0 rfl rfl rfl ?_
      refine v_tableIn (tgt := 56) hX (by decide) dX4_count_1 (by decide) (by decide) rfl (by decide) ?_
      refine v_aload_n (q := 57) hX dX4_count_56 rfl rfl rfl ?_
      refine w_getR (q := 60) hX fl_X4_10 rfl oLF hF.f0 dX4_count_57 rfl ?_
      refine w_getI (q := 63) hX fl_X4_124 rfl WK_5.1 dX4_count_60 rfl ?_
      rw [hC.wk]
      refine v_i2l (q := 64) hX ⟨by omega, by omega⟩ dX4_count_63 rfl ?_
      refine v_lreturn hX hRX rfl dX4_count_64 rfl ?_
      exact ⟨rfl, rfl, rfl⟩
    · refine v_iload_n (q := 1) hX dX4_count_0 rfl rfl rfl ?_
      refine v_tableIn (tgt := 65) hX (by decide) dX4_count_1 (by decide) (by decide) rfl (by decide) ?_
      refine v_aload_n (q := 66) hX dX4_count_65 rfl rfl rfl ?_
      refine w_getR (q := 69) hX fl_X4_10 rfl oLF hF.f0 dX4_count_66 rfl ?_
      refine w_getI (q := 72) hX fl_X4_78 rfl WK_5.1 dX4_count_69 rfl ?_
      rw [hC.np]
      refine v_i2l (q := 73) hX ⟨by omega, by omega⟩ dX4_count_72 rfl ?_
      refine v_lreturn hX hRX rfl dX4_count_73 rfl ?_
      exact ⟨congrArg (fun e => some (vl e)) hO.np.1.symm, rfl, rfl⟩
    · refine v_iload_n (q := 1) hX dX4_count_0 rfl rfl rfl ?_
      refine v_tableIn (tgt := 74) hX (by decide) dX4_count_1 (by decide) (by decide) rfl (by decide) ?_
      refine v_aload_n (q := 75) hX dX4_count_74 rfl rfl rfl ?_
      refine w_getR (q := 78) hX fl_X4_10 rfl oLF hF.f0 dX4_count_75 rfl ?_
      refine w_getL (q := 81) hX fl_X4_178 rfl WK_5.1 dX4_count_78 rfl ?_
      rw [hC.su]
      refine v_lreturn hX hRX rfl dX4_count_81 rfl ?_
      exact ⟨rfl, rfl, rfl⟩
    · refine v_iload_n (q := 1) hX dX4_count_0 rfl rfl rfl ?_
      refine v_tableIn (tgt := 82) hX (by decide) dX4_count_1 (by decide) (by decide) rfl (by decide) ?_
      refine v_aload_n (q := 83) hX dX4_count_82 rfl rfl rfl ?_
      refine w_getR (q := 86) hX fl_X4_10 rfl oLF hF.f0 dX4_count_83 rfl ?_
      refine w_getL (q := 89) hX fl_X4_182 rfl WK_5.1 dX4_count_86 rfl ?_
      rw [hC.ov]
      refine v_lreturn hX hRX rfl dX4_count_89 rfl ?_
      exact ⟨rfl, rfl, rfl⟩
    · refine v_iload_n (q := 1) hX dX4_count_0 rfl rfl rfl ?_
      refine v_tableIn (tgt := 90) hX (by decide) dX4_count_1 (by decide) (by decide) rfl (by decide) ?_
      refine v_aload_n (q := 91) hX dX4_count_90 rfl rfl rfl ?_
      refine w_getR (q := 94) hX fl_X4_10 rfl oLF hF.f0 dX4_count_91 rfl ?_
      refine w_getL (q := 97) hX fl_X4_185 rfl WK_5.1 dX4_count_94 rfl ?_
      rw [hC.co]
      refine v_lreturn hX hRX rfl dX4_count_97 rfl ?_
      exact ⟨rfl, rfl, rfl⟩
    · refine v_iload_n (q := 1) hX dX4_count_0 rfl rfl rfl ?_
      refine v_tableIn (tgt := 98) hX (by decide) dX4_count_1 (by decide) (by decide) rfl (by decide) ?_
      refine v_aload_n (q := 99) hX dX4_count_98 rfl rfl rfl ?_
      refine w_getR (q := 102) hX fl_X4_10 rfl oLF hF.f0 dX4_count_99 rfl ?_
      refine w_callV (q := 105) hX (c_X3_allLots _ _ WK_5 hF.w5 hC hO) rfl kV_X3_allLots rfl (by decide) lk_X4_118 (by decide) rfl WK_5.1 (Nat.le_of_ble_eq_true rfl) dX4_count_102 rfl ?_
      refine v_i2l (q := 106) hX ⟨by omega, by omega⟩ dX4_count_105 rfl ?_
      refine v_lreturn hX hRX rfl dX4_count_106 rfl ?_
      exact ⟨rfl, rfl, rfl⟩
    · refine v_iload_n (q := 1) hX dX4_count_0 rfl rfl rfl ?_
      refine v_tableIn (tgt := 107) hX (by decide) dX4_count_1 (by decide) (by decide) rfl (by decide) ?_
      refine v_aload_n (q := 108) hX dX4_count_107 rfl rfl rfl ?_
      refine w_getR (q := 111) hX fl_X4_10 rfl oLF hF.f0 dX4_count_108 rfl ?_
      refine w_callV (q := 114) hX (c_X3_allStock _ _ WK_5 hF.w5 hC hO) rfl kV_X3_allStock rfl (by decide) lk_X4_188 (by decide) rfl WK_5.1 (Nat.le_of_ble_eq_true rfl) dX4_count_111 rfl ?_
      refine v_lreturn hX hRX rfl dX4_count_114 rfl ?_
      exact ⟨rfl, rfl, rfl⟩
    · refine v_iload_n (q := 1) hX dX4_count_0 rfl rfl rfl ?_
      refine v_tableIn (tgt := 115) hX (by decide) dX4_count_1 (by decide) (by decide) rfl (by decide) ?_
      refine v_aload_n (q := 116) hX dX4_count_115 rfl rfl rfl ?_
      refine w_getR (q := 119) hX fl_X4_10 rfl oLF hF.f0 dX4_count_116 rfl ?_
      refine w_callV (q := 122) hX (c_X3_allBacklog _ _ WK_5 hF.w5 hC hO) rfl kV_X3_allBacklog rfl (by decide) lk_X4_192 (by decide) rfl WK_5.1 (Nat.le_of_ble_eq_true rfl) dX4_count_119 rfl ?_
      refine v_lreturn hX hRX rfl dX4_count_122 rfl ?_
      exact ⟨rfl, rfl, rfl⟩
    · refine v_iload_n (q := 1) hX dX4_count_0 rfl rfl rfl ?_
      refine v_tableIn (tgt := 123) hX (by decide) dX4_count_1 (by decide) (by decide) rfl (by decide) ?_
      refine v_aload_n (q := 124) hX dX4_count_123 rfl rfl rfl ?_
      refine w_getR (q := 127) hX fl_X4_22 rfl oLF hF.f2 dX4_count_124 rfl ?_
      refine w_getI (q := 130) hX fl_X4_195 rfl oPad dX4_count_127 rfl ?_
      rw [h8]
      refine v_i2l (q := 131) hX ⟨by omega, by omega⟩ dX4_count_130 rfl ?_
      refine v_lreturn hX hRX rfl dX4_count_131 rfl ?_
      exact ⟨rfl, rfl, rfl⟩
    · refine v_iload_n (q := 1) hX dX4_count_0 rfl rfl rfl ?_
      refine v_tableIn (tgt := 132) hX (by decide) dX4_count_1 (by decide) (by decide) rfl (by decide) ?_
      refine v_aload_n (q := 133) hX dX4_count_132 rfl rfl rfl ?_
      refine w_getR (q := 136) hX fl_X4_29 rfl oLF hF.f3 dX4_count_133 rfl ?_
      refine w_getI (q := 139) hX fl_X4_198 rfl oHis dX4_count_136 rfl ?_
      rw [h9_]
      refine v_i2l (q := 140) hX ⟨by omega, by omega⟩ dX4_count_139 rfl ?_
      refine v_lreturn hX hRX rfl dX4_count_140 rfl ?_
      exact ⟨rfl, rfl, rfl⟩
  by_cases hu19 : u < 19
  · obtain ⟨w, rfl⟩ : ∃ w, u = 10 + w := ⟨u - 10, by omega⟩
    have hw : w < 9 := by omega
    refine v_iload_n (q := 1) hX dX4_count_0 rfl rfl rfl ?_
    refine v_tableOut (tgt := 141) hX ⟨by omega, by omega⟩ dX4_count_1 (by omega) (by decide) ?_
    refine v_iload_n (q := 142) hX dX4_count_141 rfl rfl rfl ?_
    refine v_bipush (q := 144) hX (by decide) dX4_count_142 rfl ?_
    refine v_isub (q := 145) hX dX4_count_144 rfl ?_
    rw [show ((10 + w : Nat) : Int) - 10 = (w : Int) by omega]
    refine v_istore_n (q := 146) hX dX4_count_145 rfl (Nat.le_of_ble_eq_true rfl) (Nat.le_of_ble_eq_true rfl) rfl ?_
    dsimp only [xs1, xs2, xclr]
    refine v_iload_n (q := 147) hX dX4_count_146 rfl rfl rfl ?_
    refine v_iconst (q := 148) hX dX4_count_147 rfl ?_
    refine v_bipush (q := 150) hX (by decide) dX4_count_148 rfl ?_
    refine w_callS (q := 153) hX (c_X4_isIn _ _ _ _ _ (by first | assumption | decide | exact ⟨by omega, by omega⟩) (by first | assumption | decide | exact ⟨by omega, by omega⟩) (by first | assumption | decide | exact ⟨by omega, by omega⟩)) rfl kS_X4_isIn rfl (by decide) lk_X4_41 (Nat.le_of_ble_eq_true rfl) dX4_count_150 rfl ?_
    refine w_ifeq (q := 156) (tgt := 166) hX dX4_count_153 (by decide) rfl (fun hx_153 => ?_) (fun hx_153 => ?_)
    · exact absurd ⟨by omega, by omega⟩ hx_153
    · refine v_aload_n (q := 157) hX dX4_count_156 rfl rfl rfl ?_
      refine w_getR (q := 160) hX fl_X4_10 rfl oLF hF.f0 dX4_count_157 rfl ?_
      refine v_iload_n (q := 161) hX dX4_count_160 rfl rfl rfl ?_
      refine w_callV (q := 164) hX (c_X3_setting _ _ WK_5 hF.w5 hC _ (by omega) (j := 5 + _) rfl) rfl kV_X3_setting rfl (by decide) lk_X4_56 (by decide) rfl WK_5.1 (Nat.le_of_ble_eq_true rfl) dX4_count_161 rfl ?_
      have hset : xI (N (5 + w)) := xset_I hO hw
      refine v_i2l (q := 165) hX hset dX4_count_164 rfl ?_
      refine v_lreturn hX hRX rfl dX4_count_165 rfl ?_
      exact ⟨congrArg (fun e => some (vl e)) (by unfold nCnt; rw [if_neg (by omega), if_pos (by omega), show 10 + w - 5 = 5 + w by omega]), rfl, rfl⟩
  · obtain ⟨f, rfl⟩ : ∃ f, u = 19 + f := ⟨u - 19, by omega⟩
    have hf_ : f < 4 := by omega
    refine v_iload_n (q := 1) hX dX4_count_0 rfl rfl rfl ?_
    refine v_tableOut (tgt := 141) hX ⟨by omega, by omega⟩ dX4_count_1 (by omega) (by decide) ?_
    refine v_iload_n (q := 142) hX dX4_count_141 rfl rfl rfl ?_
    refine v_bipush (q := 144) hX (by decide) dX4_count_142 rfl ?_
    refine v_isub (q := 145) hX dX4_count_144 rfl ?_
    rw [show ((19 + f : Nat) : Int) - 10 = ((9 + f : Nat) : Int) by omega]
    refine v_istore_n (q := 146) hX dX4_count_145 rfl (Nat.le_of_ble_eq_true rfl) (Nat.le_of_ble_eq_true rfl) rfl ?_
    dsimp only [xs1, xs2, xclr]
    refine v_iload_n (q := 147) hX dX4_count_146 rfl rfl rfl ?_
    refine v_iconst (q := 148) hX dX4_count_147 rfl ?_
    refine v_bipush (q := 150) hX (by decide) dX4_count_148 rfl ?_
    refine w_callS (q := 153) hX (c_X4_isIn _ _ _ _ _ (by first | assumption | decide | exact ⟨by omega, by omega⟩) (by first | assumption | decide | exact ⟨by omega, by omega⟩) (by first | assumption | decide | exact ⟨by omega, by omega⟩)) rfl kS_X4_isIn rfl (by decide) lk_X4_41 (Nat.le_of_ble_eq_true rfl) dX4_count_150 rfl ?_
    refine w_ifeq (q := 156) (tgt := 166) hX dX4_count_153 (by decide) rfl (fun hx_153 => ?_) (fun hx_153 => ?_)
    · refine v_iload_n (q := 167) hX dX4_count_166 rfl rfl rfl ?_
      refine v_bipush (q := 169) hX (by decide) dX4_count_167 rfl ?_
      refine v_isub (q := 170) hX dX4_count_169 rfl ?_
      rw [show ((9 + f : Nat) : Int) - 9 = (f : Int) by omega]
      refine v_istore_n (q := 171) hX dX4_count_170 rfl (Nat.le_of_ble_eq_true rfl) (Nat.le_of_ble_eq_true rfl) rfl ?_
      dsimp only [xs1, xs2, xclr]
      refine v_iload_n (q := 172) hX dX4_count_171 rfl rfl rfl ?_
      refine w_callS (q := 175) hX (c_X4_isFamily _ _ _ (by first | assumption | decide | exact ⟨by omega, by omega⟩)) rfl kS_X4_isFamily rfl (by decide) lk_X4_64 (Nat.le_of_ble_eq_true rfl) dX4_count_172 rfl ?_
      refine w_ifeq (q := 178) (tgt := 191) hX dX4_count_175 (by decide) rfl (fun hx_175 => ?_) (fun hx_175 => ?_)
      · exact absurd ⟨by omega, by omega⟩ hx_175
      · refine v_aload_n (q := 179) hX dX4_count_178 rfl rfl rfl ?_
        refine w_getR (q := 182) hX fl_X4_10 rfl oLF hF.f0 dX4_count_179 rfl ?_
        refine w_getR (q := 185) hX fl_X4_82 rfl WK_5.1 hF.w5.2.1 dX4_count_182 rfl ?_
        refine v_iload_n (q := 186) hX dX4_count_185 rfl rfl rfl ?_
        refine w_ild (q := 187) (kk := f) hX (rfl) (hf_) WK_5.2.2.1 dX4_count_186 rfl ?_
        rw [hC.fh hf_]
        have hfh := hO.2.2.2.2.1 f hf_
        refine v_i2l (q := 188) hX ⟨by omega, by omega⟩ dX4_count_187 rfl ?_
        refine v_goto (tgt := 194) hX dX4_count_188 (by decide) ?_
        refine v_lreturn hX hRX rfl dX4_count_194 rfl ?_
        exact ⟨congrArg (fun e => some (vl e)) (by unfold nCnt; rw [if_neg (by omega), if_pos (by omega), show 19 + f - 5 = 14 + f by omega]), rfl, rfl⟩
    · exact absurd hx_153 (by omega)


set_option maxRecDepth 100000 in
set_option maxHeartbeats 4000000 in
theorem c_X4_roomFor_no {z : Nat} (D : xD) (r : xR) (hF : rF r) {N : Nat → Int} {np : Nat} (hC : CR D 5 N np) (hnp : np ≤ 10) (p w : Int) (ip_ : xI p) (iw_ : xI w) (he : ¬ ((0 ≤ p ∧ p < (np : Int)) ∧ 0 ≤ w ∧ w < 12)) : MX 2 mX4_roomFor [.ref 4, vi p, vi w] (351, z) D r (351, z) (xP (vi (-1)) D r) := by
  refine MX.of (by decide +kernel) [some (.ref 4), some (vi p), some (vi w), none, none, none] rfl (Nat.le_of_ble_eq_true rfl) ?_
  intro γ hX hRX
  by_cases hp_ : 0 ≤ p ∧ p < (np : Int)
  · obtain ⟨p, rfl⟩ := Int.eq_ofNat_of_zero_le hp_.1
    have hp : p < np := by omega
    have hw_ : ¬ (0 ≤ w ∧ w < 12) := fun h9 => he ⟨hp_, h9⟩
    refine v_aload_n (q := 1) hX dX4_roomFor_0 rfl rfl rfl ?_
    refine w_getR (q := 4) hX fl_X4_10 rfl oLF hF.f0 dX4_roomFor_1 rfl ?_
    refine v_iload_n (q := 5) hX dX4_roomFor_4 rfl rfl rfl ?_
    refine w_callV (q := 8) hX (c_X3_productAt _ _ WK_5 hF.w5 hC.np hnp p hp) rfl kV_X3_productAt rfl (by decide) lk_X4_85 (by decide) rfl WK_5.1 (Nat.le_of_ble_eq_true rfl) dX4_roomFor_5 rfl ?_
    refine v_astore_n (q := 9) hX dX4_roomFor_8 rfl (Nat.le_of_ble_eq_true rfl) (Nat.le_of_ble_eq_true rfl) rfl ?_
    dsimp only [xs1, xs2, xclr]
    refine v_aload_n (q := 10) hX dX4_roomFor_9 rfl rfl rfl ?_
    refine v_ifnull (q := 13) hX dX4_roomFor_10 rfl ?_
    refine v_iload_n (q := 14) hX dX4_roomFor_13 rfl rfl rfl ?_
    refine w_callS (q := 17) hX (c_X4_isWeek _ _ _ (by first | assumption | decide | exact ⟨by omega, by omega⟩)) rfl kS_X4_isWeek rfl (by decide) lk_X4_89 (Nat.le_of_ble_eq_true rfl) dX4_roomFor_14 rfl ?_
    refine w_ifne (q := 20) (tgt := 22) hX dX4_roomFor_17 (by decide) rfl (fun hx_17 => ?_) (fun hx_17 => ?_)
    · exact absurd hx_17 hw_
    · refine v_iconst (q := 21) hX dX4_roomFor_20 rfl ?_
      refine v_ireturn hX hRX rfl (by first | rfl | exact bi_nar _) dX4_roomFor_21 rfl ?_
      exact ⟨rfl, rfl, rfl⟩
  · refine v_aload_n (q := 1) hX dX4_roomFor_0 rfl rfl rfl ?_
    refine w_getR (q := 4) hX fl_X4_10 rfl oLF hF.f0 dX4_roomFor_1 rfl ?_
    refine v_iload_n (q := 5) hX dX4_roomFor_4 rfl rfl rfl ?_
    refine w_callV (q := 8) hX (c_X3_productAt_no _ _ WK_5 hF.w5 hC.np hnp _ (by assumption) (by omega)) rfl kV_X3_productAt rfl (by decide) lk_X4_85 (by decide) rfl WK_5.1 (Nat.le_of_ble_eq_true rfl) dX4_roomFor_5 rfl ?_
    refine v_astoreN_n (q := 9) hX dX4_roomFor_8 rfl (Nat.le_of_ble_eq_true rfl) (Nat.le_of_ble_eq_true rfl) rfl ?_
    dsimp only [xs1, xs2, xclr]
    refine v_aloadN_n (q := 10) hX dX4_roomFor_9 rfl rfl rfl ?_
    refine v_ifnullN (tgt := 20) hX dX4_roomFor_10 (by decide) ?_
    refine v_iconst (q := 21) hX dX4_roomFor_20 rfl ?_
    refine v_ireturn hX hRX rfl (by first | rfl | exact bi_nar _) dX4_roomFor_21 rfl ?_
    exact ⟨rfl, rfl, rfl⟩


set_option maxRecDepth 100000 in
set_option maxHeartbeats 4000000 in
theorem c_X4_roomFor {z : Nat} (D : xD) (r : xR) (hF : rF r) {N : Nat → Int} {np : Nat} (hC : CR D 5 N np) (hnp : np ≤ 10) {B : Int} (hO : nOk B np N) (p w : Nat) (hp : p < np) (hw : w < 12) : MX 2 mX4_roomFor [.ref 4, vi p, vi w] (351, z) D r (351, z) (xP (vi (nRoom N np p w)) D r) := by
  refine MX.of (by decide +kernel) [some (.ref 4), some (vi p), some (vi w), none, none, none] rfl (Nat.le_of_ble_eq_true rfl) ?_
  intro γ hX hRX
  refine v_aload_n (q := 1) hX dX4_roomFor_0 rfl rfl rfl ?_
  refine w_getR (q := 4) hX fl_X4_10 rfl oLF hF.f0 dX4_roomFor_1 rfl ?_
  refine v_iload_n (q := 5) hX dX4_roomFor_4 rfl rfl rfl ?_
  refine w_callV (q := 8) hX (c_X3_productAt _ _ WK_5 hF.w5 hC.np hnp p hp) rfl kV_X3_productAt rfl (by decide) lk_X4_85 (by decide) rfl WK_5.1 (Nat.le_of_ble_eq_true rfl) dX4_roomFor_5 rfl ?_
  refine v_astore_n (q := 9) hX dX4_roomFor_8 rfl (Nat.le_of_ble_eq_true rfl) (Nat.le_of_ble_eq_true rfl) rfl ?_
  dsimp only [xs1, xs2, xclr]
  refine v_aload_n (q := 10) hX dX4_roomFor_9 rfl rfl rfl ?_
  refine v_ifnull (q := 13) hX dX4_roomFor_10 rfl ?_
  refine v_iload_n (q := 14) hX dX4_roomFor_13 rfl rfl rfl ?_
  refine w_callS (q := 17) hX (c_X4_isWeek _ _ _ (by first | assumption | decide | exact ⟨by omega, by omega⟩)) rfl kS_X4_isWeek rfl (by decide) lk_X4_89 (Nat.le_of_ble_eq_true rfl) dX4_roomFor_14 rfl ?_
  refine w_ifne (q := 20) (tgt := 22) hX dX4_roomFor_17 (by decide) rfl (fun hx_17 => ?_) (fun hx_17 => ?_)
  · refine v_aload_n (q := 23) hX dX4_roomFor_22 rfl rfl rfl ?_
    refine w_getR (q := 26) hX fl_X4_112 rfl (WK_5.pk (p := p) (by omega)).1 (hF.w5.pr (p := p) (by omega)).2 dX4_roomFor_23 rfl ?_
    refine v_iload_n (q := 27) hX dX4_roomFor_26 rfl rfl rfl ?_
    refine w_ild (q := 28) (kk := w) hX (rfl) (hw) (WK_5.pk (p := p) (by omega)).2.2 dX4_roomFor_27 rfl ?_
    rw [(hC.pc hp).lt w hw]
    have hl := hO.lots hp hw
    have hA := nLeft_A hO hp hw
    have hle := nLeft_le hO hp hw
    have hlh := (hO.2.2.2.2.2 p hp).2.2.1
    refine v_istore (q := 30) hX dX4_roomFor_28 (Nat.le_of_ble_eq_true rfl) (Nat.le_of_ble_eq_true rfl) rfl ?_
    dsimp only [xs1, xs2, xclr]
    refine v_aload_n (q := 31) hX dX4_roomFor_30 rfl rfl rfl ?_
    refine w_getR (q := 34) hX fl_X4_10 rfl oLF hF.f0 dX4_roomFor_31 rfl ?_
    refine w_callV (q := 37) hX (c_X3_capacity _ _ WK_5 hF.w5 hC) rfl kV_X3_capacity rfl (by decide) lk_X4_105 (by decide) rfl WK_5.1 (Nat.le_of_ble_eq_true rfl) dX4_roomFor_34 rfl ?_
    refine v_aload_n (q := 38) hX dX4_roomFor_37 rfl rfl rfl ?_
    refine w_getR (q := 41) hX fl_X4_10 rfl oLF hF.f0 dX4_roomFor_38 rfl ?_
    refine v_iload_n (q := 42) hX dX4_roomFor_41 rfl rfl rfl ?_
    refine v_aload_n (q := 43) hX dX4_roomFor_42 rfl rfl rfl ?_
    refine v_iload (q := 45) hX dX4_roomFor_43 rfl rfl ?_
    refine v_iconst (q := 46) hX dX4_roomFor_45 rfl ?_
    refine v_iadd (q := 47) hX dX4_roomFor_46 rfl ?_
    refine w_callV (q := 50) hX (c_X3_hoursWith _ _ WK_5 hF.w5 hC hO w hw p hp (pF N p (24 + w) + 1) ⟨by omega, by omega⟩) rfl kV_X3_hoursWith rfl (by decide) lk_X4_98 (by decide) rfl WK_5.1 (Nat.le_of_ble_eq_true rfl) dX4_roomFor_47 rfl ?_
    refine v_isub (q := 51) hX dX4_roomFor_50 rfl ?_
    rw [hA]
    refine v_istore (q := 53) hX dX4_roomFor_51 (Nat.le_of_ble_eq_true rfl) (Nat.le_of_ble_eq_true rfl) rfl ?_
    dsimp only [xs1, xs2, xclr]
    refine v_iload (q := 55) hX dX4_roomFor_53 rfl rfl ?_
    refine v_if_lt (q := 58) (tgt := 66) hX ⟨by omega, by omega⟩ dX4_roomFor_55 (by decide) rfl (fun hx_55 => ?_) (fun hx_55 => ?_)
    · refine v_iconst (q := 67) hX dX4_roomFor_66 rfl ?_
      refine v_ireturn hX hRX rfl (by first | rfl | exact bi_nar _) dX4_roomFor_67 rfl ?_
      refine ⟨congrArg (fun e => some (vi e)) ?_, rfl, rfl⟩
      have hdz : (if 0 < nLeft N np p w then nLeft N np p w / pF N p 2 else 0) = 0 := by
        split
        · exact Int.ediv_eq_zero_of_lt (by omega) (by omega)
        · rfl
      unfold nRoom
      rw [hdz]
      split <;> omega
    · refine v_aload_n (q := 59) hX dX4_roomFor_58 rfl rfl rfl ?_
      refine w_getI (q := 62) hX fl_X4_133 rfl (WK_5.pk (p := p) (by omega)).1 dX4_roomFor_59 rfl ?_
      rw [(hC.pc hp).lh]
      refine v_iconst (q := 63) hX dX4_roomFor_62 rfl ?_
      refine v_icmp_ge (q := 66) (tgt := 68) hX ⟨by omega, by omega⟩ (by decide) dX4_roomFor_63 (by decide) rfl (fun hx_63 => ?_) (fun hx_63 => ?_)
      · refine v_iconst (q := 69) hX dX4_roomFor_68 rfl ?_
        refine v_iload (q := 71) hX dX4_roomFor_69 rfl rfl ?_
        refine v_aload_n (q := 72) hX dX4_roomFor_71 rfl rfl rfl ?_
        refine w_getI (q := 75) hX fl_X4_133 rfl (WK_5.pk (p := p) (by omega)).1 dX4_roomFor_72 rfl ?_
        rw [(hC.pc hp).lh]
        have hd1 : 0 ≤ (nLeft N np p w - pF N p 2) / pF N p 2 := Int.ediv_nonneg (by omega) (by omega)
        have hd2 : (nLeft N np p w - pF N p 2) / pF N p 2 ≤ nLeft N np p w - pF N p 2 := Int.ediv_le_self _ (by omega)
        refine v_idiv (q := 76) hX (by omega) ⟨by omega, by omega⟩ (by omega) ⟨by omega, by omega⟩ dX4_roomFor_75 rfl ?_
        refine v_iadd (q := 77) hX dX4_roomFor_76 rfl ?_
        refine v_sipush (q := 80) hX (by decide) dX4_roomFor_77 rfl ?_
        refine v_iload (q := 82) hX dX4_roomFor_80 rfl rfl ?_
        refine v_isub (q := 83) hX dX4_roomFor_82 rfl ?_
        refine v_mmin (q := 86) hX ⟨by omega, by omega⟩ ⟨by omega, by omega⟩ lk_X4_217 st_min (show Cond.initialized "java/lang/Math" ∈ xtb from ii_J9) cd_min (by decide) (Nat.le_of_ble_eq_true rfl) dX4_roomFor_83 rfl ?_
        refine v_ireturn hX hRX rfl (by first | rfl | exact bi_nar _) dX4_roomFor_86 rfl ?_
        refine ⟨congrArg (fun e => some (vi e)) ?_, rfl, rfl⟩
        have hdz : (if 0 < nLeft N np p w then nLeft N np p w / pF N p 2 else 0) = 1 + (nLeft N np p w - pF N p 2) / pF N p 2 := by
          rw [if_pos (by omega), show nLeft N np p w = nLeft N np p w - pF N p 2 + pF N p 2 * 1 by omega, Int.add_mul_ediv_left _ _ (by omega), show nLeft N np p w - pF N p 2 + pF N p 2 * 1 - pF N p 2 = nLeft N np p w - pF N p 2 by omega]
          omega
        unfold nRoom
        rw [hdz]
        split <;> split <;> omega
      · exact absurd hx_63 (by omega)
  · exact absurd ⟨by omega, by omega⟩ hx_17

