/-! ===== the class: how many characters ===== -/
/-- what is left of a number for put behind k characters -/
def sgLf (c : Int) (k : Nat) : Int := if k = 0 then c else c % 18446744073709551616 / 2 ^ (8 * k)
theorem sgE8 {k : Nat} (h : k < 8) : k = 0 ∨ k = 1 ∨ k = 2 ∨ k = 3 ∨ k = 4 ∨ k = 5 ∨ k = 6 ∨ k = 7 := by omega
theorem sgLf_s (c : Int) {k : Nat} (hk : k < 8) : sgLf c k % 18446744073709551616 / 256 = sgLf c (k + 1) := by
  rcases sgE8 hk with rfl | rfl | rfl | rfl | rfl | rfl | rfl | rfl
  · show c % 18446744073709551616 / 256 = c % 18446744073709551616 / 256; rfl
  · show c % 18446744073709551616 / 256 % 18446744073709551616 / 256 = c % 18446744073709551616 / 65536; omega
  · show c % 18446744073709551616 / 65536 % 18446744073709551616 / 256 = c % 18446744073709551616 / 16777216; omega
  · show c % 18446744073709551616 / 16777216 % 18446744073709551616 / 256 = c % 18446744073709551616 / 4294967296; omega
  · show c % 18446744073709551616 / 4294967296 % 18446744073709551616 / 256 = c % 18446744073709551616 / 1099511627776; omega
  · show c % 18446744073709551616 / 1099511627776 % 18446744073709551616 / 256 = c % 18446744073709551616 / 281474976710656; omega
  · show c % 18446744073709551616 / 281474976710656 % 18446744073709551616 / 256 = c % 18446744073709551616 / 72057594037927936; omega
  · show c % 18446744073709551616 / 72057594037927936 % 18446744073709551616 / 256 = c % 18446744073709551616 / 18446744073709551616; omega
theorem sgLf_b (c : Int) {k : Nat} (hk : k < 8) : sgLf c k % 256 = bC c k := by
  unfold sgLf bC
  split
  · rename_i h; subst h; show c % 256 = c / 1 % 256; omega
  · exact uB c k hk
theorem sgLf_0 {c : Int} (hc : xJ c) {k : Nat} (hk : k < 8) : sgLf c k = 0 ↔ c / 2 ^ (8 * k) = 0 := by
  rcases sgE8 hk with rfl | rfl | rfl | rfl | rfl | rfl | rfl | rfl
  · show c = 0 ↔ c / 1 = 0; omega
  · show c % 18446744073709551616 / 256 = 0 ↔ c / 256 = 0; omega
  · show c % 18446744073709551616 / 65536 = 0 ↔ c / 65536 = 0; omega
  · show c % 18446744073709551616 / 16777216 = 0 ↔ c / 16777216 = 0; omega
  · show c % 18446744073709551616 / 4294967296 = 0 ↔ c / 4294967296 = 0; omega
  · show c % 18446744073709551616 / 1099511627776 = 0 ↔ c / 1099511627776 = 0; omega
  · show c % 18446744073709551616 / 281474976710656 = 0 ↔ c / 281474976710656 = 0; omega
  · show c % 18446744073709551616 / 72057594037927936 = 0 ↔ c / 72057594037927936 = 0; omega
theorem sgLf_J {c : Int} (hc : xJ c) {k : Nat} (hk : k < 8) : xJ (sgLf c k) := by
  rcases sgE8 hk with rfl | rfl | rfl | rfl | rfl | rfl | rfl | rfl
  · exact hc
  · show -9223372036854775808 ≤ c % 18446744073709551616 / 256 ∧ c % 18446744073709551616 / 256 < 9223372036854775808; omega
  · show -9223372036854775808 ≤ c % 18446744073709551616 / 65536 ∧ c % 18446744073709551616 / 65536 < 9223372036854775808; omega
  · show -9223372036854775808 ≤ c % 18446744073709551616 / 16777216 ∧ c % 18446744073709551616 / 16777216 < 9223372036854775808; omega
  · show -9223372036854775808 ≤ c % 18446744073709551616 / 4294967296 ∧ c % 18446744073709551616 / 4294967296 < 9223372036854775808; omega
  · show -9223372036854775808 ≤ c % 18446744073709551616 / 1099511627776 ∧ c % 18446744073709551616 / 1099511627776 < 9223372036854775808; omega
  · show -9223372036854775808 ≤ c % 18446744073709551616 / 281474976710656 ∧ c % 18446744073709551616 / 281474976710656 < 9223372036854775808; omega
  · show -9223372036854775808 ≤ c % 18446744073709551616 / 72057594037927936 ∧ c % 18446744073709551616 / 72057594037927936 < 9223372036854775808; omega
set_option maxRecDepth 100000 in
set_option maxHeartbeats 4000000 in
theorem c_X1_signsIn {z : Nat} (D : xD) (r : xR) (c : Int) (hc : xJ c) : MX 0 mX1_signsIn [vl c] (356, z) D r (356, z) (xP (vi (pSig c 8 0 : Nat)) D r) := by
  refine MX.of (by decide +kernel) [some (vl c), none, none, none, none, none, none, none] rfl (Nat.le_of_ble_eq_true rfl) ?_
  intro γ hX hRX
  have L : ∀ k, k ≤ 8 → pSig c (8 - k) k = pSig c 8 0 → xV γ 7 [some (vl c), none, some (vi k), some (vl (sgLf c k)), none, some (vi (k : Nat)), none, none] [] (356, z) D r := by
    refine xup 8 (fun k hk8' ih hk => ?_)
    refine v_iload (q := 9) hX dX1_signsIn_7 rfl rfl ?_
    refine v_bipush (q := 11) hX (by decide) dX1_signsIn_9 rfl ?_
    refine v_icmp_ge (q := 14) (tgt := 61) hX ⟨by omega, by omega⟩ (by decide) dX1_signsIn_11 (by decide) rfl (fun h11 => ?_) (fun h11 => ?_)
    · refine v_iload_n (q := 62) hX dX1_signsIn_61 rfl rfl rfl ?_
      refine v_ireturn hX hRX rfl (by first | rfl | exact bi_nar _) dX1_signsIn_62 rfl ?_
      refine ⟨congrArg (fun e => some (vi e)) ?_, rfl, rfl⟩
      by_cases hk8 : k < 8
      · have h16a : sgLf c k = 0 := by first | assumption | omega
        have h0 := (sgLf_0 hc hk8).1 h16a
        have hb : bC c k = 0 := by rw [← sgLf_b c hk8, h16a]; rfl
        first | (rw [← hk, if_pos hb, if_pos h0]) | omega
      · first | omega | (rw [← hk, show 8 - k = 0 by omega]; rfl)
    · obtain ⟨m, hm⟩ : ∃ m, 8 - k = m + 1 := ⟨7 - k, by omega⟩
      rw [hm, pSig] at hk
      refine v_lload_n (q := 15) hX dX1_signsIn_14 rfl rfl rfl ?_
      refine v_lconst (q := 16) (e := 0) hX (by decide) dX1_signsIn_15 rfl ?_
      refine v_lcmp_eq (q := 20) (tgt := 61) hX (sgLf_J hc (by omega)) (by decide) dX1_signsIn_16 dX1_signsIn_17 (by decide) rfl (fun h16 => ?_) (fun h16 => ?_)
      · refine v_iload_n (q := 62) hX dX1_signsIn_61 rfl rfl rfl ?_
        refine v_ireturn hX hRX rfl (by first | rfl | exact bi_nar _) dX1_signsIn_62 rfl ?_
        refine ⟨congrArg (fun e => some (vi e)) ?_, rfl, rfl⟩
        by_cases hk8 : k < 8
        · have h16a : sgLf c k = 0 := by first | assumption | omega
          have h0 := (sgLf_0 hc hk8).1 h16a
          have hb : bC c k = 0 := by rw [← sgLf_b c hk8, h16a]; rfl
          first | (rw [← hk, if_pos hb, if_pos h0]) | omega
        · first | omega | (rw [← hk, show 8 - k = 0 by omega]; rfl)
      · refine v_lload_n (q := 21) hX dX1_signsIn_20 rfl rfl rfl ?_
        refine v_ldc2 (q := 24) (e := 255) hX (by decide) kl_X1_15 dX1_signsIn_21 rfl ?_
        refine v_land (q := 25) hX (bC c k) (by rw [← sgLf_b c (by omega)]; exact sand _) dX1_signsIn_24 rfl ?_
        refine v_lstore (q := 27) hX dX1_signsIn_25 (Nat.le_of_ble_eq_true rfl) (Nat.le_of_ble_eq_true rfl) rfl ?_
        dsimp only [xs1, xs2, xclr]
        refine v_lload (q := 29) hX dX1_signsIn_27 rfl rfl ?_
        refine v_ldc2 (q := 32) (e := 33) hX (by decide) kl_X1_17 dX1_signsIn_29 rfl ?_
        refine v_lcmp_lt (q := 36) (tgt := 45) hX ⟨by have := bC_r c k; omega, by have := bC_r c k; omega⟩ (by decide) dX1_signsIn_32 dX1_signsIn_33 (by decide) rfl (fun h32 => ?_) (fun h32 => ?_)
        · refine v_iconst (q := 46) hX dX1_signsIn_45 rfl ?_
          refine v_ireturn hX hRX rfl (by first | rfl | exact bi_nar _) dX1_signsIn_46 rfl ?_
          refine ⟨congrArg (fun e => some (vi e)) ?_, rfl, rfl⟩
          rw [← hk]
          by_cases hb : bC c k = 0
          · rw [if_pos hb, if_neg (fun h => by first | exact absurd ((sgLf_0 hc (by omega)).2 h) (by assumption))]; rfl
          · rw [if_neg hb, if_neg (by omega)]; rfl
        · refine v_lload (q := 38) hX dX1_signsIn_36 rfl rfl ?_
          refine v_ldc2 (q := 41) (e := 126) hX (by decide) kl_X1_19 dX1_signsIn_38 rfl ?_
          refine v_lcmp_le (q := 45) (tgt := 47) hX ⟨by have := bC_r c k; omega, by have := bC_r c k; omega⟩ (by decide) dX1_signsIn_41 dX1_signsIn_42 (by decide) rfl (fun h41 => ?_) (fun h41 => ?_)
          · refine v_iinc (q := 50) hX dX1_signsIn_47 rfl (Nat.le_of_ble_eq_true rfl) (Nat.le_of_ble_eq_true rfl) rfl ?_
            dsimp only [xs1, xs2, xclr]
            refine v_lload_n (q := 51) hX dX1_signsIn_50 rfl rfl rfl ?_
            refine v_bipush (q := 53) hX (by decide) dX1_signsIn_51 rfl ?_
            refine v_lushr (q := 54) hX (sgLf c (k + 1)) (by rw [← sgLf_s c (by omega)]; exact lushr1 _) dX1_signsIn_53 rfl ?_
            refine v_lstore_n (q := 55) hX dX1_signsIn_54 rfl (Nat.le_of_ble_eq_true rfl) (Nat.le_of_ble_eq_true rfl) rfl ?_
            dsimp only [xs1, xs2, xclr]
            refine v_iinc (q := 58) hX dX1_signsIn_55 rfl (Nat.le_of_ble_eq_true rfl) (Nat.le_of_ble_eq_true rfl) rfl ?_
            dsimp only [xs1, xs2, xclr]
            refine v_goto (tgt := 7) hX dX1_signsIn_58 (by decide) ?_
            refine xVw (pl' := [some (vl c), none, some (vi ((k + 1 : Nat) : Int)), some (vl (sgLf c (k + 1))), none, some (vi ((k + 1 : Nat) : Int)), none, none]) (by repeat' first | exact trivial | refine And.intro rfl ?_) (ih (by omega) ?_)
            rw [← hk, if_neg (by omega), if_pos ⟨by omega, by omega⟩, show 8 - (k + 1) = m by omega]
          · refine v_iconst (q := 46) hX dX1_signsIn_45 rfl ?_
            refine v_ireturn hX hRX rfl (by first | rfl | exact bi_nar _) dX1_signsIn_46 rfl ?_
            refine ⟨congrArg (fun e => some (vi e)) ?_, rfl, rfl⟩
            rw [← hk]
            by_cases hb : bC c k = 0
            · rw [if_pos hb, if_neg (fun h => by first | exact absurd ((sgLf_0 hc (by omega)).2 h) (by assumption))]; rfl
            · rw [if_neg hb, if_neg (by omega)]; rfl
  refine v_iconst (q := 1) hX dX1_signsIn_0 rfl ?_
  refine v_istore_n (q := 2) hX dX1_signsIn_1 rfl (Nat.le_of_ble_eq_true rfl) (Nat.le_of_ble_eq_true rfl) rfl ?_
  dsimp only [xs1, xs2, xclr]
  refine v_lload_n (q := 3) hX dX1_signsIn_2 rfl rfl rfl ?_
  refine v_lstore_n (q := 4) hX dX1_signsIn_3 rfl (Nat.le_of_ble_eq_true rfl) (Nat.le_of_ble_eq_true rfl) rfl ?_
  dsimp only [xs1, xs2, xclr]
  refine v_iconst (q := 5) hX dX1_signsIn_4 rfl ?_
  refine v_istore (q := 7) hX dX1_signsIn_5 (Nat.le_of_ble_eq_true rfl) (Nat.le_of_ble_eq_true rfl) rfl ?_
  dsimp only [xs1, xs2, xclr]
  exact L 0 (Nat.zero_le _) rfl

