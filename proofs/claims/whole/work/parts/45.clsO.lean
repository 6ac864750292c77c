/-! ===== the class: small questions, the fault of a text ===== -/
set_option maxRecDepth 100000 in
set_option maxHeartbeats 4000000 in
theorem c_X4_isIn {z : Nat} (D : xD) (r : xR) (v a b : Int) (hv_ : xI v) (ha_ : xI a) (hb_ : xI b) : MX 0 mX4_isIn [vi v, vi a, vi b] (356, z) D r (356, z) (xP (vi (bi (a ≤ v ∧ v ≤ b))) D r) := by
  refine MX.of (by decide +kernel) [some (vi v), some (vi a), some (vi b)] rfl (Nat.le_of_ble_eq_true rfl) ?_
  intro γ hX hRX
  refine v_iload_n (q := 1) hX dX4_isIn_0 rfl rfl rfl ?_
  refine v_iload_n (q := 2) hX dX4_isIn_1 rfl rfl rfl ?_
  refine v_icmp_lt (q := 5) (tgt := 14) hX hv_ ha_ dX4_isIn_2 (by decide) rfl (fun hx_2 => ?_) (fun hx_2 => ?_)
  · refine v_iconst (q := 15) hX dX4_isIn_14 rfl ?_
    refine v_ireturn hX hRX rfl (by first | rfl | exact bi_nar _) dX4_isIn_15 rfl ?_
    refine ⟨congrArg (fun e => some (vi e)) ?_, rfl, rfl⟩
    first | exact bi1 (by omega) | exact bi0 (by omega)
  · refine v_iload_n (q := 6) hX dX4_isIn_5 rfl rfl rfl ?_
    refine v_iload_n (q := 7) hX dX4_isIn_6 rfl rfl rfl ?_
    refine v_icmp_gt (q := 10) (tgt := 14) hX hv_ hb_ dX4_isIn_7 (by decide) rfl (fun hx_7 => ?_) (fun hx_7 => ?_)
    · refine v_iconst (q := 15) hX dX4_isIn_14 rfl ?_
      refine v_ireturn hX hRX rfl (by first | rfl | exact bi_nar _) dX4_isIn_15 rfl ?_
      refine ⟨congrArg (fun e => some (vi e)) ?_, rfl, rfl⟩
      first | exact bi1 (by omega) | exact bi0 (by omega)
    · refine v_iconst (q := 11) hX dX4_isIn_10 rfl ?_
      refine v_goto (tgt := 15) hX dX4_isIn_11 (by decide) ?_
      refine v_ireturn hX hRX rfl (by first | rfl | exact bi_nar _) dX4_isIn_15 rfl ?_
      refine ⟨congrArg (fun e => some (vi e)) ?_, rfl, rfl⟩
      first | exact bi1 (by omega) | exact bi0 (by omega)

set_option maxRecDepth 100000 in
set_option maxHeartbeats 4000000 in
theorem c_X4_isWeek {z : Nat} (D : xD) (r : xR) (w : Int) (hw_ : xI w) : MX 0 mX4_isWeek [vi w] (356, z) D r (356, z) (xP (vi (bi (0 ≤ w ∧ w < 12))) D r) := by
  refine MX.of (by decide +kernel) [some (vi w)] rfl (Nat.le_of_ble_eq_true rfl) ?_
  intro γ hX hRX
  refine v_iload_n (q := 1) hX dX4_isWeek_0 rfl rfl rfl ?_
  refine v_if_lt (q := 4) (tgt := 14) hX hw_ dX4_isWeek_1 (by decide) rfl (fun hx_1 => ?_) (fun hx_1 => ?_)
  · refine v_iconst (q := 15) hX dX4_isWeek_14 rfl ?_
    refine v_ireturn hX hRX rfl (by first | rfl | exact bi_nar _) dX4_isWeek_15 rfl ?_
    refine ⟨congrArg (fun e => some (vi e)) ?_, rfl, rfl⟩
    first | exact bi1 (by omega) | exact bi0 (by omega)
  · refine v_iload_n (q := 5) hX dX4_isWeek_4 rfl rfl rfl ?_
    refine v_bipush (q := 7) hX (by decide) dX4_isWeek_5 rfl ?_
    refine v_icmp_ge (q := 10) (tgt := 14) hX hw_ (by decide) dX4_isWeek_7 (by decide) rfl (fun hx_7 => ?_) (fun hx_7 => ?_)
    · refine v_iconst (q := 15) hX dX4_isWeek_14 rfl ?_
      refine v_ireturn hX hRX rfl (by first | rfl | exact bi_nar _) dX4_isWeek_15 rfl ?_
      refine ⟨congrArg (fun e => some (vi e)) ?_, rfl, rfl⟩
      first | exact bi1 (by omega) | exact bi0 (by omega)
    · refine v_iconst (q := 11) hX dX4_isWeek_10 rfl ?_
      refine v_goto (tgt := 15) hX dX4_isWeek_11 (by decide) ?_
      refine v_ireturn hX hRX rfl (by first | rfl | exact bi_nar _) dX4_isWeek_15 rfl ?_
      refine ⟨congrArg (fun e => some (vi e)) ?_, rfl, rfl⟩
      first | exact bi1 (by omega) | exact bi0 (by omega)

set_option maxRecDepth 100000 in
set_option maxHeartbeats 4000000 in
theorem c_X4_isError {z : Nat} (D : xD) (r : xR) (w : Int) (hw_ : xI w) : MX 0 mX4_isError [vi w] (356, z) D r (356, z) (xP (vi (bi (w < 0 ∧ w ≠ -6))) D r) := by
  refine MX.of (by decide +kernel) [some (vi w)] rfl (Nat.le_of_ble_eq_true rfl) ?_
  intro γ hX hRX
  refine v_iload_n (q := 1) hX dX4_isError_0 rfl rfl rfl ?_
  refine v_if_ge (q := 4) (tgt := 14) hX hw_ dX4_isError_1 (by decide) rfl (fun hx_1 => ?_) (fun hx_1 => ?_)
  · refine v_iconst (q := 15) hX dX4_isError_14 rfl ?_
    refine v_ireturn hX hRX rfl (by first | rfl | exact bi_nar _) dX4_isError_15 rfl ?_
    refine ⟨congrArg (fun e => some (vi e)) ?_, rfl, rfl⟩
    first | exact bi1 (by omega) | exact bi0 (by omega)
  · refine v_iload_n (q := 5) hX dX4_isError_4 rfl rfl rfl ?_
    refine v_bipush (q := 7) hX (by decide) dX4_isError_5 rfl ?_
    refine v_icmp_eq (q := 10) (tgt := 14) hX hw_ (by decide) dX4_isError_7 (by decide) rfl (fun hx_7 => ?_) (fun hx_7 => ?_)
    · refine v_iconst (q := 15) hX dX4_isError_14 rfl ?_
      refine v_ireturn hX hRX rfl (by first | rfl | exact bi_nar _) dX4_isError_15 rfl ?_
      refine ⟨congrArg (fun e => some (vi e)) ?_, rfl, rfl⟩
      first | exact bi1 (by omega) | exact bi0 (by omega)
    · refine v_iconst (q := 11) hX dX4_isError_10 rfl ?_
      refine v_goto (tgt := 15) hX dX4_isError_11 (by decide) ?_
      refine v_ireturn hX hRX rfl (by first | rfl | exact bi_nar _) dX4_isError_15 rfl ?_
      refine ⟨congrArg (fun e => some (vi e)) ?_, rfl, rfl⟩
      first | exact bi1 (by omega) | exact bi0 (by omega)

/-- the references of the objects, but those of the history's row -/
def rF (r : xR) : Prop := (WR 5 r ∧ WR 39 r ∧ (∀ i, i < 6 → WR (77 + 34 * i) r) ∧ WR 283 r ∧ WR 317 r) ∧ (r 73 0 = some 74 ∧ r 75 0 = some 76) ∧ (r 4 0 = some 5 ∧ r 4 1 = some 39 ∧ r 4 2 = some 73 ∧ r 4 3 = some 75 ∧ r 4 4 = some 281 ∧ r 4 5 = some 282) ∧ (r 281 0 = some 283 ∧ r 281 1 = some 317) ∧ xRM r
theorem rF.w5 {r : xR} (h : rF r) : WR 5 r := h.1.1
theorem rF.w39 {r : xR} (h : rF r) : WR 39 r := h.1.2.1
theorem rF.wh {r : xR} (h : rF r) : ∀ i, i < 6 → WR (77 + 34 * i) r := h.1.2.2.1
theorem rF.w283 {r : xR} (h : rF r) : WR 283 r := h.1.2.2.2.1
theorem rF.w317 {r : xR} (h : rF r) : WR 317 r := h.1.2.2.2.2
theorem rF.sg {r : xR} (h : rF r) : r 73 0 = some 74 := h.2.1.1
theorem rF.st {r : xR} (h : rF r) : r 75 0 = some 76 := h.2.1.2
theorem rF.f0 {r : xR} (h : rF r) : r 4 0 = some 5 := h.2.2.1.1
theorem rF.f1 {r : xR} (h : rF r) : r 4 1 = some 39 := h.2.2.1.2.1
theorem rF.f2 {r : xR} (h : rF r) : r 4 2 = some 73 := h.2.2.1.2.2.1
theorem rF.f3 {r : xR} (h : rF r) : r 4 3 = some 75 := h.2.2.1.2.2.2.1
theorem rF.f4 {r : xR} (h : rF r) : r 4 4 = some 281 := h.2.2.1.2.2.2.2.1
theorem rF.f5 {r : xR} (h : rF r) : r 4 5 = some 282 := h.2.2.1.2.2.2.2.2
theorem rF.s0 {r : xR} (h : rF r) : r 281 0 = some 283 := h.2.2.2.1.1
theorem rF.s1 {r : xR} (h : rF r) : r 281 1 = some 317 := h.2.2.2.1.2
theorem rF.rm {r : xR} (h : rF r) : xRM r := h.2.2.2.2
/-- only the history's row of references may be another -/
def frR (r r' : xR) : Prop := ∀ a, a ≠ 76 → r' a = r a
theorem WR.mv {r r' : xR} {o : Nat} (h : WR o r) (hf : frR r r') (ho : ∀ k, k < 34 → o + k ≠ 76) : WR o r' := by
  have e : ∀ k, k < 34 → r' (o + k) = r (o + k) := fun k hk => hf _ (ho k hk)
  have e0 : r' o = r o := e 0 (by decide)
  have e3 : r' (o + 3) = r (o + 3) := e 3 (by decide)
  refine ⟨by rw [e0]; exact h.1, by rw [e0]; exact h.2.1, by rw [e0]; exact h.2.2.1, fun p hp => ⟨by rw [e3]; exact (h.2.2.2 p hp).1, ?_⟩⟩
  have e4 : r' (o + 4 + 3 * p) = r (o + 4 + 3 * p) := by
    rw [show o + 4 + 3 * p = o + (4 + 3 * p) by omega]; exact e _ (by omega)
  have h5 := (h.2.2.2 p hp).2
  exact ⟨by rw [e4]; exact h5.1, by rw [e4]; exact h5.2⟩
theorem rF.mv {r r' : xR} (h : rF r) (hf : frR r r') : rF r' := by
  have g : ∀ a, a ≠ 76 → r' a = r a := hf
  refine ⟨⟨h.w5.mv hf (by omega), h.w39.mv hf (by omega), fun i hi => (h.wh i hi).mv hf (by omega), h.w283.mv hf (by omega), h.w317.mv hf (by omega)⟩, ?_⟩
  have h2 := h.2
  unfold xRM at h2 ⊢
  rw [g 73 (by decide), g 75 (by decide), g 4 (by decide), g 281 (by decide), g 351 (by decide)]
  exact h2
theorem CR.eq {D D' : xD} {o np : Nat} {N : Nat → Int} (h : CR D o N np) (hnp : np ≤ 10) (hf : ∀ a, o ≤ a → a < o + 34 → D' a = D a) : CR D' o N np := by
  have e : ∀ i, i < 34 → D' (o + i) = D (o + i) := fun i hi => hf _ (by omega) (by omega)
  have e0 : D' o = D o := e 0 (by decide)
  refine h.keep (fun j _ _ => by rw [e0]) (fun j hj => by rw [e 1 (by decide)]; exact h.se hj) (fun j hj => by rw [e 2 (by decide)]; exact h.fh hj) ⟨rfl, rfl, rfl, rfl⟩ (fun p hp => (h.pc hp).keep (fun j _ => ?_) (fun j _ => ?_) (fun j _ => ?_) (fun _ _ => rfl))
  · rw [show o + 4 + 3 * p = o + (4 + 3 * p) by omega, e _ (by omega)]
  · rw [show o + 4 + 3 * p + 1 = o + (4 + 3 * p + 1) by omega, e _ (by omega)]
  · rw [show o + 4 + 3 * p + 2 = o + (4 + 3 * p + 2) by omega, e _ (by omega)]
theorem oLF : xOb 356 4 4 := ⟨rfl, by decide, by decide⟩
theorem oHis : xOb 356 75 0 := ⟨rfl, by decide, by decide⟩
theorem aSts : xAr 356 76 14 6 := ⟨rfl, by decide, by decide, by decide⟩
theorem aSlo : xAr 356 281 14 2 := ⟨rfl, by decide, by decide, by decide⟩
theorem aSvd : xAr 356 282 13 2 := ⟨rfl, by decide, by decide, by decide⟩
def tRF (T : Nat → Int) (n q j : Nat) : Int := if (tAct T n q).1 = true then tFl T n j (tAct T n q).2.2 else ((tAct T n q).2.2 : Int)
theorem tRF_f {T : Nat → Int} {n q j : Nat} (h : (tAct T n q).1 = false) : tRF T n q j = ((tAct T n q).2.2 : Int) := if_neg (by rw [h]; decide)
theorem tRF_e {T : Nat → Int} {n q j : Nat} (h : (tAct T n q).1 = true) (hp : n ≤ (tAct T n q).2.2) : tRF T n q j = -6 := by
  unfold tRF
  rw [if_pos h]
  cases j with
  | zero => rfl
  | succ j => unfold tFl; rw [if_neg (by omega)]
theorem tRF_n {T : Nat → Int} {n q j : Nat} (h : (tAct T n q).1 = true) (hp : (tAct T n q).2.2 < n) (hj : n - (tAct T n q).2.2 ≤ j) (hc : tCh T n (tAct T n q).2.2 ≠ 59) : tRF T n q j = ((tAct T n q).2.2 : Int) := by
  unfold tRF
  rw [if_pos h]
  have hc2 : T (tAct T n q).2.2 ≠ 59 := fun e => hc (by unfold tCh; rw [if_pos hp]; exact e)
  cases j with
  | zero => omega
  | succ j => unfold tFl; rw [if_pos hp, if_neg (by omega)]
theorem tRF_g {T : Nat → Int} {n q j : Nat} (h : (tAct T n q).1 = true) (hp : (tAct T n q).2.2 < n) (hj : n - (tAct T n q).2.2 ≤ j) (hc : tCh T n (tAct T n q).2.2 = 59) : tRF T n q j = tRF T n ((tAct T n q).2.2 + 1) (j - 1) := by
  have hc2 : T (tAct T n q).2.2 = 59 := by unfold tCh at hc; rw [if_pos hp] at hc; exact hc
  cases j with
  | zero => omega
  | succ j =>
    have e : tRF T n q (j + 1) = tFl T n (j + 1) (tAct T n q).2.2 := if_pos h
    rw [e]
    unfold tFl
    rw [if_pos hp, if_pos (by omega)]
    rfl
theorem tAct_end {T : Nat → Int} {n : Nat} : (tAct T n n).1 = false ∧ (tAct T n n).2.2 = n := by
  have h0 : tCh T n n = 0 := if_neg (by omega)
  exact tAct_x (by omega) (by omega) (by omega) (by omega) (by omega)
theorem pS.go {D E F : xD} {n q q' : Nat} (h : pS D E n q) (h2 : pS E F n q') : pS D F n q' := ⟨fun a ha => (h2.1 a ha).trans (h.1 a ha), h2.2.1, h2.2.2⟩
set_option maxRecDepth 100000 in
set_option maxHeartbeats 4000000 in
theorem c_X4_fault {z : Nat} (D : xD) (r : xR) (hF : rF r) (n : Nat) (hT : tOk (D 74) n) (h1 : D 73 1 = (n : Int)) : MX 5 mX4_fault [.ref 4] (356, z) D r (356, z) (xEs (vi (tFault (D 74) n)) (fun D' => ∃ q, pS D D' n q) r) := by
  refine MX.of (by decide +kernel) [some (.ref 4), none] rfl (Nat.le_of_ble_eq_true rfl) ?_
  intro γ hX hRX
  have hn80 := hT.1
  have L : ∀ m k q j (E : xD), n + 1 - q ≤ m → k ≤ q → q ≤ n → pS D E n q → n - (tAct (D 74) n q).2.2 ≤ j → tRF (D 74) n q j = tFault (D 74) n → xV γ 9 [some (.ref 4), some (vi (k : Nat))] [] (356, z) E r := by
    intro m
    induction m with
    | zero => intro k q j E hm hk hq; omega
    | succ m ih =>
      intro k q j E hm hk hq e_ hj hG
      have eT := e_.T
      have hw1 := tAct_le (D 74) n q hq
      obtain ⟨ee, a1_, a0_, hM⟩ := c_X1_readAct (z := z) E r hF.sg n q (by rw [eT]; exact hT) e_.2.1 e_.2.2 (by omega)
      rw [eT] at a1_ a0_
      cases hf_ : (tAct (D 74) n q).1 with
      | false =>
        rcases a0_ hf_ with rfl | ⟨rfl, hd_⟩
        · refine v_iload_n (q := 10) hX dX4_fault_9 rfl rfl rfl ?_
          refine v_bipush (q := 12) hX (by decide) dX4_fault_10 rfl ?_
          refine v_icmp_ge (q := 15) (tgt := 72) hX ⟨by omega, by omega⟩ (by decide) dX4_fault_12 (by decide) rfl (fun hx_12 => ?_) (fun hx_12 => ?_)
          · refine v_aload_n (q := 73) hX dX4_fault_72 rfl rfl rfl ?_
            refine w_getR (q := 76) hX fl_X4_22 rfl oLF hF.f2 dX4_fault_73 rfl ?_
            refine w_getI (q := 79) hX fl_X4_237 rfl oPad dX4_fault_76 rfl ?_
            rw [e_.2.2]
            refine v_ireturn hX hRX rfl (by first | rfl | exact bi_nar _) dX4_fault_79 rfl ?_
            refine ⟨congrArg (fun e => some (vi e)) ?_, rfl, _, e_⟩
            have hqn : q = n := by have := hT.1; omega
            rw [← hG, tRF_f hf_, hqn]
            exact congrArg (fun (x : Nat) => (x : Int)) tAct_end.2.symm
          · refine v_aload_n (q := 16) hX dX4_fault_15 rfl rfl rfl ?_
            refine w_getR (q := 19) hX fl_X4_22 rfl oLF hF.f2 dX4_fault_16 rfl ?_
            refine w_callVe (q := 22) hX (hM) rfl kV_X1_readAct rfl (by decide) lk_X4_234 (by decide) rfl oPad (Nat.le_of_ble_eq_true rfl) dX4_fault_19 rfl (fun E1 hE1 => ?_)
            obtain ⟨e1_, -⟩ := hE1
            rw [eT] at e1_
            have eA := e_.go e1_
            have eT1 := eA.T
            refine v_if_ne (q := 25) (tgt := 33) hX ⟨by omega, by omega⟩ dX4_fault_22 (by decide) rfl (fun hx_22 => ?_) (fun hx_22 => ?_)
            · exact absurd hx_22 (by decide)
            · refine v_aload_n (q := 26) hX dX4_fault_25 rfl rfl rfl ?_
              refine w_getR (q := 29) hX fl_X4_22 rfl oLF hF.f2 dX4_fault_26 rfl ?_
              refine w_getI (q := 32) hX fl_X4_237 rfl oPad dX4_fault_29 rfl ?_
              rw [eA.2.2]
              refine v_ireturn hX hRX rfl (by first | rfl | exact bi_nar _) dX4_fault_32 rfl ?_
              refine ⟨congrArg (fun e => some (vi e)) (by rw [← hG, tRF_f hf_]), rfl, _, eA⟩
        · refine v_iload_n (q := 10) hX dX4_fault_9 rfl rfl rfl ?_
          refine v_bipush (q := 12) hX (by decide) dX4_fault_10 rfl ?_
          refine v_icmp_ge (q := 15) (tgt := 72) hX ⟨by omega, by omega⟩ (by decide) dX4_fault_12 (by decide) rfl (fun hx_12 => ?_) (fun hx_12 => ?_)
          · refine v_aload_n (q := 73) hX dX4_fault_72 rfl rfl rfl ?_
            refine w_getR (q := 76) hX fl_X4_22 rfl oLF hF.f2 dX4_fault_73 rfl ?_
            refine w_getI (q := 79) hX fl_X4_237 rfl oPad dX4_fault_76 rfl ?_
            rw [e_.2.2]
            refine v_ireturn hX hRX rfl (by first | rfl | exact bi_nar _) dX4_fault_79 rfl ?_
            refine ⟨congrArg (fun e => some (vi e)) ?_, rfl, _, e_⟩
            have hqn : q = n := by have := hT.1; omega
            rw [← hG, tRF_f hf_, hqn]
            exact congrArg (fun (x : Nat) => (x : Int)) tAct_end.2.symm
          · refine v_aload_n (q := 16) hX dX4_fault_15 rfl rfl rfl ?_
            refine w_getR (q := 19) hX fl_X4_22 rfl oLF hF.f2 dX4_fault_16 rfl ?_
            refine w_callVe (q := 22) hX (hM) rfl kV_X1_readAct rfl (by decide) lk_X4_234 (by decide) rfl oPad (Nat.le_of_ble_eq_true rfl) dX4_fault_19 rfl (fun E1 hE1 => ?_)
            obtain ⟨e1_, -⟩ := hE1
            rw [eT] at e1_
            have eA := e_.go e1_
            have eT1 := eA.T
            refine v_if_ne (q := 25) (tgt := 33) hX ⟨by omega, by omega⟩ dX4_fault_22 (by decide) rfl (fun hx_22 => ?_) (fun hx_22 => ?_)
            · refine v_aload_n (q := 34) hX dX4_fault_33 rfl rfl rfl ?_
              refine w_getR (q := 37) hX fl_X4_22 rfl oLF hF.f2 dX4_fault_34 rfl ?_
              refine w_callV (q := 40) hX (c_X1_isAtEnd E1 r hF.sg n (tAct (D 74) n q).2.2 (by rw [eT1]; exact hT) eA.2.1 eA.2.2 (by omega)) rfl kV_X1_isAtEnd rfl (by decide) lk_X4_240 (by decide) rfl oPad (Nat.le_of_ble_eq_true rfl) dX4_fault_37 rfl ?_
              refine w_ifeq (q := 43) (tgt := 46) hX dX4_fault_40 (by decide) rfl (fun hx_40 => ?_) (fun hx_40 => ?_)
              · refine v_aload_n (q := 47) hX dX4_fault_46 rfl rfl rfl ?_
                refine w_getR (q := 50) hX fl_X4_22 rfl oLF hF.f2 dX4_fault_47 rfl ?_
                refine v_bipush (q := 52) hX (by decide) dX4_fault_50 rfl ?_
                refine w_callV (q := 55) hX (c_X1_readSign0 E1 r hF.sg n (tAct (D 74) n q).2.2 (by rw [eT1]; exact hT) eA.2.1 eA.2.2 (by omega) 59 (by decide) (by rw [eT1]; exact tDg_ne hd_ (by decide))) rfl kV_X1_readSign rfl (by decide) lk_X4_243 (by decide) rfl oPad (Nat.le_of_ble_eq_true rfl) dX4_fault_52 rfl ?_
                refine v_if_ne (q := 58) (tgt := 66) hX ⟨by omega, by omega⟩ dX4_fault_55 (by decide) rfl (fun hx_55 => ?_) (fun hx_55 => ?_)
                · exact absurd hx_55 (by decide)
                · refine v_aload_n (q := 59) hX dX4_fault_58 rfl rfl rfl ?_
                  refine w_getR (q := 62) hX fl_X4_22 rfl oLF hF.f2 dX4_fault_59 rfl ?_
                  refine w_getI (q := 65) hX fl_X4_237 rfl oPad dX4_fault_62 rfl ?_
                  rw [eA.2.2]
                  refine v_ireturn hX hRX rfl (by first | rfl | exact bi_nar _) dX4_fault_65 rfl ?_
                  refine ⟨congrArg (fun e => some (vi e)) (by rw [← hG, tRF_f hf_]), rfl, _, eA⟩
              · exact absurd (tDg_lt hd_) (by omega)
            · exact absurd hx_22 (by decide)
      | true =>
        have e1 := a1_ hf_
        subst e1
        by_cases hle : n ≤ (tAct (D 74) n q).2.2
        · refine v_iload_n (q := 10) hX dX4_fault_9 rfl rfl rfl ?_
          refine v_bipush (q := 12) hX (by decide) dX4_fault_10 rfl ?_
          refine v_icmp_ge (q := 15) (tgt := 72) hX ⟨by omega, by omega⟩ (by decide) dX4_fault_12 (by decide) rfl (fun hx_12 => ?_) (fun hx_12 => ?_)
          · refine v_aload_n (q := 73) hX dX4_fault_72 rfl rfl rfl ?_
            refine w_getR (q := 76) hX fl_X4_22 rfl oLF hF.f2 dX4_fault_73 rfl ?_
            refine w_getI (q := 79) hX fl_X4_237 rfl oPad dX4_fault_76 rfl ?_
            rw [e_.2.2]
            refine v_ireturn hX hRX rfl (by first | rfl | exact bi_nar _) dX4_fault_79 rfl ?_
            exfalso
            have hqn : q = n := by have := hT.1; omega
            rw [hqn] at hf_
            exact absurd (hf_.symm.trans tAct_end.1) (by decide)
          · refine v_aload_n (q := 16) hX dX4_fault_15 rfl rfl rfl ?_
            refine w_getR (q := 19) hX fl_X4_22 rfl oLF hF.f2 dX4_fault_16 rfl ?_
            refine w_callVe (q := 22) hX (hM) rfl kV_X1_readAct rfl (by decide) lk_X4_234 (by decide) rfl oPad (Nat.le_of_ble_eq_true rfl) dX4_fault_19 rfl (fun E1 hE1 => ?_)
            obtain ⟨e1_, -⟩ := hE1
            rw [eT] at e1_
            have eA := e_.go e1_
            have eT1 := eA.T
            refine v_if_ne (q := 25) (tgt := 33) hX ⟨by omega, by omega⟩ dX4_fault_22 (by decide) rfl (fun hx_22 => ?_) (fun hx_22 => ?_)
            · refine v_aload_n (q := 34) hX dX4_fault_33 rfl rfl rfl ?_
              refine w_getR (q := 37) hX fl_X4_22 rfl oLF hF.f2 dX4_fault_34 rfl ?_
              refine w_callV (q := 40) hX (c_X1_isAtEnd E1 r hF.sg n (tAct (D 74) n q).2.2 (by rw [eT1]; exact hT) eA.2.1 eA.2.2 (by omega)) rfl kV_X1_isAtEnd rfl (by decide) lk_X4_240 (by decide) rfl oPad (Nat.le_of_ble_eq_true rfl) dX4_fault_37 rfl ?_
              refine w_ifeq (q := 43) (tgt := 46) hX dX4_fault_40 (by decide) rfl (fun hx_40 => ?_) (fun hx_40 => ?_)
              · exact absurd hle (by omega)
              · refine v_bipush (q := 45) hX (by decide) dX4_fault_43 rfl ?_
                refine v_ireturn hX hRX rfl (rfl) dX4_fault_45 rfl ?_
                refine ⟨congrArg (fun e => some (vi e)) (by rw [← hG, tRF_e hf_ (by omega)]), rfl, _, eA⟩
            · exact absurd hx_22 (by decide)
        have hlt : (tAct (D 74) n q).2.2 < n := by omega
        by_cases hs_ : tCh (D 74) n (tAct (D 74) n q).2.2 = 59
        · refine v_iload_n (q := 10) hX dX4_fault_9 rfl rfl rfl ?_
          refine v_bipush (q := 12) hX (by decide) dX4_fault_10 rfl ?_
          refine v_icmp_ge (q := 15) (tgt := 72) hX ⟨by omega, by omega⟩ (by decide) dX4_fault_12 (by decide) rfl (fun hx_12 => ?_) (fun hx_12 => ?_)
          · refine v_aload_n (q := 73) hX dX4_fault_72 rfl rfl rfl ?_
            refine w_getR (q := 76) hX fl_X4_22 rfl oLF hF.f2 dX4_fault_73 rfl ?_
            refine w_getI (q := 79) hX fl_X4_237 rfl oPad dX4_fault_76 rfl ?_
            rw [e_.2.2]
            refine v_ireturn hX hRX rfl (by first | rfl | exact bi_nar _) dX4_fault_79 rfl ?_
            exfalso
            have hqn : q = n := by have := hT.1; omega
            rw [hqn] at hf_
            exact absurd (hf_.symm.trans tAct_end.1) (by decide)
          · refine v_aload_n (q := 16) hX dX4_fault_15 rfl rfl rfl ?_
            refine w_getR (q := 19) hX fl_X4_22 rfl oLF hF.f2 dX4_fault_16 rfl ?_
            refine w_callVe (q := 22) hX (hM) rfl kV_X1_readAct rfl (by decide) lk_X4_234 (by decide) rfl oPad (Nat.le_of_ble_eq_true rfl) dX4_fault_19 rfl (fun E1 hE1 => ?_)
            obtain ⟨e1_, -⟩ := hE1
            rw [eT] at e1_
            have eA := e_.go e1_
            have eT1 := eA.T
            refine v_if_ne (q := 25) (tgt := 33) hX ⟨by omega, by omega⟩ dX4_fault_22 (by decide) rfl (fun hx_22 => ?_) (fun hx_22 => ?_)
            · refine v_aload_n (q := 34) hX dX4_fault_33 rfl rfl rfl ?_
              refine w_getR (q := 37) hX fl_X4_22 rfl oLF hF.f2 dX4_fault_34 rfl ?_
              refine w_callV (q := 40) hX (c_X1_isAtEnd E1 r hF.sg n (tAct (D 74) n q).2.2 (by rw [eT1]; exact hT) eA.2.1 eA.2.2 (by omega)) rfl kV_X1_isAtEnd rfl (by decide) lk_X4_240 (by decide) rfl oPad (Nat.le_of_ble_eq_true rfl) dX4_fault_37 rfl ?_
              refine w_ifeq (q := 43) (tgt := 46) hX dX4_fault_40 (by decide) rfl (fun hx_40 => ?_) (fun hx_40 => ?_)
              · refine v_aload_n (q := 47) hX dX4_fault_46 rfl rfl rfl ?_
                refine w_getR (q := 50) hX fl_X4_22 rfl oLF hF.f2 dX4_fault_47 rfl ?_
                refine v_bipush (q := 52) hX (by decide) dX4_fault_50 rfl ?_
                refine w_callVe (q := 55) hX (c_X1_readSign E1 r hF.sg n (tAct (D 74) n q).2.2 (by rw [eT1]; exact hT) eA.2.1 eA.2.2 (by omega) 59 (by decide) (by rw [eT1]; exact hs_)) rfl kV_X1_readSign rfl (by decide) lk_X4_243 (by decide) rfl oPad (Nat.le_of_ble_eq_true rfl) dX4_fault_52 rfl (fun E2 hE2 => ?_)
                obtain ⟨e2_, -⟩ := eA.sg hE2
                refine v_if_ne (q := 58) (tgt := 66) hX ⟨by omega, by omega⟩ dX4_fault_55 (by decide) rfl (fun hx_55 => ?_) (fun hx_55 => ?_)
                · refine v_iinc (q := 69) hX dX4_fault_66 rfl (Nat.le_of_ble_eq_true rfl) (Nat.le_of_ble_eq_true rfl) rfl ?_
                  dsimp only [xs1, xs2, xclr]
                  refine v_goto (tgt := 9) hX dX4_fault_69 (by decide) ?_
                  have hw := tAct_le (D 74) n ((tAct (D 74) n q).2.2 + 1) (by omega)
                  exact ih (k + 1) ((tAct (D 74) n q).2.2 + 1) (j - 1) E2 (by omega) (by omega) (by omega) e2_ (by omega) (by rw [← tRF_g hf_ hlt hj hs_]; exact hG)
                · exact absurd hx_55 (by decide)
              · exact absurd hlt (by omega)
            · exact absurd hx_22 (by decide)
        · refine v_iload_n (q := 10) hX dX4_fault_9 rfl rfl rfl ?_
          refine v_bipush (q := 12) hX (by decide) dX4_fault_10 rfl ?_
          refine v_icmp_ge (q := 15) (tgt := 72) hX ⟨by omega, by omega⟩ (by decide) dX4_fault_12 (by decide) rfl (fun hx_12 => ?_) (fun hx_12 => ?_)
          · refine v_aload_n (q := 73) hX dX4_fault_72 rfl rfl rfl ?_
            refine w_getR (q := 76) hX fl_X4_22 rfl oLF hF.f2 dX4_fault_73 rfl ?_
            refine w_getI (q := 79) hX fl_X4_237 rfl oPad dX4_fault_76 rfl ?_
            rw [e_.2.2]
            refine v_ireturn hX hRX rfl (by first | rfl | exact bi_nar _) dX4_fault_79 rfl ?_
            exfalso
            have hqn : q = n := by have := hT.1; omega
            rw [hqn] at hf_
            exact absurd (hf_.symm.trans tAct_end.1) (by decide)
          · refine v_aload_n (q := 16) hX dX4_fault_15 rfl rfl rfl ?_
            refine w_getR (q := 19) hX fl_X4_22 rfl oLF hF.f2 dX4_fault_16 rfl ?_
            refine w_callVe (q := 22) hX (hM) rfl kV_X1_readAct rfl (by decide) lk_X4_234 (by decide) rfl oPad (Nat.le_of_ble_eq_true rfl) dX4_fault_19 rfl (fun E1 hE1 => ?_)
            obtain ⟨e1_, -⟩ := hE1
            rw [eT] at e1_
            have eA := e_.go e1_
            have eT1 := eA.T
            refine v_if_ne (q := 25) (tgt := 33) hX ⟨by omega, by omega⟩ dX4_fault_22 (by decide) rfl (fun hx_22 => ?_) (fun hx_22 => ?_)
            · refine v_aload_n (q := 34) hX dX4_fault_33 rfl rfl rfl ?_
              refine w_getR (q := 37) hX fl_X4_22 rfl oLF hF.f2 dX4_fault_34 rfl ?_
              refine w_callV (q := 40) hX (c_X1_isAtEnd E1 r hF.sg n (tAct (D 74) n q).2.2 (by rw [eT1]; exact hT) eA.2.1 eA.2.2 (by omega)) rfl kV_X1_isAtEnd rfl (by decide) lk_X4_240 (by decide) rfl oPad (Nat.le_of_ble_eq_true rfl) dX4_fault_37 rfl ?_
              refine w_ifeq (q := 43) (tgt := 46) hX dX4_fault_40 (by decide) rfl (fun hx_40 => ?_) (fun hx_40 => ?_)
              · refine v_aload_n (q := 47) hX dX4_fault_46 rfl rfl rfl ?_
                refine w_getR (q := 50) hX fl_X4_22 rfl oLF hF.f2 dX4_fault_47 rfl ?_
                refine v_bipush (q := 52) hX (by decide) dX4_fault_50 rfl ?_
                refine w_callV (q := 55) hX (c_X1_readSign0 E1 r hF.sg n (tAct (D 74) n q).2.2 (by rw [eT1]; exact hT) eA.2.1 eA.2.2 (by omega) 59 (by decide) (by rw [eT1]; exact hs_)) rfl kV_X1_readSign rfl (by decide) lk_X4_243 (by decide) rfl oPad (Nat.le_of_ble_eq_true rfl) dX4_fault_52 rfl ?_
                refine v_if_ne (q := 58) (tgt := 66) hX ⟨by omega, by omega⟩ dX4_fault_55 (by decide) rfl (fun hx_55 => ?_) (fun hx_55 => ?_)
                · exact absurd hx_55 (by decide)
                · refine v_aload_n (q := 59) hX dX4_fault_58 rfl rfl rfl ?_
                  refine w_getR (q := 62) hX fl_X4_22 rfl oLF hF.f2 dX4_fault_59 rfl ?_
                  refine w_getI (q := 65) hX fl_X4_237 rfl oPad dX4_fault_62 rfl ?_
                  rw [eA.2.2]
                  refine v_ireturn hX hRX rfl (by first | rfl | exact bi_nar _) dX4_fault_65 rfl ?_
                  refine ⟨congrArg (fun e => some (vi e)) (by rw [← hG, tRF_n hf_ (by omega) hj hs_]), rfl, _, eA⟩
              · exact absurd hlt (by omega)
            · exact absurd hx_22 (by decide)
  refine v_aload_n (q := 1) hX dX4_fault_0 rfl rfl rfl ?_
  refine w_getR (q := 4) hX fl_X4_22 rfl oLF hF.f2 dX4_fault_1 rfl ?_
  refine w_callVn (q := 7) hX (c_X1_startReading D r) rfl kV_X1_startReading rfl (by decide) lk_X4_231 (by decide) rfl oPad (Nat.le_of_ble_eq_true rfl) dX4_fault_4 rfl (fun D1 hD1 => ?_)
  have e_ : pS D D1 n 0 := by subst hD1; exact ⟨fun a ha => xw_ne _ _ _ ha, by rw [xw_at]; exact (fu_ne _ _ _ (by decide)).trans h1, by rw [xw_at]; exact fu_at _ _ _⟩
  refine v_iconst (q := 8) hX dX4_fault_7 rfl ?_
  refine v_istore_n (q := 9) hX dX4_fault_8 rfl (Nat.le_of_ble_eq_true rfl) (Nat.le_of_ble_eq_true rfl) rfl ?_
  dsimp only [xs1, xs2, xclr]
  exact L (n + 1) 0 0 n D1 (by omega) (by omega) (by omega) e_ (by omega) rfl

