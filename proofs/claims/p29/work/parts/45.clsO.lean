set_option maxRecDepth 100000 in
set_option maxHeartbeats 4000000 in
theorem c_X4_isIn {z : Nat} (D : xD) (r : xR) (v a b : Int) (hv_ : xI v) (ha_ : xI a) (hb_ : xI b) : MX 0 mX4_isIn [vi v, vi a, vi b] (351, z) D r (351, z) (xP (vi (bi (a ≤ v ∧ v ≤ b))) D r) := by
  refine MX.of (by decide +kernel) [some (vi v), some (vi a), some (vi b)] rfl (Nat.le_of_ble_eq_true rfl) ?_
  intro γ hX hRX
  refine v_iload_n (q := 1) hX dX4_isIn_0 rfl rfl rfl ?_
  refine v_iload_n (q := 2) hX dX4_isIn_1 rfl rfl rfl ?_
  refine v_icmp_lt (q := 5) (tgt := 14) hX hv_ ha_ dX4_isIn_2 (by decide) rfl (fun hx_2 => ?_) (fun hx_2 => ?_)
  · refine v_iconst (q := 15) hX dX4_isIn_14 rfl ?_
    refine v_ireturn hX hRX rfl (by first | rfl | exact bi_nar _) dX4_isIn_15 rfl ?_
    refine ⟨congrArg (fun e => some (vi e)) ?_, rfl, rfl⟩
    first | exact bi1 (by omega) | exact bi0 (by omega)
  · refine v_iload_n (q := 6) hX dX4_isIn_5 rfl rfl rfl ?_
    refine v_iload_n (q := 7) hX dX4_isIn_6 rfl rfl rfl ?_
    refine v_icmp_gt (q := 10) (tgt := 14) hX hv_ hb_ dX4_isIn_7 (by decide) rfl (fun hx_7 => ?_) (fun hx_7 => ?_)
    · refine v_iconst (q := 15) hX dX4_isIn_14 rfl ?_
      refine v_ireturn hX hRX rfl (by first | rfl | exact bi_nar _) dX4_isIn_15 rfl ?_
      refine ⟨congrArg (fun e => some (vi e)) ?_, rfl, rfl⟩
      first | exact bi1 (by omega) | exact bi0 (by omega)
    · refine v_iconst (q := 11) hX dX4_isIn_10 rfl ?_
      refine v_goto (tgt := 15) hX dX4_isIn_11 (by decide) ?_
      refine v_ireturn hX hRX rfl (by first | rfl | exact bi_nar _) dX4_isIn_15 rfl ?_
      refine ⟨congrArg (fun e => some (vi e)) ?_, rfl, rfl⟩
      first | exact bi1 (by omega) | exact bi0 (by omega)

set_option maxRecDepth 100000 in
set_option maxHeartbeats 4000000 in
theorem c_X4_isWeek {z : Nat} (D : xD) (r : xR) (w : Int) (hw_ : xI w) : MX 0 mX4_isWeek [vi w] (351, z) D r (351, z) (xP (vi (bi (0 ≤ w ∧ w < 12))) D r) := by
  refine MX.of (by decide +kernel) [some (vi w)] rfl (Nat.le_of_ble_eq_true rfl) ?_
  intro γ hX hRX
  refine v_iload_n (q := 1) hX dX4_isWeek_0 rfl rfl rfl ?_
  refine v_if_lt (q := 4) (tgt := 14) hX hw_ dX4_isWeek_1 (by decide) rfl (fun hx_1 => ?_) (fun hx_1 => ?_)
  · refine v_iconst (q := 15) hX dX4_isWeek_14 rfl ?_
    refine v_ireturn hX hRX rfl (by first | rfl | exact bi_nar _) dX4_isWeek_15 rfl ?_
    refine ⟨congrArg (fun e => some (vi e)) ?_, rfl, rfl⟩
    first | exact bi1 (by omega) | exact bi0 (by omega)
  · refine v_iload_n (q := 5) hX dX4_isWeek_4 rfl rfl rfl ?_
    refine v_bipush (q := 7) hX (by decide) dX4_isWeek_5 rfl ?_
    refine v_icmp_ge (q := 10) (tgt := 14) hX hw_ (by decide) dX4_isWeek_7 (by decide) rfl (fun hx_7 => ?_) (fun hx_7 => ?_)
    · refine v_iconst (q := 15) hX dX4_isWeek_14 rfl ?_
      refine v_ireturn hX hRX rfl (by first | rfl | exact bi_nar _) dX4_isWeek_15 rfl ?_
      refine ⟨congrArg (fun e => some (vi e)) ?_, rfl, rfl⟩
      first | exact bi1 (by omega) | exact bi0 (by omega)
    · refine v_iconst (q := 11) hX dX4_isWeek_10 rfl ?_
      refine v_goto (tgt := 15) hX dX4_isWeek_11 (by decide) ?_
      refine v_ireturn hX hRX rfl (by first | rfl | exact bi_nar _) dX4_isWeek_15 rfl ?_
      refine ⟨congrArg (fun e => some (vi e)) ?_, rfl, rfl⟩
      first | exact bi1 (by omega) | exact bi0 (by omega)

/-- the references of the objects, but those of the history's row -/
def rF (r : xR) : Prop := (WR 5 r ∧ WR 39 r ∧ (∀ i, i < 6 → WR (77 + 34 * i) r) ∧ WR 283 r ∧ WR 317 r) ∧ (r 73 0 = some 74 ∧ r 75 0 = some 76) ∧ (r 4 0 = some 5 ∧ r 4 1 = some 39 ∧ r 4 2 = some 73 ∧ r 4 3 = some 75 ∧ r 4 4 = some 281 ∧ r 4 5 = some 282) ∧ (r 281 0 = some 283 ∧ r 281 1 = some 317) ∧ xRM r
theorem rF.w5 {r : xR} (h : rF r) : WR 5 r := h.1.1
theorem rF.w39 {r : xR} (h : rF r) : WR 39 r := h.1.2.1
theorem rF.wh {r : xR} (h : rF r) : ∀ i, i < 6 → WR (77 + 34 * i) r := h.1.2.2.1
theorem rF.w283 {r : xR} (h : rF r) : WR 283 r := h.1.2.2.2.1
theorem rF.w317 {r : xR} (h : rF r) : WR 317 r := h.1.2.2.2.2
theorem rF.st {r : xR} (h : rF r) : r 75 0 = some 76 := h.2.1.2
theorem rF.f0 {r : xR} (h : rF r) : r 4 0 = some 5 := h.2.2.1.1
theorem rF.f1 {r : xR} (h : rF r) : r 4 1 = some 39 := h.2.2.1.2.1
theorem rF.f2 {r : xR} (h : rF r) : r 4 2 = some 73 := h.2.2.1.2.2.1
theorem rF.f3 {r : xR} (h : rF r) : r 4 3 = some 75 := h.2.2.1.2.2.2.1
theorem rF.f4 {r : xR} (h : rF r) : r 4 4 = some 281 := h.2.2.1.2.2.2.2.1
theorem rF.f5 {r : xR} (h : rF r) : r 4 5 = some 282 := h.2.2.1.2.2.2.2.2
theorem rF.s0 {r : xR} (h : rF r) : r 281 0 = some 283 := h.2.2.2.1.1
theorem rF.s1 {r : xR} (h : rF r) : r 281 1 = some 317 := h.2.2.2.1.2
/-- only the history's row of references may be another -/
def frR (r r' : xR) : Prop := ∀ a, a ≠ 76 → r' a = r a
theorem WR.mv {r r' : xR} {o : Nat} (h : WR o r) (hf : frR r r') (ho : ∀ k, k < 34 → o + k ≠ 76) : WR o r' := by
  have e : ∀ k, k < 34 → r' (o + k) = r (o + k) := fun k hk => hf _ (ho k hk)
  have e0 : r' o = r o := e 0 (by decide)
  have e3 : r' (o + 3) = r (o + 3) := e 3 (by decide)
  refine ⟨by rw [e0]; exact h.1, by rw [e0]; exact h.2.1, by rw [e0]; exact h.2.2.1, fun p hp => ⟨by rw [e3]; exact (h.2.2.2 p hp).1, ?_⟩⟩
  have e4 : r' (o + 4 + 3 * p) = r (o + 4 + 3 * p) := by
    rw [show o + 4 + 3 * p = o + (4 + 3 * p) by omega]; exact e _ (by omega)
  have h5 := (h.2.2.2 p hp).2
  exact ⟨by rw [e4]; exact h5.1, by rw [e4]; exact h5.2⟩
theorem rF.mv {r r' : xR} (h : rF r) (hf : frR r r') : rF r' := by
  have g : ∀ a, a ≠ 76 → r' a = r a := hf
  refine ⟨⟨h.w5.mv hf (by omega), h.w39.mv hf (by omega), fun i hi => (h.wh i hi).mv hf (by omega), h.w283.mv hf (by omega), h.w317.mv hf (by omega)⟩, ?_⟩
  have h2 := h.2
  rw [g 73 (by decide), g 75 (by decide), g 4 (by decide), g 281 (by decide)]
  exact h2
theorem CR.eq {D D' : xD} {o np : Nat} {N : Nat → Int} (h : CR D o N np) (hnp : np ≤ 10) (hf : ∀ a, o ≤ a → a < o + 34 → D' a = D a) : CR D' o N np := by
  have e : ∀ i, i < 34 → D' (o + i) = D (o + i) := fun i hi => hf _ (by omega) (by omega)
  have e0 : D' o = D o := e 0 (by decide)
  refine h.keep (fun j _ _ => by rw [e0]) (fun j hj => by rw [e 1 (by decide)]; exact h.se hj) (fun j hj => by rw [e 2 (by decide)]; exact h.fh hj) ⟨rfl, rfl, rfl, rfl⟩ (fun p hp => (h.pc hp).keep (fun j _ => ?_) (fun j _ => ?_) (fun j _ => ?_) (fun _ _ => rfl))
  · rw [show o + 4 + 3 * p = o + (4 + 3 * p) by omega, e _ (by omega)]
  · rw [show o + 4 + 3 * p + 1 = o + (4 + 3 * p + 1) by omega, e _ (by omega)]
  · rw [show o + 4 + 3 * p + 2 = o + (4 + 3 * p + 2) by omega, e _ (by omega)]
theorem oLF : xOb 351 4 4 := ⟨rfl, by decide, by decide⟩
theorem oHis : xOb 351 75 0 := ⟨rfl, by decide, by decide⟩
theorem aSts : xAr 351 76 14 6 := ⟨rfl, by decide, by decide, by decide⟩
theorem aSlo : xAr 351 281 14 2 := ⟨rfl, by decide, by decide, by decide⟩
theorem aSvd : xAr 351 282 13 2 := ⟨rfl, by decide, by decide, by decide⟩
