/-! ===== texts ===== -/
/-- n characters, each of them one that can be put -/
def tOk (T : Nat → Int) (n : Nat) : Prop := n ≤ 80 ∧ ∀ i, i < n → 33 ≤ T i ∧ T i ≤ 126
def tCh (T : Nat → Int) (n p : Nat) : Int := if p < n then T p else 0
/-- a number's digits behind the first ones -/
def tNumL (T : Nat → Int) (n : Nat) : Nat → Nat → Int → Bool × Int × Nat
  | 0, p, v => (true, v, p)
  | m + 1, p, v => if 0 < v ∧ (p < n ∧ 48 ≤ T p ∧ T p ≤ 57) then (if 9999 < 10 * v + T p - 48 then (false, v, p) else tNumL T n m (p + 1) (10 * v + T p - 48)) else (true, v, p)
def tNum (T : Nat → Int) (n p : Nat) : Bool × Int × Nat := if p < n ∧ 48 ≤ T p ∧ T p ≤ 57 then tNumL T n (n - (p + 1)) (p + 1) (T p - 48) else (false, 0, p)
/-- the number behind a sign -/
def tSig (T : Nat → Int) (n p : Nat) (c : Int) : Bool × Int × Nat := if p < n ∧ c ≤ T p ∧ T p ≤ c then tNum T n (p + 1) else (false, 0, p)
/-- a digit, perhaps '@' and a number, '*' and a number -/
def tNums (T : Nat → Int) (n p : Nat) (week : Bool) : Bool × (Int × Int × Int) × Nat :=
  if p < n ∧ 48 ≤ T p ∧ T p ≤ 57 then
    (if week = true then
      (if (tSig T n (p + 1) 64).1 = true then ((tSig T n (tSig T n (p + 1) 64).2.2 42).1, (T p - 48, (tSig T n (p + 1) 64).2.1, (tSig T n (tSig T n (p + 1) 64).2.2 42).2.1), (tSig T n (tSig T n (p + 1) 64).2.2 42).2.2)
       else (false, (0, 0, 0), (tSig T n (p + 1) 64).2.2))
     else ((tSig T n (p + 1) 42).1, (T p - 48, 0, (tSig T n (p + 1) 42).2.1), (tSig T n (p + 1) 42).2.2))
  else (false, (0, 0, 0), p)
/-- an act: whether it is one, its sign and numbers, the place behind it (or of its fault) -/
def tAct (T : Nat → Int) (n p : Nat) : Bool × (Int × Int × Int × Int) × Nat :=
  if tCh T n p = 110 then ((tNum T n (p + 1)).1, (110, (tNum T n (p + 1)).2.1, 0, 0), (tNum T n (p + 1)).2.2)
  else if tCh T n p = 112 then (true, (112, 0, 0, 0), p + 1)
  else if tCh T n p = 102 ∨ tCh T n p = 97 ∨ tCh T n p = 108 then ((tNums T n (p + 1) (decide (tCh T n p ≠ 97))).1, (tCh T n p, (tNums T n (p + 1) (decide (tCh T n p ≠ 97))).2.1), (tNums T n (p + 1) (decide (tCh T n p ≠ 97))).2.2)
  else (false, (0, 0, 0, 0), p)
theorem tNumL_le (T : Nat → Int) (n : Nat) : ∀ m p v, p ≤ n → p ≤ (tNumL T n m p v).2.2 ∧ (tNumL T n m p v).2.2 ≤ n := by
  intro m
  induction m with
  | zero => intro p v h; exact ⟨Nat.le_refl _, h⟩
  | succ m ih =>
    intro p v h
    unfold tNumL
    split
    · rename_i h1
      split
      · exact ⟨Nat.le_refl _, h⟩
      · have := ih (p + 1) (10 * v + T p - 48) (by omega); omega
    · exact ⟨Nat.le_refl _, h⟩
theorem tNum_le (T : Nat → Int) (n p : Nat) (h : p ≤ n) : p ≤ (tNum T n p).2.2 ∧ (tNum T n p).2.2 ≤ n := by
  unfold tNum
  split
  · have := tNumL_le T n (n - (p + 1)) (p + 1) (T p - 48) (by omega); omega
  · exact ⟨Nat.le_refl _, h⟩
theorem tSig_le (T : Nat → Int) (n p : Nat) (c : Int) (h : p ≤ n) : p ≤ (tSig T n p c).2.2 ∧ (tSig T n p c).2.2 ≤ n := by
  unfold tSig
  split
  · have := tNum_le T n (p + 1) (by omega); omega
  · exact ⟨Nat.le_refl _, h⟩
theorem tNums_le (T : Nat → Int) (n p : Nat) (w : Bool) (h : p ≤ n) : p ≤ (tNums T n p w).2.2 ∧ (tNums T n p w).2.2 ≤ n := by
  unfold tNums
  split
  · have a := tSig_le T n (p + 1) 64 (by omega)
    have b := tSig_le T n (tSig T n (p + 1) 64).2.2 42 a.2
    have c := tSig_le T n (p + 1) 42 (by omega)
    split
    · split
      · dsimp only; omega
      · dsimp only; omega
    · dsimp only; omega
  · exact ⟨Nat.le_refl _, h⟩
theorem tCh_ne {T : Nat → Int} {n p : Nat} {c : Int} (h : tCh T n p = c) (hc : c ≠ 0) : p < n := by
  unfold tCh at h
  split at h
  · assumption
  · exact absurd h.symm hc
theorem tAct_le (T : Nat → Int) (n p : Nat) (h : p ≤ n) : p ≤ (tAct T n p).2.2 ∧ (tAct T n p).2.2 ≤ n ∧ ((tAct T n p).1 = true → p < (tAct T n p).2.2) := by
  unfold tAct
  split
  · rename_i h1
    have := tCh_ne h1 (by decide)
    have := tNum_le T n (p + 1) (by omega)
    dsimp only
    exact ⟨by omega, by omega, fun _ => by omega⟩
  · split
    · rename_i h1
      have := tCh_ne h1 (by decide)
      dsimp only
      exact ⟨by omega, by omega, fun _ => by omega⟩
    · split
      · rename_i h1
        have h2 : p < n := by rcases h1 with h1 | h1 | h1 <;> exact tCh_ne h1 (by decide)
        have := tNums_le T n (p + 1) (decide (tCh T n p ≠ 97)) (by omega)
        dsimp only
        exact ⟨by omega, by omega, fun _ => by omega⟩
      · exact ⟨Nat.le_refl _, h, fun h => by cases h⟩
theorem tNumL_v (T : Nat → Int) (n : Nat) : ∀ m p v, 0 ≤ v ∧ v ≤ 9999 → 0 ≤ (tNumL T n m p v).2.1 ∧ (tNumL T n m p v).2.1 ≤ 9999 := by
  intro m
  induction m with
  | zero => intro p v h; exact h
  | succ m ih =>
    intro p v h
    unfold tNumL
    split
    · rename_i h1
      split
      · exact h
      · exact ih _ _ (by omega)
    · exact h
theorem tNum_v (T : Nat → Int) (n p : Nat) : 0 ≤ (tNum T n p).2.1 ∧ (tNum T n p).2.1 ≤ 9999 := by
  unfold tNum
  split
  · exact tNumL_v _ _ _ _ _ (by omega)
  · exact ⟨Int.le_refl 0, (by decide : (0 : Int) ≤ 9999)⟩
theorem tSig_v (T : Nat → Int) (n p : Nat) (c : Int) : 0 ≤ (tSig T n p c).2.1 ∧ (tSig T n p c).2.1 ≤ 9999 := by
  unfold tSig
  split
  · exact tNum_v _ _ _
  · exact ⟨Int.le_refl 0, (by decide : (0 : Int) ≤ 9999)⟩
/-- the scratch numbers of the reader apart, nothing has changed; it stands at p -/
def scr (F F' : Nat → Int) (p : Nat) : Prop := (∀ j, j ≠ 6 → j ≠ 8 → F' j = F j) ∧ F' 6 = (p : Int)
theorem scr_fu {F F' : Nat → Int} {p j : Nat} (h : scr F F' p) (e : Int) (hj : j = 8) : scr F (fu F' j e) p := ⟨fun i h1 h2 => by rw [fu_ne _ _ _ (by omega)]; exact h.1 i h1 h2, by rw [fu_ne _ _ _ (by omega)]; exact h.2⟩
theorem scr_at {F F' : Nat → Int} {p q : Nat} (h : scr F F' p) : scr F (fu F' 6 (q : Int)) q := ⟨fun i h1 h2 => by rw [fu_ne _ _ _ (by omega)]; exact h.1 i h1 h2, fu_at _ _ _⟩
theorem scr_trans {F G H : Nat → Int} {p q : Nat} (h : scr F G p) (h2 : scr G H q) : scr F H q := ⟨fun i a b => by rw [h2.1 i a b]; exact h.1 i a b, h2.2⟩
/-- only the reader's scratch numbers have changed -/
def scw (F F' : Nat → Int) (p : Nat) : Prop := (∀ j, j < 6 → F' j = F j) ∧ F' 6 = (p : Int)
set_option maxRecDepth 100000 in
set_option maxHeartbeats 4000000 in
theorem c_X5_isHere {z : Nat} (D : xD) (r : xR) (hr : xRM r) (n p : Nat) (h5 : D 351 5 = (n : Int)) (h6 : D 351 6 = (p : Int)) (hT : tOk (D 355) n) (hp : p ≤ n) (a b : Int) (ha : xI a) (hb : xI b) : MX 1 mX5_isHere [.ref 351, vi a, vi b] (356, z) D r (356, z) (xP (vi (bi (p < n ∧ a ≤ D 355 p ∧ D 355 p ≤ b))) D r) := by
  refine MX.of (by decide +kernel) [some (.ref 351), some (vi a), some (vi b)] rfl (Nat.le_of_ble_eq_true rfl) ?_
  intro γ hX hRX
  have q2 := hT.1
  refine v_aload_n (q := 1) hX dX5_isHere_0 rfl rfl rfl ?_
  refine w_getI (q := 4) hX fl_X5_206 rfl oX5 dX5_isHere_1 rfl ?_
  rw [h6]
  refine v_aload_n (q := 5) hX dX5_isHere_4 rfl rfl rfl ?_
  refine w_getI (q := 8) hX fl_X5_188 rfl oX5 dX5_isHere_5 rfl ?_
  rw [h5]
  refine v_icmp_ge (q := 11) (tgt := 35) hX ⟨by omega, by omega⟩ ⟨by omega, by omega⟩ dX5_isHere_8 (by decide) rfl (fun h8 => ?_) (fun h8 => ?_)
  · refine v_iconst (q := 36) hX dX5_isHere_35 rfl ?_
    refine v_ireturn hX hRX rfl (by first | rfl | exact bi_nar _) dX5_isHere_36 rfl ?_
    refine ⟨congrArg (fun e => some (vi e)) ?_, rfl, rfl⟩
    first | exact bi1 ⟨by omega, h28.1, h28.2⟩ | exact bi0 (fun hh => by omega) | exact bi0 (fun hh => h28 ⟨hh.2.1, hh.2.2⟩)
  · have q1 := hT.2 p (by omega)
    have q2 := hT.1
    refine v_aload_n (q := 12) hX dX5_isHere_11 rfl rfl rfl ?_
    refine w_getR (q := 15) hX fl_X5_20 rfl oX5 hr.2.2.2 dX5_isHere_12 rfl ?_
    refine v_aload_n (q := 16) hX dX5_isHere_15 rfl rfl rfl ?_
    refine w_getI (q := 19) hX fl_X5_206 rfl oX5 dX5_isHere_16 rfl ?_
    rw [h6]
    refine w_ild (q := 20) (kk := p) hX (rfl) (by omega) aPad dX5_isHere_19 rfl ?_
    refine v_i2l (q := 21) hX ⟨by omega, by omega⟩ dX5_isHere_20 rfl ?_
    refine v_iload_n (q := 22) hX dX5_isHere_21 rfl rfl rfl ?_
    refine v_i2l (q := 23) hX ha dX5_isHere_22 rfl ?_
    refine v_iload_n (q := 24) hX dX5_isHere_23 rfl rfl rfl ?_
    refine v_i2l (q := 25) hX hb dX5_isHere_24 rfl ?_
    refine w_callS (q := 28) hX (c_X5_isIn _ _ _ _ _ ⟨by omega, by omega⟩ ⟨by omega, by omega⟩ ⟨by omega, by omega⟩) rfl kS_X5_isIn rfl (by decide) lk_X5_35 (Nat.le_of_ble_eq_true rfl) dX5_isHere_25 rfl ?_
    refine w_ifeq (q := 31) (tgt := 35) hX dX5_isHere_28 (by decide) rfl (fun h28 => ?_) (fun h28 => ?_)
    · refine v_iconst (q := 36) hX dX5_isHere_35 rfl ?_
      refine v_ireturn hX hRX rfl (by first | rfl | exact bi_nar _) dX5_isHere_36 rfl ?_
      refine ⟨congrArg (fun e => some (vi e)) ?_, rfl, rfl⟩
      first | exact bi1 ⟨by omega, h28.1, h28.2⟩ | exact bi0 (fun hh => by omega) | exact bi0 (fun hh => h28 ⟨hh.2.1, hh.2.2⟩)
    · refine v_iconst (q := 32) hX dX5_isHere_31 rfl ?_
      refine v_goto (tgt := 36) hX dX5_isHere_32 (by decide) ?_
      refine v_ireturn hX hRX rfl (by first | rfl | exact bi_nar _) dX5_isHere_36 rfl ?_
      refine ⟨congrArg (fun e => some (vi e)) ?_, rfl, rfl⟩
      first | exact bi1 ⟨by omega, h28.1, h28.2⟩ | exact bi0 (fun hh => by omega) | exact bi0 (fun hh => h28 ⟨hh.2.1, hh.2.2⟩)

set_option maxRecDepth 100000 in
set_option maxHeartbeats 4000000 in
theorem c_X5_passesOne0 {z : Nat} (D : xD) (r : xR) (hr : xRM r) (n p : Nat) (g5 : D 351 5 = (n : Int)) (g6 : D 351 6 = (p : Int)) (hT : tOk (D 355) n) (gp : p ≤ n) (a b : Int) (ha : xI a) (hb : xI b) (he : ¬ (p < n ∧ a ≤ D 355 p ∧ D 355 p ≤ b)) : MX 2 mX5_passesOne [.ref 351, vi a, vi b] (356, z) D r (356, z) (xP (vi 0) D r) := by
  refine MX.of (by decide +kernel) [some (.ref 351), some (vi a), some (vi b)] rfl (Nat.le_of_ble_eq_true rfl) ?_
  intro γ hX hRX
  refine v_aload_n (q := 1) hX dX5_passesOne_0 rfl rfl rfl ?_
  refine v_iload_n (q := 2) hX dX5_passesOne_1 rfl rfl rfl ?_
  refine v_iload_n (q := 3) hX dX5_passesOne_2 rfl rfl rfl ?_
  refine w_callV (q := 6) hX (c_X5_isHere _ _ hr n p g5 g6 hT gp _ _ ha hb) rfl kV_X5_isHere rfl (by decide) lk_X5_209 (by decide) rfl oX5 (Nat.le_of_ble_eq_true rfl) dX5_passesOne_3 rfl ?_
  refine w_ifne (q := 9) (tgt := 11) hX dX5_passesOne_6 (by decide) rfl (fun h6 => ?_) (fun h6 => ?_)
  · exact absurd h6 he
  · refine v_iconst (q := 10) hX dX5_passesOne_9 rfl ?_
    refine v_ireturn hX hRX rfl (by first | rfl | exact bi_nar _) dX5_passesOne_10 rfl ?_
    exact ⟨rfl, rfl, rfl⟩

/-- the reader has passed a character: its value, its place -/
def poD (D : xD) (p : Nat) : xD := xw D 351 (fu (fu (D 351) 8 (D 355 p - 48)) 6 ((p + 1 : Nat) : Int))
set_option maxRecDepth 100000 in
set_option maxHeartbeats 4000000 in
theorem c_X5_passesOne {z : Nat} (D : xD) (r : xR) (hr : xRM r) (n p : Nat) (g5 : D 351 5 = (n : Int)) (g6 : D 351 6 = (p : Int)) (hT : tOk (D 355) n) (gp : p ≤ n) (a b : Int) (ha : xI a) (hb : xI b) (he : p < n ∧ a ≤ D 355 p ∧ D 355 p ≤ b) : MX 2 mX5_passesOne [.ref 351, vi a, vi b] (356, z) D r (356, z) (xEs (vi 1) (fun D' => D' = poD D p) r) := by
  refine MX.of (by decide +kernel) [some (.ref 351), some (vi a), some (vi b)] rfl (Nat.le_of_ble_eq_true rfl) ?_
  intro γ hX hRX
  have q2 := hT.1
  refine v_aload_n (q := 1) hX dX5_passesOne_0 rfl rfl rfl ?_
  refine v_iload_n (q := 2) hX dX5_passesOne_1 rfl rfl rfl ?_
  refine v_iload_n (q := 3) hX dX5_passesOne_2 rfl rfl rfl ?_
  refine w_callV (q := 6) hX (c_X5_isHere _ _ hr n p g5 g6 hT gp _ _ ha hb) rfl kV_X5_isHere rfl (by decide) lk_X5_209 (by decide) rfl oX5 (Nat.le_of_ble_eq_true rfl) dX5_passesOne_3 rfl ?_
  refine w_ifne (q := 9) (tgt := 11) hX dX5_passesOne_6 (by decide) rfl (fun h6 => ?_) (fun h6 => ?_)
  · refine v_aload_n (q := 12) hX dX5_passesOne_11 rfl rfl rfl ?_
    refine v_aload_n (q := 13) hX dX5_passesOne_12 rfl rfl rfl ?_
    refine w_getR (q := 16) hX fl_X5_20 rfl oX5 hr.2.2.2 dX5_passesOne_13 rfl ?_
    refine v_aload_n (q := 17) hX dX5_passesOne_16 rfl rfl rfl ?_
    refine w_getI (q := 20) hX fl_X5_206 rfl oX5 dX5_passesOne_17 rfl ?_
    rw [g6]
    refine w_ild (q := 21) (kk := p) hX (rfl) (by omega) aPad dX5_passesOne_20 rfl ?_
    refine v_bipush (q := 23) hX (by decide) dX5_passesOne_21 rfl ?_
    refine v_isub (q := 24) hX dX5_passesOne_23 rfl ?_
    refine w_putI (q := 27) hX fl_X5_212 rfl oX5 dX5_passesOne_24 rfl ?_
    refine v_aload_n (q := 28) hX dX5_passesOne_27 rfl rfl rfl ?_
    refine v_dup (q := 29) hX rfl dX5_passesOne_28 rfl ?_
    refine w_getI (q := 32) hX fl_X5_206 rfl oX5 dX5_passesOne_29 rfl ?_
    rw [xu_ne _ _ _ _ (Or.inr (by decide)), g6]
    refine v_iconst (q := 33) hX dX5_passesOne_32 rfl ?_
    refine v_iadd (q := 34) hX dX5_passesOne_33 rfl ?_
    refine w_putI (q := 37) hX fl_X5_206 rfl oX5 dX5_passesOne_34 rfl ?_
    refine v_iconst (q := 38) hX dX5_passesOne_37 rfl ?_
    refine v_ireturn hX hRX rfl (by first | rfl | exact bi_nar _) dX5_passesOne_38 rfl ?_
    exact ⟨rfl, rfl, by show xu (xu D 351 8 (D 355 p - 48)) 351 6 ((p : Int) + 1) = _; rw [xu_xw D 351 8, xu_xw']; rfl⟩
  · exact absurd he h6

theorem poD_at (D : xD) (p : Nat) : poD D p 351 8 = D 355 p - 48 ∧ poD D p 351 6 = ((p + 1 : Nat) : Int) ∧ poD D p 351 5 = D 351 5 ∧ poD D p 355 = D 355 ∧ scr (D 351) (poD D p 351) (p + 1) := by
  refine ⟨?_, ?_, ?_, rfl, ?_, ?_⟩
  · unfold poD; rw [xw_at, fu_ne _ _ _ (by decide), fu_at]
  · unfold poD; rw [xw_at, fu_at]
  · unfold poD; rw [xw_at, fu_ne _ _ _ (by decide), fu_ne _ _ _ (by decide)]
  · intro j h1 h2; unfold poD; rw [xw_at, fu_ne _ _ _ h1, fu_ne _ _ _ h2]
  · unfold poD; rw [xw_at, fu_at]
theorem xE_self {D E : xD} (h : ∀ a, a ≠ 351 → E a = D a) : E = xw D 351 (E 351) := by
  funext a
  by_cases ha : a = 351
  · rw [ha, xw_at]
  · rw [xw_ne _ _ _ ha]; exact h a ha
theorem xE_351 {D E : xD} (h : ∀ a, a ≠ 351 → E a = D a) (v : Int) : xu E 351 8 v = xw D 351 (fu (E 351) 8 v) := by
  rw [xu_xw]
  funext a
  by_cases ha : a = 351
  · rw [ha, xw_at, xw_at]
  · rw [xw_ne _ _ _ ha, xw_ne _ _ _ ha]; exact h a ha
set_option maxRecDepth 100000 in
set_option maxHeartbeats 4000000 in
theorem c_X5_passesNumber {z : Nat} (D : xD) (r : xR) (hr : xRM r) (n p : Nat) (g5 : D 351 5 = (n : Int)) (g6 : D 351 6 = (p : Int)) (hT : tOk (D 355) n) (gp : p ≤ n) : MX 3 mX5_passesNumber [.ref 351] (356, z) D r (356, z) (xEs (vi (bi ((tNum (D 355) n p).1 = true))) (fun D' => ∃ F', D' = xw D 351 F' ∧ scr (D 351) F' (tNum (D 355) n p).2.2 ∧ ((tNum (D 355) n p).1 = true → F' 8 = (tNum (D 355) n p).2.1)) r) := by
  refine MX.of (by decide +kernel) [some (.ref 351), none, none] rfl (Nat.le_of_ble_eq_true rfl) ?_
  intro γ hX hRX
  by_cases he : p < n ∧ 48 ≤ D 355 p ∧ D 355 p ≤ 57
  · have q1 := hT.2 p he.1
    have q2 := hT.1
    have L : ∀ m q v (E : xD), n - q = m → q ≤ n → 0 ≤ v ∧ v ≤ 9999 → E 351 5 = (n : Int) → E 351 6 = (q : Int) → E 355 = D 355 → scr (D 351) (E 351) q → (∀ a, a ≠ 351 → E a = D a) → tNumL (D 355) n m q v = tNum (D 355) n p →
        xV γ 18 [some (.ref 351), some (vi v), none] [] (356, z) E r := by
      intro m
      induction m with
      | zero =>
        intro q v E hm hq hv e5 e6 eT eF eA hG
        have hE : tOk (E 355) n := by rw [eT]; exact hT
        refine v_iload_n (q := 19) hX dX5_passesNumber_18 rfl rfl rfl ?_
        refine v_if_le (q := 22) (tgt := 75) hX ⟨by omega, by omega⟩ dX5_passesNumber_19 (by decide) rfl (fun h19 => ?_) (fun h19 => ?_)
        · refine v_aload_n (q := 76) hX dX5_passesNumber_75 rfl rfl rfl ?_
          refine v_iload_n (q := 77) hX dX5_passesNumber_76 rfl rfl rfl ?_
          refine w_putI (q := 80) hX fl_X5_212 rfl oX5 dX5_passesNumber_77 rfl ?_
          refine v_iconst (q := 81) hX dX5_passesNumber_80 rfl ?_
          refine v_ireturn hX hRX rfl (by first | rfl | exact bi_nar _) dX5_passesNumber_81 rfl ?_
          refine ⟨congrArg (fun e => some (vi e)) ?_, rfl, fu (E 351) 8 v, ?_, ?_, ?_⟩
          · rw [← hG]; exact bi1 rfl
          · exact xE_351 eA v
          · rw [← hG]; exact scr_fu eF _ (by decide)
          · intro _; rw [← hG]; exact fu_at _ _ _
        · refine v_aload_n (q := 23) hX dX5_passesNumber_22 rfl rfl rfl ?_
          refine v_bipush (q := 25) hX (by decide) dX5_passesNumber_23 rfl ?_
          refine v_bipush (q := 27) hX (by decide) dX5_passesNumber_25 rfl ?_
          refine w_callV (q := 30) hX (c_X5_isHere E _ hr n q e5 e6 hE hq _ _ (by decide) (by decide)) rfl kV_X5_isHere rfl (by decide) lk_X5_209 (by decide) rfl oX5 (Nat.le_of_ble_eq_true rfl) dX5_passesNumber_27 rfl ?_
          refine w_ifeq (q := 33) (tgt := 75) hX dX5_passesNumber_30 (by decide) rfl (fun h30 => ?_) (fun h30 => ?_)
          · refine v_aload_n (q := 76) hX dX5_passesNumber_75 rfl rfl rfl ?_
            refine v_iload_n (q := 77) hX dX5_passesNumber_76 rfl rfl rfl ?_
            refine w_putI (q := 80) hX fl_X5_212 rfl oX5 dX5_passesNumber_77 rfl ?_
            refine v_iconst (q := 81) hX dX5_passesNumber_80 rfl ?_
            refine v_ireturn hX hRX rfl (by first | rfl | exact bi_nar _) dX5_passesNumber_81 rfl ?_
            refine ⟨congrArg (fun e => some (vi e)) ?_, rfl, fu (E 351) 8 v, ?_, ?_, ?_⟩
            · rw [← hG]; exact bi1 rfl
            · exact xE_351 eA v
            · rw [← hG]; exact scr_fu eF _ (by decide)
            · intro _; rw [← hG]; exact fu_at _ _ _
          · exact absurd h30.1 (by omega)
      | succ m ih =>
        intro q v E hm hq hv e5 e6 eT eF eA hG
        have hE : tOk (E 355) n := by rw [eT]; exact hT
        refine v_iload_n (q := 19) hX dX5_passesNumber_18 rfl rfl rfl ?_
        refine v_if_le (q := 22) (tgt := 75) hX ⟨by omega, by omega⟩ dX5_passesNumber_19 (by decide) rfl (fun h19 => ?_) (fun h19 => ?_)
        · refine v_aload_n (q := 76) hX dX5_passesNumber_75 rfl rfl rfl ?_
          refine v_iload_n (q := 77) hX dX5_passesNumber_76 rfl rfl rfl ?_
          refine w_putI (q := 80) hX fl_X5_212 rfl oX5 dX5_passesNumber_77 rfl ?_
          refine v_iconst (q := 81) hX dX5_passesNumber_80 rfl ?_
          refine v_ireturn hX hRX rfl (by first | rfl | exact bi_nar _) dX5_passesNumber_81 rfl ?_
          have hN : tNumL (D 355) n (m + 1) q v = (true, v, q) := by
            rw [tNumL, if_neg]
            rintro ⟨w1, w2, w3, w4⟩
            first | omega | exact h30 ⟨w2, by rw [eT]; exact w3, by rw [eT]; exact w4⟩
          refine ⟨congrArg (fun e => some (vi e)) ?_, rfl, fu (E 351) 8 v, ?_, ?_, ?_⟩
          · rw [← hG, hN]; exact bi1 rfl
          · exact xE_351 eA v
          · rw [← hG, hN]; exact scr_fu eF _ (by decide)
          · intro _; rw [← hG, hN]; exact fu_at _ _ _
        · refine v_aload_n (q := 23) hX dX5_passesNumber_22 rfl rfl rfl ?_
          refine v_bipush (q := 25) hX (by decide) dX5_passesNumber_23 rfl ?_
          refine v_bipush (q := 27) hX (by decide) dX5_passesNumber_25 rfl ?_
          refine w_callV (q := 30) hX (c_X5_isHere E _ hr n q e5 e6 hE hq _ _ (by decide) (by decide)) rfl kV_X5_isHere rfl (by decide) lk_X5_209 (by decide) rfl oX5 (Nat.le_of_ble_eq_true rfl) dX5_passesNumber_27 rfl ?_
          refine w_ifeq (q := 33) (tgt := 75) hX dX5_passesNumber_30 (by decide) rfl (fun h30 => ?_) (fun h30 => ?_)
          · refine v_aload_n (q := 76) hX dX5_passesNumber_75 rfl rfl rfl ?_
            refine v_iload_n (q := 77) hX dX5_passesNumber_76 rfl rfl rfl ?_
            refine w_putI (q := 80) hX fl_X5_212 rfl oX5 dX5_passesNumber_77 rfl ?_
            refine v_iconst (q := 81) hX dX5_passesNumber_80 rfl ?_
            refine v_ireturn hX hRX rfl (by first | rfl | exact bi_nar _) dX5_passesNumber_81 rfl ?_
            have hN : tNumL (D 355) n (m + 1) q v = (true, v, q) := by
              rw [tNumL, if_neg]
              rintro ⟨w1, w2, w3, w4⟩
              first | omega | exact h30 ⟨w2, by rw [eT]; exact w3, by rw [eT]; exact w4⟩
            refine ⟨congrArg (fun e => some (vi e)) ?_, rfl, fu (E 351) 8 v, ?_, ?_, ?_⟩
            · rw [← hG, hN]; exact bi1 rfl
            · exact xE_351 eA v
            · rw [← hG, hN]; exact scr_fu eF _ (by decide)
            · intro _; rw [← hG, hN]; exact fu_at _ _ _
          · rw [eT] at h30
            have q4 := hT.2 q (by omega)
            refine v_bipush (q := 35) hX (by decide) dX5_passesNumber_33 rfl ?_
            refine v_iload_n (q := 36) hX dX5_passesNumber_35 rfl rfl rfl ?_
            refine v_imul (q := 37) hX dX5_passesNumber_36 rfl ?_
            refine v_aload_n (q := 38) hX dX5_passesNumber_37 rfl rfl rfl ?_
            refine w_getR (q := 41) hX fl_X5_20 rfl oX5 hr.2.2.2 dX5_passesNumber_38 rfl ?_
            refine v_aload_n (q := 42) hX dX5_passesNumber_41 rfl rfl rfl ?_
            refine w_getI (q := 45) hX fl_X5_206 rfl oX5 dX5_passesNumber_42 rfl ?_
            rw [e6]
            refine w_ild (q := 46) (kk := q) hX (rfl) (by omega) aPad dX5_passesNumber_45 rfl ?_
            rw [eT]
            refine v_iadd (q := 47) hX dX5_passesNumber_46 rfl ?_
            refine v_bipush (q := 49) hX (by decide) dX5_passesNumber_47 rfl ?_
            refine v_isub (q := 50) hX dX5_passesNumber_49 rfl ?_
            refine v_istore_n (q := 51) hX dX5_passesNumber_50 rfl (Nat.le_of_ble_eq_true rfl) (Nat.le_of_ble_eq_true rfl) rfl ?_
            dsimp only [xs1, xs2, xclr]
            refine v_iload_n (q := 52) hX dX5_passesNumber_51 rfl rfl rfl ?_
            refine v_sipush (q := 55) hX (by decide) dX5_passesNumber_52 rfl ?_
            refine v_icmp_le (q := 58) (tgt := 60) hX ⟨by omega, by omega⟩ (by decide) dX5_passesNumber_55 (by decide) rfl (fun h55 => ?_) (fun h55 => ?_)
            · refine v_iload_n (q := 61) hX dX5_passesNumber_60 rfl rfl rfl ?_
              refine v_istore_n (q := 62) hX dX5_passesNumber_61 rfl (Nat.le_of_ble_eq_true rfl) (Nat.le_of_ble_eq_true rfl) rfl ?_
              dsimp only [xs1, xs2, xclr]
              refine v_aload_n (q := 63) hX dX5_passesNumber_62 rfl rfl rfl ?_
              refine v_dup (q := 64) hX rfl dX5_passesNumber_63 rfl ?_
              refine w_getI (q := 67) hX fl_X5_206 rfl oX5 dX5_passesNumber_64 rfl ?_
              rw [e6]
              refine v_iconst (q := 68) hX dX5_passesNumber_67 rfl ?_
              refine v_iadd (q := 69) hX dX5_passesNumber_68 rfl ?_
              refine w_putI (q := 72) hX fl_X5_206 rfl oX5 dX5_passesNumber_69 rfl ?_
              refine v_goto (tgt := 18) hX dX5_passesNumber_72 (by decide) ?_
              have e1 := ih (q + 1) (10 * v + D 355 q - 48) (xw E 351 (fu (E 351) 6 ((q + 1 : Nat) : Int))) (by omega) (by omega) (by omega) (by rw [xw_at, fu_ne _ _ _ (by decide)]; exact e5) (by rw [xw_at, fu_at]) eT (scr_trans eF ⟨fun j h1 h2 => by rw [xw_at, fu_ne _ _ _ h1], by rw [xw_at, fu_at]⟩) (fun a ha => by rw [xw_ne _ _ _ ha]; exact eA a ha) (by rw [← hG, tNumL, if_pos ⟨by omega, by omega, by omega, by omega⟩, if_neg (by omega)])
              rw [xu_xw]
              first | exact e1 | exact xVw (by repeat' first | exact trivial | refine And.intro rfl ?_) e1
            · refine v_iconst (q := 59) hX dX5_passesNumber_58 rfl ?_
              refine v_ireturn hX hRX rfl (by first | rfl | exact bi_nar _) dX5_passesNumber_59 rfl ?_
              refine ⟨congrArg (fun e => some (vi e)) ?_, rfl, E 351, ?_, ?_, ?_⟩
              · rw [← hG, tNumL, if_pos ⟨by omega, by omega, by omega, by omega⟩, if_pos (by omega)]; rfl
              · exact xE_self eA
              · rw [← hG, tNumL, if_pos ⟨by omega, by omega, by omega, by omega⟩, if_pos (by omega)]; exact eF
              · rw [← hG, tNumL, if_pos ⟨by omega, by omega, by omega, by omega⟩, if_pos (by omega)]; intro h; cases h
    refine v_aload_n (q := 1) hX dX5_passesNumber_0 rfl rfl rfl ?_
    refine v_bipush (q := 3) hX (by decide) dX5_passesNumber_1 rfl ?_
    refine v_bipush (q := 5) hX (by decide) dX5_passesNumber_3 rfl ?_
    refine w_callVe (q := 8) hX (c_X5_passesOne _ _ hr n p g5 g6 hT gp 48 57 (by decide) (by decide) he) rfl kV_X5_passesOne rfl (by decide) lk_X5_215 (by decide) rfl oX5 (Nat.le_of_ble_eq_true rfl) dX5_passesNumber_5 rfl (fun D1 hD1 => ?_)
    subst hD1
    refine v_if_ne (q := 11) (tgt := 13) hX (by decide) dX5_passesNumber_8 (by decide) rfl (fun h8 => ?_) (fun h8 => ?_)
    · refine v_aload_n (q := 14) hX dX5_passesNumber_13 rfl rfl rfl ?_
      refine w_getI (q := 17) hX fl_X5_212 rfl oX5 dX5_passesNumber_14 rfl ?_
      rw [(poD_at D p).1]
      refine v_istore_n (q := 18) hX dX5_passesNumber_17 rfl (Nat.le_of_ble_eq_true rfl) (Nat.le_of_ble_eq_true rfl) rfl ?_
      dsimp only [xs1, xs2, xclr]
      exact L _ (p + 1) (D 355 p - 48) (poD D p) rfl (by omega) (by omega) ((poD_at D p).2.2.1.trans g5) (poD_at D p).2.1 rfl (poD_at D p).2.2.2.2 (fun a ha => xw_ne _ _ _ ha) (by rw [tNum, if_pos he])
    · exact absurd h8 (by decide)
  · refine v_aload_n (q := 1) hX dX5_passesNumber_0 rfl rfl rfl ?_
    refine v_bipush (q := 3) hX (by decide) dX5_passesNumber_1 rfl ?_
    refine v_bipush (q := 5) hX (by decide) dX5_passesNumber_3 rfl ?_
    refine w_callV (q := 8) hX (c_X5_passesOne0 _ _ hr n p g5 g6 hT gp 48 57 (by decide) (by decide) he) rfl kV_X5_passesOne rfl (by decide) lk_X5_215 (by decide) rfl oX5 (Nat.le_of_ble_eq_true rfl) dX5_passesNumber_5 rfl ?_
    refine v_if_ne (q := 11) (tgt := 13) hX (by decide) dX5_passesNumber_8 (by decide) rfl (fun h8 => ?_) (fun h8 => ?_)
    · exact absurd h8 (by decide)
    · refine v_iconst (q := 12) hX dX5_passesNumber_11 rfl ?_
      refine v_ireturn hX hRX rfl (by first | rfl | exact bi_nar _) dX5_passesNumber_12 rfl ?_
      refine ⟨congrArg (fun e => some (vi e)) ?_, rfl, D 351, (xw_self D 351).symm, ?_, ?_⟩
      · rw [tNum, if_neg he]; rfl
      · rw [tNum, if_neg he]; exact ⟨fun _ _ _ => rfl, g6⟩
      · rw [tNum, if_neg he]; intro h; cases h

