theorem fu_app (f : Nat → Int) (j : Nat) (e : Int) (i : Nat) : fu f j e i = if i = j then e else f i := rfl
/-- a product lies at b, with its two rows behind it -/
def PK (b : Nat) : Prop := xOb 351 b 2 ∧ xAr 351 (b + 1) 10 12 ∧ xAr 351 (b + 2) 10 12
def PR (b : Nat) (r : xR) : Prop := r b 12 = some (b + 1) ∧ r b 13 = some (b + 2)
/-- the product at b holds the numbers of the p-th product of the plain state N -/
def PC (D : xD) (b : Nat) (N : Nat → Int) (p : Nat) : Prop := D b 0 = pF N p 0 ∧ D b 1 = pF N p 1 ∧ D b 2 = pF N p 2 ∧ D b 3 = pF N p 3 ∧ D b 4 = pF N p 11 ∧ D b 5 = pF N p 4 ∧ D b 6 = pF N p 5 ∧ D b 7 = pF N p 6 ∧ D b 8 = pF N p 7 ∧ D b 9 = pF N p 8 ∧ D b 10 = pF N p 9 ∧ D b 11 = pF N p 10 ∧ (∀ k, k < 12 → D (b + 1) k = pF N p (12 + k)) ∧ ∀ k, k < 12 → D (b + 2) k = pF N p (24 + k)
theorem PC.fa {D : xD} {b : Nat} {N : Nat → Int} {p : Nat} (h : PC D b N p) : D b 0 = pF N p 0 := h.1
theorem PC.sz {D : xD} {b : Nat} {N : Nat → Int} {p : Nat} (h : PC D b N p) : D b 1 = pF N p 1 := h.2.1
theorem PC.lh {D : xD} {b : Nat} {N : Nat → Int} {p : Nat} (h : PC D b N p) : D b 2 = pF N p 2 := h.2.2.1
theorem PC.sh {D : xD} {b : Nat} {N : Nat → Int} {p : Nat} (h : PC D b N p) : D b 3 = pF N p 3 := h.2.2.2.1
theorem PC.bg {D : xD} {b : Nat} {N : Nat → Int} {p : Nat} (h : PC D b N p) : D b 4 = pF N p 11 := h.2.2.2.2.1
theorem PC.st {D : xD} {b : Nat} {N : Nat → Int} {p : Nat} (h : PC D b N p) : D b 5 = pF N p 4 := h.2.2.2.2.2.1
theorem PC.bl {D : xD} {b : Nat} {N : Nat → Int} {p : Nat} (h : PC D b N p) : D b 6 = pF N p 5 := h.2.2.2.2.2.2.1
theorem PC.er {D : xD} {b : Nat} {N : Nat → Int} {p : Nat} (h : PC D b N p) : D b 7 = pF N p 6 := h.2.2.2.2.2.2.2.1
theorem PC.to {D : xD} {b : Nat} {N : Nat → Int} {p : Nat} (h : PC D b N p) : D b 8 = pF N p 7 := h.2.2.2.2.2.2.2.2.1
theorem PC.ma {D : xD} {b : Nat} {N : Nat → Int} {p : Nat} (h : PC D b N p) : D b 9 = pF N p 8 := h.2.2.2.2.2.2.2.2.2.1
theorem PC.si {D : xD} {b : Nat} {N : Nat → Int} {p : Nat} (h : PC D b N p) : D b 10 = pF N p 9 := h.2.2.2.2.2.2.2.2.2.2.1
theorem PC.ca {D : xD} {b : Nat} {N : Nat → Int} {p : Nat} (h : PC D b N p) : D b 11 = pF N p 10 := h.2.2.2.2.2.2.2.2.2.2.2.1
theorem PC.fc {D : xD} {b : Nat} {N : Nat → Int} {p : Nat} (h : PC D b N p) : (∀ k, k < 12 → D (b + 1) k = pF N p (12 + k)) := h.2.2.2.2.2.2.2.2.2.2.2.2.1
theorem PC.lt {D : xD} {b : Nat} {N : Nat → Int} {p : Nat} (h : PC D b N p) : ∀ k, k < 12 → D (b + 2) k = pF N p (24 + k) := h.2.2.2.2.2.2.2.2.2.2.2.2.2
/-- nothing but the product at b has changed -/
def fr3 (b : Nat) (D D' : xD) : Prop := ∀ a, a ≠ b → a ≠ b + 1 → a ≠ b + 2 → D' a = D a
theorem PC.keep {D D' : xD} {b : Nat} {N N' : Nat → Int} {p : Nat} (h : PC D b N p) (h0 : ∀ j, j < 12 → D' b j = D b j) (h1 : ∀ j, j < 12 → D' (b + 1) j = D (b + 1) j) (h2 : ∀ j, j < 12 → D' (b + 2) j = D (b + 2) j) (hN : ∀ i, i < 36 → pF N' p i = pF N p i) : PC D' b N' p :=
  ⟨by rw [h0 _ (by decide), hN _ (by decide)]; exact h.fa, by rw [h0 _ (by decide), hN _ (by decide)]; exact h.sz, by rw [h0 _ (by decide), hN _ (by decide)]; exact h.lh, by rw [h0 _ (by decide), hN _ (by decide)]; exact h.sh, by rw [h0 _ (by decide), hN _ (by decide)]; exact h.bg, by rw [h0 _ (by decide), hN _ (by decide)]; exact h.st,
   by rw [h0 _ (by decide), hN _ (by decide)]; exact h.bl, by rw [h0 _ (by decide), hN _ (by decide)]; exact h.er, by rw [h0 _ (by decide), hN _ (by decide)]; exact h.to, by rw [h0 _ (by decide), hN _ (by decide)]; exact h.ma, by rw [h0 _ (by decide), hN _ (by decide)]; exact h.si, by rw [h0 _ (by decide), hN _ (by decide)]; exact h.ca,
   fun k hk => by rw [h1 _ hk, hN _ (by omega)]; exact h.fc k hk, fun k hk => by rw [h2 _ hk, hN _ (by omega)]; exact h.lt k hk⟩

set_option maxRecDepth 100000 in
set_option maxHeartbeats 4000000 in
theorem c_J6_bitCount {z : Nat} (D : xD) (r : xR) (m : Nat) (hm : m < 16) : MX 0 mJ6_bitCount_0f7a4 [vi m] (351, z) D r (351, z) (xP (vi (nBits m 4 : Nat)) D r) := by
  refine MX.of (by decide +kernel) [some (vi m)] rfl (Nat.le_of_ble_eq_true rfl) ?_
  intro γ hX hRX
  refine v_iload_n (q := 1) hX dJ6_bitCount_0f7a4_0 rfl rfl rfl ?_
  refine v_iload_n (q := 2) hX dJ6_bitCount_0f7a4_1 rfl rfl rfl ?_
  refine v_iconst (q := 3) hX dJ6_bitCount_0f7a4_2 rfl ?_
  refine v_iushr (q := 4) hX (_) ((Int32.ofInt_toInt _).symm) dJ6_bitCount_0f7a4_3 rfl ?_
  refine v_ldcw (q := 7) (e := 1431655765) hX (by decide) kc_265 dJ6_bitCount_0f7a4_4 rfl ?_
  refine v_iand (q := 8) hX (_) ((Int32.ofInt_toInt _).symm) dJ6_bitCount_0f7a4_7 rfl ?_
  refine v_isub (q := 9) hX dJ6_bitCount_0f7a4_8 rfl ?_
  refine v_istore_n (q := 10) hX dJ6_bitCount_0f7a4_9 rfl (Nat.le_of_ble_eq_true rfl) (Nat.le_of_ble_eq_true rfl) rfl ?_
  dsimp only [xs1, xs2, xclr]
  refine v_iload_n (q := 11) hX dJ6_bitCount_0f7a4_10 rfl rfl rfl ?_
  refine v_ldcw (q := 14) (e := 858993459) hX (by decide) kc_266 dJ6_bitCount_0f7a4_11 rfl ?_
  refine v_iand (q := 15) hX (_) ((Int32.ofInt_toInt _).symm) dJ6_bitCount_0f7a4_14 rfl ?_
  refine v_iload_n (q := 16) hX dJ6_bitCount_0f7a4_15 rfl rfl rfl ?_
  refine v_iconst (q := 17) hX dJ6_bitCount_0f7a4_16 rfl ?_
  refine v_iushr (q := 18) hX (_) ((Int32.ofInt_toInt _).symm) dJ6_bitCount_0f7a4_17 rfl ?_
  refine v_ldcw (q := 21) (e := 858993459) hX (by decide) kc_266 dJ6_bitCount_0f7a4_18 rfl ?_
  refine v_iand (q := 22) hX (_) ((Int32.ofInt_toInt _).symm) dJ6_bitCount_0f7a4_21 rfl ?_
  refine v_iadd (q := 23) hX dJ6_bitCount_0f7a4_22 rfl ?_
  refine v_istore_n (q := 24) hX dJ6_bitCount_0f7a4_23 rfl (Nat.le_of_ble_eq_true rfl) (Nat.le_of_ble_eq_true rfl) rfl ?_
  dsimp only [xs1, xs2, xclr]
  refine v_iload_n (q := 25) hX dJ6_bitCount_0f7a4_24 rfl rfl rfl ?_
  refine v_iload_n (q := 26) hX dJ6_bitCount_0f7a4_25 rfl rfl rfl ?_
  refine v_iconst (q := 27) hX dJ6_bitCount_0f7a4_26 rfl ?_
  refine v_iushr (q := 28) hX (_) ((Int32.ofInt_toInt _).symm) dJ6_bitCount_0f7a4_27 rfl ?_
  refine v_iadd (q := 29) hX dJ6_bitCount_0f7a4_28 rfl ?_
  refine v_ldcw (q := 32) (e := 252645135) hX (by decide) kc_267 dJ6_bitCount_0f7a4_29 rfl ?_
  refine v_iand (q := 33) hX (_) ((Int32.ofInt_toInt _).symm) dJ6_bitCount_0f7a4_32 rfl ?_
  refine v_istore_n (q := 34) hX dJ6_bitCount_0f7a4_33 rfl (Nat.le_of_ble_eq_true rfl) (Nat.le_of_ble_eq_true rfl) rfl ?_
  dsimp only [xs1, xs2, xclr]
  refine v_iload_n (q := 35) hX dJ6_bitCount_0f7a4_34 rfl rfl rfl ?_
  refine v_iload_n (q := 36) hX dJ6_bitCount_0f7a4_35 rfl rfl rfl ?_
  refine v_bipush (q := 38) hX (by decide) dJ6_bitCount_0f7a4_36 rfl ?_
  refine v_iushr (q := 39) hX (_) ((Int32.ofInt_toInt _).symm) dJ6_bitCount_0f7a4_38 rfl ?_
  refine v_iadd (q := 40) hX dJ6_bitCount_0f7a4_39 rfl ?_
  refine v_istore_n (q := 41) hX dJ6_bitCount_0f7a4_40 rfl (Nat.le_of_ble_eq_true rfl) (Nat.le_of_ble_eq_true rfl) rfl ?_
  dsimp only [xs1, xs2, xclr]
  refine v_iload_n (q := 42) hX dJ6_bitCount_0f7a4_41 rfl rfl rfl ?_
  refine v_iload_n (q := 43) hX dJ6_bitCount_0f7a4_42 rfl rfl rfl ?_
  refine v_bipush (q := 45) hX (by decide) dJ6_bitCount_0f7a4_43 rfl ?_
  refine v_iushr (q := 46) hX (_) ((Int32.ofInt_toInt _).symm) dJ6_bitCount_0f7a4_45 rfl ?_
  refine v_iadd (q := 47) hX dJ6_bitCount_0f7a4_46 rfl ?_
  refine v_istore_n (q := 48) hX dJ6_bitCount_0f7a4_47 rfl (Nat.le_of_ble_eq_true rfl) (Nat.le_of_ble_eq_true rfl) rfl ?_
  dsimp only [xs1, xs2, xclr]
  refine v_iload_n (q := 49) hX dJ6_bitCount_0f7a4_48 rfl rfl rfl ?_
  refine v_bipush (q := 51) hX (by decide) dJ6_bitCount_0f7a4_49 rfl ?_
  refine v_iand (q := 52) hX (_) ((Int32.ofInt_toInt _).symm) dJ6_bitCount_0f7a4_51 rfl ?_
  refine v_ireturn hX hRX rfl (by first | rfl | exact bi_nar _) dJ6_bitCount_0f7a4_52 rfl ?_
  refine ⟨congrArg (fun x => some (Value.int x)) ?_, rfl, rfl⟩
  clear hRX hX
  revert m
  decide +kernel

/-- a row filled up to k -/
def fz (F : Nat → Int) (e : Int) (k : Nat) : Nat → Int := fun i => if i < k then e else F i
theorem fz_0 (F : Nat → Int) (e : Int) : fz F e 0 = F := by funext i; unfold fz; rw [if_neg (by omega)]
theorem fz_s (F : Nat → Int) (e : Int) (k : Nat) : fu (fz F e k) k e = fz F e (k + 1) := by
  funext i; unfold fz fu; dsimp only
  by_cases h : i = k
  · rw [if_pos h, if_pos (by omega)]
  · rw [if_neg h]
    by_cases h2 : i < k
    · rw [if_pos h2, if_pos (by omega)]
    · rw [if_neg h2, if_neg (by omega)]
set_option maxRecDepth 100000 in
set_option maxHeartbeats 4000000 in
theorem c_J7_fill {z : Nat} (D : xD) (r : xR) {a len : Nat} (hA : xAr 351 a 10 len) (e : Int) : MX 0 mJ7_fill_53178 [.ref a, vi e] (351, z) D r (351, z) (xEn (fun D' => D' = xw D a (fz (D a) e len)) r) := by
  refine MX.of (by decide +kernel) [some (.ref a), some (vi e), none, none] rfl (Nat.le_of_ble_eq_true rfl) ?_
  intro γ hX hRX
  have L : ∀ k, k ≤ len → xV γ 5 [some (.ref a), some (vi e), some (vi (k : Nat)), some (vi (len : Nat))] [] (351, z) (xw D a (fz (D a) e k)) r := by
    refine xup len (fun k hk ih => ?_)
    refine v_iload_n (q := 6) hX dJ7_fill_53178_5 rfl rfl rfl ?_
    refine v_iload_n (q := 7) hX dJ7_fill_53178_6 rfl rfl rfl ?_
    refine v_icmp_ge (q := 10) (tgt := 20) hX ⟨by omega, by have := hA.2.2.2; omega⟩ ⟨by omega, by have := hA.2.2.2; omega⟩ dJ7_fill_53178_7 (by decide) rfl (fun h7 => ?_) (fun h7 => ?_)
    · refine v_vreturn hX hRX rfl dJ7_fill_53178_20 rfl ?_
      rw [show k = len by omega]
      exact ⟨rfl, rfl, rfl⟩
    · refine v_aload_n (q := 11) hX dJ7_fill_53178_10 rfl rfl rfl ?_
      refine v_iload_n (q := 12) hX dJ7_fill_53178_11 rfl rfl rfl ?_
      refine v_iload_n (q := 13) hX dJ7_fill_53178_12 rfl rfl rfl ?_
      refine w_ist (q := 14) (kk := k) hX (by omega) (by omega) hA dJ7_fill_53178_13 rfl ?_
      rw [xu_xw', fz_s]
      refine v_iinc (q := 17) hX dJ7_fill_53178_14 rfl (Nat.le_of_ble_eq_true rfl) (Nat.le_of_ble_eq_true rfl) rfl ?_
      dsimp only [xs1, xs2, xclr]
      refine v_goto (tgt := 5) hX dJ7_fill_53178_17 (by decide) ?_
      exact ih (by omega)
  refine v_iconst (q := 1) hX dJ7_fill_53178_0 rfl ?_
  refine v_istore_n (q := 2) hX dJ7_fill_53178_1 rfl (Nat.le_of_ble_eq_true rfl) (Nat.le_of_ble_eq_true rfl) rfl ?_
  dsimp only [xs1, xs2, xclr]
  refine v_aload_n (q := 3) hX dJ7_fill_53178_2 rfl rfl rfl ?_
  refine v_alen (q := 4) hX (hA).1 (hA).2.1 (hA).2.2.1 dJ7_fill_53178_3 rfl ?_
  refine v_istore_n (q := 5) hX dJ7_fill_53178_4 rfl (Nat.le_of_ble_eq_true rfl) (Nat.le_of_ble_eq_true rfl) rfl ?_
  dsimp only [xs1, xs2, xclr]
  have e1 := L 0 (Nat.zero_le _)
  rw [fz_0, xw_self] at e1
  exact e1

set_option maxRecDepth 100000 in
set_option maxHeartbeats 4000000 in
theorem c_X2_lotsIn {z : Nat} (D : xD) (r : xR) {b : Nat} (hK : PK b) (hR : PR b r) {N : Nat → Int} {p : Nat} (hP : PC D b N p) (w : Nat) (hw : w < 12) : MX 0 mX2_lotsIn [.ref b, vi w] (351, z) D r (351, z) (xP (vi (pF N p (24 + w))) D r) := by
  refine MX.of (by decide +kernel) [some (.ref b), some (vi w)] rfl (Nat.le_of_ble_eq_true rfl) ?_
  intro γ hX hRX
  refine v_iload_n (q := 1) hX dX2_lotsIn_0 rfl rfl rfl ?_
  refine v_if_lt (q := 4) (tgt := 19) hX ⟨by omega, by omega⟩ dX2_lotsIn_1 (by decide) rfl (fun h1 => ?_) (fun h1 => ?_)
  · exact absurd h1 (by omega)
  · refine v_iload_n (q := 5) hX dX2_lotsIn_4 rfl rfl rfl ?_
    refine v_bipush (q := 7) hX (by decide) dX2_lotsIn_5 rfl ?_
    refine v_icmp_ge (q := 10) (tgt := 19) hX ⟨by omega, by omega⟩ (by decide) dX2_lotsIn_7 (by decide) rfl (fun h7 => ?_) (fun h7 => ?_)
    · exact absurd h7 (by omega)
    · refine v_aload_n (q := 11) hX dX2_lotsIn_10 rfl rfl rfl ?_
      refine w_getR (q := 14) hX fl_X2_15 rfl hK.1 hR.2 dX2_lotsIn_11 rfl ?_
      refine v_iload_n (q := 15) hX dX2_lotsIn_14 rfl rfl rfl ?_
      refine w_ild (q := 16) (kk := w) hX (by omega) (by omega) hK.2.2 dX2_lotsIn_15 rfl ?_
      rw [hP.lt w hw]
      refine v_goto (tgt := 20) hX dX2_lotsIn_16 (by decide) ?_
      refine v_ireturn hX hRX rfl (by first | rfl | exact bi_nar _) dX2_lotsIn_20 rfl ?_
      exact ⟨rfl, rfl, rfl⟩

set_option maxRecDepth 100000 in
set_option maxHeartbeats 4000000 in
theorem c_X2_cover {z : Nat} (D : xD) (r : xR) {b : Nat} (hK : PK b) (hR : PR b r) {B : Int} {np : Nat} {N : Nat → Int} (hO : nOk B np N) {p : Nat} (hp : p < np) (hP : PC D b N p) : MX 0 mX2_cover [.ref b, vi (N 9)] (351, z) D r (351, z) (xP (vi (nCov N p)) D r) := by
  refine MX.of (by decide +kernel) [some (.ref b), some (vi (N 9))] rfl (Nat.le_of_ble_eq_true rfl) ?_
  intro γ hX hRX
  refine v_aload_n (q := 1) hX dX2_cover_0 rfl rfl rfl ?_
  refine w_getI (q := 4) hX fl_X2_40 rfl hK.1 dX2_cover_1 rfl ?_
  rw [hP.er]
  refine v_iload_n (q := 5) hX dX2_cover_4 rfl rfl rfl ?_
  have h1 := nCov_le hO hp
  refine v_imul (q := 6) hX dX2_cover_5 rfl ?_
  refine v_bipush (q := 8) hX (by decide) dX2_cover_6 rfl ?_
  refine v_idiv (q := 9) hX h1.1.1 ⟨by omega, by omega⟩ (by decide) (by decide) dX2_cover_8 rfl ?_
  refine v_ireturn hX hRX rfl (by first | rfl | exact bi_nar _) dX2_cover_9 rfl ?_
  exact ⟨rfl, rfl, rfl⟩

set_option maxRecDepth 100000 in
set_option maxHeartbeats 4000000 in
theorem c_X2_lotsInAll {z : Nat} (D : xD) (r : xR) {b : Nat} (hK : PK b) (hR : PR b r) {N : Nat → Int} {p : Nat} (hP : PC D b N p) : MX 0 mX2_lotsInAll [.ref b] (351, z) D r (351, z) (xP (vi (nLotsP N p 12)) D r) := by
  refine MX.of (by decide +kernel) [some (.ref b), none, none] rfl (Nat.le_of_ble_eq_true rfl) ?_
  intro γ hX hRX
  have L : ∀ k, k ≤ 12 → xV γ 4 [some (.ref b), some (vi (nLotsP N p k)), some (vi (k : Nat))] [] (351, z) D r := by
    refine xup 12 (fun k hk ih => ?_)
    refine v_iload_n (q := 5) hX dX2_lotsInAll_4 rfl rfl rfl ?_
    refine v_bipush (q := 7) hX (by decide) dX2_lotsInAll_5 rfl ?_
    refine v_icmp_ge (q := 10) (tgt := 25) hX ⟨by omega, by omega⟩ (by decide) dX2_lotsInAll_7 (by decide) rfl (fun h7 => ?_) (fun h7 => ?_)
    · refine v_iload_n (q := 26) hX dX2_lotsInAll_25 rfl rfl rfl ?_
      refine v_ireturn hX hRX rfl (by first | rfl | exact bi_nar _) dX2_lotsInAll_26 rfl ?_
      rw [show k = 12 by omega]
      exact ⟨rfl, rfl, rfl⟩
    · refine v_iload_n (q := 11) hX dX2_lotsInAll_10 rfl rfl rfl ?_
      refine v_aload_n (q := 12) hX dX2_lotsInAll_11 rfl rfl rfl ?_
      refine w_getR (q := 15) hX fl_X2_15 rfl hK.1 hR.2 dX2_lotsInAll_12 rfl ?_
      refine v_iload_n (q := 16) hX dX2_lotsInAll_15 rfl rfl rfl ?_
      refine w_ild (q := 17) (kk := k) hX (by omega) (by omega) hK.2.2 dX2_lotsInAll_16 rfl ?_
      rw [hP.lt k (by omega)]
      refine v_iadd (q := 18) hX dX2_lotsInAll_17 rfl ?_
      refine v_istore_n (q := 19) hX dX2_lotsInAll_18 rfl (Nat.le_of_ble_eq_true rfl) (Nat.le_of_ble_eq_true rfl) rfl ?_
      dsimp only [xs1, xs2, xclr]
      refine v_iinc (q := 22) hX dX2_lotsInAll_19 rfl (Nat.le_of_ble_eq_true rfl) (Nat.le_of_ble_eq_true rfl) rfl ?_
      dsimp only [xs1, xs2, xclr]
      refine v_goto (tgt := 4) hX dX2_lotsInAll_22 (by decide) ?_
      exact ih (by omega)
  refine v_iconst (q := 1) hX dX2_lotsInAll_0 rfl ?_
  refine v_istore_n (q := 2) hX dX2_lotsInAll_1 rfl (Nat.le_of_ble_eq_true rfl) (Nat.le_of_ble_eq_true rfl) rfl ?_
  dsimp only [xs1, xs2, xclr]
  refine v_iconst (q := 3) hX dX2_lotsInAll_2 rfl ?_
  refine v_istore_n (q := 4) hX dX2_lotsInAll_3 rfl (Nat.le_of_ble_eq_true rfl) (Nat.le_of_ble_eq_true rfl) rfl ?_
  dsimp only [xs1, xs2, xclr]
  exact L 0 (Nat.zero_le _)

set_option maxRecDepth 100000 in
set_option maxHeartbeats 4000000 in
theorem c_X2_projectionBehind {z : Nat} (D : xD) (r : xR) {b : Nat} (hK : PK b) (hR : PR b r) {B : Int} {np : Nat} {N : Nat → Int} (hO : nOk B np N) {p : Nat} (hp : p < np) (hP : PC D b N p) (k : Nat) (hk : k ≤ 12) : MX 0 mX2_projectionBehind [.ref b, vi ((k : Int) - 1)] (351, z) D r (351, z) (xP (vl (nPj N p k)) D r) := by
  refine MX.of (by decide +kernel) [some (.ref b), some (vi ((k : Int) - 1)), none, none, none] rfl (Nat.le_of_ble_eq_true rfl) ?_
  intro γ hX hRX
  obtain ⟨-, p1, -, -, p4, p5, -⟩ := hO.2.2.2.2.2 p hp
  have hB := hO.1
  have L : ∀ i, i ≤ k → xV γ 15 [some (.ref b), some (vi ((k : Int) - 1)), some (vl (nPj N p i)), none, some (vi (i : Nat))] [] (351, z) D r := by
    refine xup k (fun i hi ih => ?_)
    refine v_iload (q := 17) hX dX2_projectionBehind_15 rfl rfl ?_
    refine v_iload_n (q := 18) hX dX2_projectionBehind_17 rfl rfl rfl ?_
    refine v_icmp_gt (q := 21) (tgt := 60) hX ⟨by omega, by omega⟩ ⟨by omega, by omega⟩ dX2_projectionBehind_18 (by decide) rfl (fun h18 => ?_) (fun h18 => ?_)
    · refine v_lload_n (q := 61) hX dX2_projectionBehind_60 rfl rfl rfl ?_
      refine v_lreturn hX hRX rfl dX2_projectionBehind_61 rfl ?_
      rw [show i = k by omega]
      exact ⟨rfl, rfl, rfl⟩
    · have q1 := hO.lots hp (k := i) (by omega)
      have q2 := hO.fc hp (k := i) (by omega)
      refine v_iload (q := 23) hX dX2_projectionBehind_21 rfl rfl ?_
      refine v_bipush (q := 25) hX (by decide) dX2_projectionBehind_23 rfl ?_
      refine v_icmp_ge (q := 28) (tgt := 60) hX ⟨by omega, by omega⟩ (by decide) dX2_projectionBehind_25 (by decide) rfl (fun h25 => ?_) (fun h25 => ?_)
      · exact absurd h25 (by omega)
      · refine v_lload_n (q := 29) hX dX2_projectionBehind_28 rfl rfl rfl ?_
        refine v_aload_n (q := 30) hX dX2_projectionBehind_29 rfl rfl rfl ?_
        refine w_getR (q := 33) hX fl_X2_15 rfl hK.1 hR.2 dX2_projectionBehind_30 rfl ?_
        refine v_iload (q := 35) hX dX2_projectionBehind_33 rfl rfl ?_
        refine w_ild (q := 36) (kk := i) hX (by omega) (by omega) hK.2.2 dX2_projectionBehind_35 rfl ?_
        rw [hP.lt i (by omega)]
        refine v_i2l (q := 37) hX ⟨by omega, by omega⟩ dX2_projectionBehind_36 rfl ?_
        refine v_aload_n (q := 38) hX dX2_projectionBehind_37 rfl rfl rfl ?_
        refine w_getI (q := 41) hX fl_X2_22 rfl hK.1 dX2_projectionBehind_38 rfl ?_
        rw [hP.sz]
        refine v_i2l (q := 42) hX ⟨by omega, by omega⟩ dX2_projectionBehind_41 rfl ?_
        refine v_lmul (q := 43) hX dX2_projectionBehind_42 rfl ?_
        refine v_aload_n (q := 44) hX dX2_projectionBehind_43 rfl rfl rfl ?_
        refine w_getR (q := 47) hX fl_X2_9 rfl hK.1 hR.1 dX2_projectionBehind_44 rfl ?_
        refine v_iload (q := 49) hX dX2_projectionBehind_47 rfl rfl ?_
        refine w_ild (q := 50) (kk := i) hX (by omega) (by omega) hK.2.1 dX2_projectionBehind_49 rfl ?_
        rw [hP.fc i (by omega)]
        refine v_i2l (q := 51) hX ⟨by omega, by omega⟩ dX2_projectionBehind_50 rfl ?_
        refine v_lsub (q := 52) hX dX2_projectionBehind_51 rfl ?_
        refine v_ladd (q := 53) hX dX2_projectionBehind_52 rfl ?_
        refine v_lstore_n (q := 54) hX dX2_projectionBehind_53 rfl (Nat.le_of_ble_eq_true rfl) (Nat.le_of_ble_eq_true rfl) rfl ?_
        dsimp only [xs1, xs2, xclr]
        refine v_iinc (q := 57) hX dX2_projectionBehind_54 rfl (Nat.le_of_ble_eq_true rfl) (Nat.le_of_ble_eq_true rfl) rfl ?_
        dsimp only [xs1, xs2, xclr]
        refine v_goto (tgt := 15) hX dX2_projectionBehind_57 (by decide) ?_
        exact ih (by omega)
  refine v_aload_n (q := 1) hX dX2_projectionBehind_0 rfl rfl rfl ?_
  refine w_getI (q := 4) hX fl_X2_34 rfl hK.1 dX2_projectionBehind_1 rfl ?_
  rw [hP.st]
  refine v_i2l (q := 5) hX ⟨by omega, by omega⟩ dX2_projectionBehind_4 rfl ?_
  refine v_aload_n (q := 6) hX dX2_projectionBehind_5 rfl rfl rfl ?_
  refine w_getI (q := 9) hX fl_X2_37 rfl hK.1 dX2_projectionBehind_6 rfl ?_
  rw [hP.bl]
  refine v_i2l (q := 10) hX ⟨by omega, by omega⟩ dX2_projectionBehind_9 rfl ?_
  refine v_lsub (q := 11) hX dX2_projectionBehind_10 rfl ?_
  refine v_lstore_n (q := 12) hX dX2_projectionBehind_11 rfl (Nat.le_of_ble_eq_true rfl) (Nat.le_of_ble_eq_true rfl) rfl ?_
  dsimp only [xs1, xs2, xclr]
  refine v_iconst (q := 13) hX dX2_projectionBehind_12 rfl ?_
  refine v_istore (q := 15) hX dX2_projectionBehind_13 (Nat.le_of_ble_eq_true rfl) (Nat.le_of_ble_eq_true rfl) rfl ?_
  dsimp only [xs1, xs2, xclr]
  exact L 0 (Nat.zero_le _)

/-- a row with nothing from f to k -/
def zr (F : Nat → Int) (f k : Nat) : Nat → Int := fun i => if f ≤ i ∧ i < k then 0 else F i
theorem zr_0 (F : Nat → Int) (f : Nat) : zr F f f = F := by funext i; unfold zr; rw [if_neg (by omega)]
theorem zr_s (F : Nat → Int) (f k : Nat) (h : f ≤ k) : fu (zr F f k) k 0 = zr F f (k + 1) := by
  funext i; unfold zr fu; dsimp only
  by_cases h : i = k
  · rw [if_pos h, if_pos (by omega)]
  · rw [if_neg h]
    by_cases h2 : f ≤ i ∧ i < k
    · rw [if_pos h2, if_pos (by omega)]
    · rw [if_neg h2, if_neg (by omega)]
theorem xu_r2 (D : xD) (b j : Nat) (e : Int) : xu D b j e (b + 2) = D (b + 2) := by unfold xu; rw [if_neg (by omega)]
theorem xu_r1 (D : xD) (b j : Nat) (e : Int) : xu D b j e (b + 1) = D (b + 1) := by unfold xu; rw [if_neg (by omega)]
set_option maxRecDepth 100000 in
set_option maxHeartbeats 4000000 in
theorem c_X2_openPlan {z : Nat} (D : xD) (r : xR) {b : Nat} (hK : PK b) (hR : PR b r) {B : Int} {np : Nat} {N : Nat → Int} (hO : nOk B np N) {p : Nat} (hp : p < np) (hP : PC D b N p) (f : Nat) (hf : f ≤ 8) : MX 1 mX2_openPlan [.ref b, vi f] (351, z) D r (351, z) (xEn (fun D' => D' = xw (xu D b 14 (nPj N p f)) (b + 2) (zr (D (b + 2)) f 12)) r) := by
  refine MX.of (by decide +kernel) [some (.ref b), some (vi f), none] rfl (Nat.le_of_ble_eq_true rfl) ?_
  intro γ hX hRX
  have L : ∀ k, k ≤ 12 → f ≤ k → xV γ 17 [some (.ref b), some (vi f), some (vi (k : Nat))] [] (351, z) (xw (xu D b 14 (nPj N p f)) (b + 2) (zr (D (b + 2)) f k)) r := by
    refine xup 12 (fun k hk ih hk1 => ?_)
    refine v_iload_n (q := 18) hX dX2_openPlan_17 rfl rfl rfl ?_
    refine v_bipush (q := 20) hX (by decide) dX2_openPlan_18 rfl ?_
    refine v_icmp_ge (q := 23) (tgt := 36) hX ⟨by omega, by omega⟩ (by decide) dX2_openPlan_20 (by decide) rfl (fun h20 => ?_) (fun h20 => ?_)
    · refine v_vreturn hX hRX rfl dX2_openPlan_36 rfl ?_
      rw [show k = 12 by omega]
      exact ⟨rfl, rfl, rfl⟩
    · refine v_aload_n (q := 24) hX dX2_openPlan_23 rfl rfl rfl ?_
      refine w_getR (q := 27) hX fl_X2_15 rfl hK.1 hR.2 dX2_openPlan_24 rfl ?_
      refine v_iload_n (q := 28) hX dX2_openPlan_27 rfl rfl rfl ?_
      refine v_iconst (q := 29) hX dX2_openPlan_28 rfl ?_
      refine w_ist (q := 30) (kk := k) hX (by omega) (by omega) hK.2.2 dX2_openPlan_29 rfl ?_
      rw [xu_xw', zr_s _ _ _ hk1]
      refine v_iinc (q := 33) hX dX2_openPlan_30 rfl (Nat.le_of_ble_eq_true rfl) (Nat.le_of_ble_eq_true rfl) rfl ?_
      dsimp only [xs1, xs2, xclr]
      refine v_goto (tgt := 17) hX dX2_openPlan_33 (by decide) ?_
      have e1 := ih (by omega) (by omega)
      exact e1
  refine v_aload_n (q := 1) hX dX2_openPlan_0 rfl rfl rfl ?_
  refine v_aload_n (q := 2) hX dX2_openPlan_1 rfl rfl rfl ?_
  refine v_iload_n (q := 3) hX dX2_openPlan_2 rfl rfl rfl ?_
  refine v_iconst (q := 4) hX dX2_openPlan_3 rfl ?_
  refine v_isub (q := 5) hX dX2_openPlan_4 rfl ?_
  refine w_callV (q := 8) hX (c_X2_projectionBehind _ _ hK hR hO hp hP f (by omega)) rfl kV_X2_projectionBehind rfl (by decide) lk_X2_67 (by decide) rfl hK.1 (Nat.le_of_ble_eq_true rfl) dX2_openPlan_5 rfl ?_
  refine w_putL (q := 11) hX fl_X2_71 rfl hK.1 dX2_openPlan_8 rfl ?_
  refine v_iload_n (q := 12) hX dX2_openPlan_11 rfl rfl rfl ?_
  refine v_iconst (q := 13) hX dX2_openPlan_12 rfl ?_
  refine v_mmax (q := 16) hX ⟨by omega, by omega⟩ (by decide) lk_X2_75 st_max (show Cond.initialized "java/lang/Math" ∈ xtb from ii_J9) cd_max (by decide) (Nat.le_of_ble_eq_true rfl) dX2_openPlan_13 rfl ?_
  rw [show (if (f : Int) < 0 then (0 : Int) else f) = f by split <;> omega]
  refine v_istore_n (q := 17) hX dX2_openPlan_16 rfl (Nat.le_of_ble_eq_true rfl) (Nat.le_of_ble_eq_true rfl) rfl ?_
  dsimp only [xs1, xs2, xclr]
  have e1 := L f (by omega) (Nat.le_refl _)
  rw [zr_0, ← xu_r2 D b 14 (nPj N p f), xw_self] at e1
  exact e1


