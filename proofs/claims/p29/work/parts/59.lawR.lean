/-! ===== the law: its turns ===== -/
section R9
variable {γ : xC} {cc : ByteArray} {nL d : Nat} {y : MethodName} {pc q : Nat} {pl : List (Option Value)} {st : List Value} {D : xD} {r : xR}
theorem w_callSr {n z : Nat} {rest As : List Value} {μ : xM} {d' m idx : Nat} (hX : xX γ cc nL y d) {w : Value} {Q : xD → xR → Prop} (hM : MX d' μ As (n, z) D r (n, z) (xRs w Q)) (hst : st = As.reverse ++ rest) (hμ : xMS μ m) (hn : As.length = m) (hdd : d' + 1 ≤ d) (hlk : Cond.methodLink y.cls idx μ.1 ∈ xtb)
    (hrest : (rest.map Value.category).sum ≤ 8) (hd : decode cc pc = .ok (.invokestatic idx, 3)) (hq : pc + 3 = q) (k : ∀ D' r', Q D' r' → xV γ q pl (w :: rest) (n, z) D' r') : xV γ pc pl st (n, z) D r :=
  v_callS hX hM hst hμ hn hdd hlk hrest hd hq (fun v D' r' h => by obtain ⟨rfl, hQ⟩ := h; exact k D' r' hQ)
end R9
theorem sandk (c : Int) (k : Nat) (hk : k ≤ 31) : Int32.ofInt c &&& Int32.ofInt (2 ^ k - 1) = Int32.ofInt (c % 2 ^ k) := by
  have h31 : k = 0 ∨ k = 1 ∨ k = 2 ∨ k = 3 ∨ k = 4 ∨ k = 5 ∨ 6 ≤ k := by omega
  apply Int32.toBitVec_inj.1
  rw [Int32.toBitVec_and]
  apply BitVec.eq_of_toNat_eq
  rw [BitVec.toNat_and]
  show (BitVec.ofInt 32 c).toNat &&& (BitVec.ofInt 32 (2 ^ k - 1)).toNat = (BitVec.ofInt 32 (c % 2 ^ k)).toNat
  have hp : (2 : Int) ^ k = ((2 ^ k : Nat) : Int) := by rw [Int.natCast_pow]; rfl
  have hpos : 0 < 2 ^ k := Nat.pow_pos (by decide)
  have hle : 2 ^ k ≤ 2 ^ 31 := Nat.pow_le_pow_right (by decide) hk
  have hdv : 2 ^ k ∣ 2 ^ 32 := Nat.pow_dvd_pow 2 (by omega)
  rw [BitVec.toNat_ofInt, BitVec.toNat_ofInt, BitVec.toNat_ofInt, hp]
  have e1 : ((((2 ^ k : Nat) : Int) - 1) % ((2 ^ 32 : Nat) : Int)).toNat = 2 ^ k - 1 := by
    rw [Int.emod_eq_of_lt (by omega) (by omega)]; omega
  rw [e1, Nat.and_two_pow_sub_one_eq_mod]
  generalize 2 ^ k = m at *
  have hm : 0 < m := hpos
  have e2 : c % (m : Int) % ((2 ^ 32 : Nat) : Int) = c % (m : Int) := Int.emod_eq_of_lt (Int.emod_nonneg _ (by omega)) (by have := Int.emod_lt_of_pos c (show (0 : Int) < (m : Int) by omega); omega)
  rw [e2]
  have e3 : c % ((2 ^ 32 : Nat) : Int) % (m : Int) = c % (m : Int) := Int.emod_emod_of_dvd c (Int.natCast_dvd_natCast.mpr hdv)
  rw [← e3]
  have h0 : 0 ≤ c % ((2 ^ 32 : Nat) : Int) := Int.emod_nonneg _ (by decide)
  obtain ⟨x, hx⟩ := Int.eq_ofNat_of_zero_le h0
  rw [hx]
  rfl
theorem sand1 (c : Int) : Int32.ofInt c &&& Int32.ofInt 1 = Int32.ofInt (c % 2) := sandk c 1 (by decide)
theorem sand7 (c : Int) : Int32.ofInt c &&& Int32.ofInt 7 = Int32.ofInt (c % 8) := sandk c 3 (by decide)
theorem sand15 (c : Int) : Int32.ofInt c &&& Int32.ofInt 15 = Int32.ofInt (c % 16) := sandk c 4 (by decide)
theorem sand31 (c : Int) : Int32.ofInt c &&& Int32.ofInt 2147483647 = Int32.ofInt (c % 2147483648) := sandk c 31 (by decide)
/-- a number below m -/
def uv (x m : Int) : Int := x % 2147483648 % m
theorem uv_I (x m : Int) (hm : 1 ≤ m ∧ m ≤ 1000) : 0 ≤ uv x m ∧ uv x m < m := ⟨Int.emod_nonneg _ (by omega), Int.emod_lt_of_pos _ (by omega)⟩
theorem uv_x (x m : Int) (hm : 1 ≤ m ∧ m ≤ 1000) : xI (uv x m) := by have := uv_I x m hm; exact ⟨by omega, by omega⟩
def sh (a k : Int) : Int := (Int32.ofInt a >>> (Int32.ofInt k &&& 31)).toInt
theorem sh_x (a k : Int) : xI (sh a k) := x32 _
def an64 (a : Int) : Int := (Int32.ofInt a &&& Int32.ofInt 64).toInt
theorem an64_x (a : Int) : xI (an64 a) := x32 _
def mostv (w : Int) : Int := if w = 0 ∨ w = 5 then 300 else if w = 2 then 9 else if w = 3 then 7 else if w = 4 then 401 else 101
theorem mostv_I (w : Int) : 1 ≤ mostv w ∧ mostv w ≤ 1000 := by unfold mostv; repeat' split <;> omega
def tSets (N : Nat → Int) (np : Nat) (a b : Int) : xT := tSet N np (uv a 9) (uv b (mostv (uv a 9)))
def tAny (N : Nat → Int) (np : Nat) (sv : Nat → Int) (M : Nat → Nat → Int) (mp : Nat → Nat) (a b : Int) : xT :=
  if b % 8 = 0 then tSet N np a b else if b % 8 = 1 then tPro N np a b a b a else if b % 8 = 2 then tFam N np a b else if b % 8 = 3 then tFor N np a b a else if b % 8 = 4 then tAct N np a b else if b % 8 = 5 then tLot N np a b a else if b % 8 = 6 then tWee N np a else tRes N np sv M mp a
def tTur (N : Nat → Int) (np : Nat) (sv : Nat → Int) (M : Nat → Nat → Int) (mp : Nat → Nat) (w a b : Int) : xT :=
  if w = 0 ∨ w = 1 then tPro N np (uv a 4) (1 + uv (sh a 2) 40) (1 + uv b 12) (uv (sh b 4) 21) (uv (sh b 8) 300)
  else if w = 2 then tSets N np a b
  else if w = 3 then tFam N np (uv a 4) (uv b 51)
  else if w = 4 ∨ w = 5 ∨ w = 6 then tFor N np (uv a 5) (uv (sh a 4) 12) (uv b 200)
  else if w = 7 then tAct N np (uv a 5) (if an64 a = 0 then uv b 400 else -6)
  else if w = 8 ∨ w = 9 then tLot N np (uv a 5) (uv (sh a 4) 12) (uv b (if an64 a = 0 then 5 else 60))
  else if w = 10 ∨ w = 11 then tPla N np
  else if w = 12 ∨ w = 13 then tWee N np (1 + uv b (if a % 8 = 0 then 12 else 2))
  else tAny N np sv M mp a b

set_option maxRecDepth 100000 in
set_option maxHeartbeats 4000000 in
theorem c_L_up {z : Nat} (D : xD) (r : xR) (x m : Int) (ix : xI x) (hm : 1 ≤ m ∧ m ≤ 1000) : MX 0 mL_up [vi x, vi m] (351, z) D r (351, z) (xP (vi (uv x m)) D r) := by
  refine MX.of (by decide +kernel) [some (vi x), some (vi m)] rfl (Nat.le_of_ble_eq_true rfl) ?_
  intro γ hX hRX
  refine v_iload_n (q := 1) hX dL_up_0 rfl rfl rfl ?_
  refine v_ldc (q := 3) (e := 2147483647) hX (by decide) kc_8 dL_up_1 rfl ?_
  refine v_iand (q := 4) hX (x % 2147483648) (sand31 x) dL_up_3 rfl ?_
  refine v_iload_n (q := 5) hX dL_up_4 rfl rfl rfl ?_
  refine v_irem (q := 6) hX (by omega) ⟨by omega, by omega⟩ (by omega) ⟨by omega, by omega⟩ dL_up_5 rfl ?_
  refine v_ireturn hX hRX rfl (by first | rfl | exact bi_nar _) dL_up_6 rfl ?_
  exact ⟨rfl, rfl, rfl⟩

set_option maxRecDepth 100000 in
set_option maxHeartbeats 4000000 in
theorem c_L_sets {z : Nat} {D : xD} {r : xR} {N : Nat → Int} {np s : Nat} {K : Nat → Nat → Int} {q : Nat → Nat} {B : Int} (h : Jc D r N np s K q) (hG : GS B N np) (a b : Int) (ia : xI a) (ib : xI b) : MX 5 mL_sets [.ref 4, vi a, vi b] (351, z) D r (351, z) (xRs (vi (tSets N np a b).1) (TX D r s K q N np (tSets N np a b))) := by
  refine MX.of (by decide +kernel) [some (.ref 4), some (vi a), some (vi b), none, none] rfl (Nat.le_of_ble_eq_true rfl) ?_
  intro γ hX hRX
  have hw := uv_I a 9 (by decide)
  have K55 : ∀ m : Int, m = mostv (uv a 9) → xV γ 55 [some (.ref 4), some (vi a), some (vi b), some (vi (uv a 9)), none] [vi m] (351, z) D r := by
    intro m hm
    have hmI := mostv_I (uv a 9)
    rw [← hm] at hmI
    have e : TX D r s K q N np (tSets N np a b) = TX D r s K q N np (tSet N np (uv a 9) (uv b m)) := by rw [hm]; rfl
    have e2 : (tSets N np a b).1 = (tSet N np (uv a 9) (uv b m)).1 := by rw [hm]; rfl
    rw [e, e2] at hRX
    refine v_istore (q := 57) hX dL_sets_55 (Nat.le_of_ble_eq_true rfl) (Nat.le_of_ble_eq_true rfl) rfl ?_
    dsimp only [xs1, xs2, xclr]
    refine v_aload_n (q := 58) hX dL_sets_57 rfl rfl rfl ?_
    refine v_iload_n (q := 59) hX dL_sets_58 rfl rfl rfl ?_
    refine v_iload_n (q := 60) hX dL_sets_59 rfl rfl rfl ?_
    refine v_iload (q := 62) hX dL_sets_60 rfl rfl ?_
    refine w_callS (q := 65) hX (c_L_up _ _ _ _ ib hmI) rfl kS_L_up rfl (by decide) lk_L_53 (Nat.le_of_ble_eq_true rfl) dL_sets_62 rfl ?_
    refine w_callVr (q := 68) hX (tt_set h hG _ _ (uv_x _ _ (by decide)) (uv_x _ _ hmI)) rfl kV_X4_set rfl (by decide) lk_L_27 (by decide) rfl oLF (Nat.le_of_ble_eq_true rfl) dL_sets_65 rfl (fun D1 r1 h1_ => ?_)
    refine v_ireturn hX hRX rfl (by first | rfl | exact bi_nar _) dL_sets_68 rfl ?_
    exact ⟨rfl, h1_⟩
  refine v_iload_n (q := 1) hX dL_sets_0 rfl rfl rfl ?_
  refine v_bipush (q := 3) hX (by decide) dL_sets_1 rfl ?_
  refine w_callS (q := 6) hX (c_L_up _ _ _ _ ia (by decide)) rfl kS_L_up rfl (by decide) lk_L_53 (Nat.le_of_ble_eq_true rfl) dL_sets_3 rfl ?_
  refine v_istore_n (q := 7) hX dL_sets_6 rfl (Nat.le_of_ble_eq_true rfl) (Nat.le_of_ble_eq_true rfl) rfl ?_
  dsimp only [xs1, xs2, xclr]
  refine v_iload_n (q := 8) hX dL_sets_7 rfl rfl rfl ?_
  refine v_if_eq (q := 11) (tgt := 16) hX ⟨by omega, by omega⟩ dL_sets_8 (by decide) rfl (fun hx_8 => ?_) (fun hx_8 => ?_)
  · refine v_sipush (q := 19) hX (by decide) dL_sets_16 rfl ?_
    refine v_goto (tgt := 55) hX dL_sets_19 (by decide) ?_
    exact K55 _ (by unfold mostv; repeat' split <;> omega)
  · refine v_iload_n (q := 12) hX dL_sets_11 rfl rfl rfl ?_
    refine v_iconst (q := 13) hX dL_sets_12 rfl ?_
    refine v_icmp_ne (q := 16) (tgt := 22) hX ⟨by omega, by omega⟩ ⟨by omega, by omega⟩ dL_sets_13 (by decide) rfl (fun hx_13 => ?_) (fun hx_13 => ?_)
    · refine v_iload_n (q := 23) hX dL_sets_22 rfl rfl rfl ?_
      refine v_iconst (q := 24) hX dL_sets_23 rfl ?_
      refine v_icmp_ne (q := 27) (tgt := 32) hX ⟨by omega, by omega⟩ ⟨by omega, by omega⟩ dL_sets_24 (by decide) rfl (fun hx_24 => ?_) (fun hx_24 => ?_)
      · refine v_iload_n (q := 33) hX dL_sets_32 rfl rfl rfl ?_
        refine v_iconst (q := 34) hX dL_sets_33 rfl ?_
        refine v_icmp_ne (q := 37) (tgt := 42) hX ⟨by omega, by omega⟩ ⟨by omega, by omega⟩ dL_sets_34 (by decide) rfl (fun hx_34 => ?_) (fun hx_34 => ?_)
        · refine v_iload_n (q := 43) hX dL_sets_42 rfl rfl rfl ?_
          refine v_iconst (q := 44) hX dL_sets_43 rfl ?_
          refine v_icmp_ne (q := 47) (tgt := 53) hX ⟨by omega, by omega⟩ ⟨by omega, by omega⟩ dL_sets_44 (by decide) rfl (fun hx_44 => ?_) (fun hx_44 => ?_)
          · refine v_bipush (q := 55) hX (by decide) dL_sets_53 rfl ?_
            exact K55 _ (by unfold mostv; repeat' split <;> omega)
          · refine v_sipush (q := 50) hX (by decide) dL_sets_47 rfl ?_
            refine v_goto (tgt := 55) hX dL_sets_50 (by decide) ?_
            exact K55 _ (by unfold mostv; repeat' split <;> omega)
        · refine v_bipush (q := 39) hX (by decide) dL_sets_37 rfl ?_
          refine v_goto (tgt := 55) hX dL_sets_39 (by decide) ?_
          exact K55 _ (by unfold mostv; repeat' split <;> omega)
      · refine v_bipush (q := 29) hX (by decide) dL_sets_27 rfl ?_
        refine v_goto (tgt := 55) hX dL_sets_29 (by decide) ?_
        exact K55 _ (by unfold mostv; repeat' split <;> omega)
    · refine v_sipush (q := 19) hX (by decide) dL_sets_16 rfl ?_
      refine v_goto (tgt := 55) hX dL_sets_19 (by decide) ?_
      exact K55 _ (by unfold mostv; repeat' split <;> omega)

set_option maxRecDepth 100000 in
set_option maxHeartbeats 4000000 in
theorem c_L_any {z : Nat} {D : xD} {r : xR} {N : Nat → Int} {np s : Nat} {K : Nat → Nat → Int} {q : Nat → Nat} {B : Int} {sv : Nat → Int} {M : Nat → Nat → Int} {mp : Nat → Nat} (h : Jc D r N np s K q) (hG : GS B N np) (hB : B + 60000 ≤ 2100000000) (hS : SL D B sv M mp) (a b : Int) (ia : xI a) (ib : xI b) : MX 5 mL_any [.ref 4, vi a, vi b] (351, z) D r (351, z) (xRs (vi (tAny N np sv M mp a b).1) (TX D r s K q N np (tAny N np sv M mp a b))) := by
  refine MX.of (by decide +kernel) [some (.ref 4), some (vi a), some (vi b)] rfl (Nat.le_of_ble_eq_true rfl) ?_
  intro γ hX hRX
  refine v_iload_n (q := 1) hX dL_any_0 rfl rfl rfl ?_
  refine v_bipush (q := 3) hX (by decide) dL_any_1 rfl ?_
  refine v_iand (q := 4) hX (b % 8) (sand7 b) dL_any_3 rfl ?_
  have h8 : b % 8 = 0 ∨ b % 8 = 1 ∨ b % 8 = 2 ∨ b % 8 = 3 ∨ b % 8 = 4 ∨ b % 8 = 5 ∨ b % 8 = 6 ∨ b % 8 = 7 := by omega
  rcases h8 with h8 | h8 | h8 | h8 | h8 | h8 | h8 | h8
  · have et : tAny N np sv M mp a b = tSet N np a b := by unfold tAny; rw [if_pos h8]
    rw [et] at hRX
    rw [h8]
    refine v_tableIn (tgt := 48) hX (by decide) dL_any_4 (by decide) (by decide) rfl (by decide) ?_
    refine v_aload_n (q := 49) hX dL_any_48 rfl rfl rfl ?_
    refine v_iload_n (q := 50) hX dL_any_49 rfl rfl rfl ?_
    refine v_iload_n (q := 51) hX dL_any_50 rfl rfl rfl ?_
    refine w_callVr (q := 54) hX (tt_set h hG _ _ (by first | assumption | exact x32 _ | exact uv_x _ _ (by first | decide | exact mostv_I _) | decide) (by first | assumption | exact x32 _ | exact uv_x _ _ (by first | decide | exact mostv_I _) | decide)) rfl kV_X4_set rfl (by decide) lk_L_27 (by decide) rfl oLF (Nat.le_of_ble_eq_true rfl) dL_any_51 rfl (fun D1 r1 h1_ => ?_)
    refine v_ireturn hX hRX rfl (by first | rfl | exact bi_nar _) dL_any_54 rfl ?_
    exact ⟨rfl, h1_⟩
  · have et : tAny N np sv M mp a b = tPro N np a b a b a := by unfold tAny; rw [if_neg (by omega), if_pos h8]
    rw [et] at hRX
    rw [h8]
    refine v_tableIn (tgt := 55) hX (by decide) dL_any_4 (by decide) (by decide) rfl (by decide) ?_
    refine v_aload_n (q := 56) hX dL_any_55 rfl rfl rfl ?_
    refine v_iload_n (q := 57) hX dL_any_56 rfl rfl rfl ?_
    refine v_iload_n (q := 58) hX dL_any_57 rfl rfl rfl ?_
    refine v_iload_n (q := 59) hX dL_any_58 rfl rfl rfl ?_
    refine v_iload_n (q := 60) hX dL_any_59 rfl rfl rfl ?_
    refine v_iload_n (q := 61) hX dL_any_60 rfl rfl rfl ?_
    refine w_callVr (q := 64) hX (tt_pro h hG _ _ _ _ _ (by first | assumption | exact x32 _ | exact uv_x _ _ (by first | decide | exact mostv_I _) | decide) (by first | assumption | exact x32 _ | exact uv_x _ _ (by first | decide | exact mostv_I _) | decide) (by first | assumption | exact x32 _ | exact uv_x _ _ (by first | decide | exact mostv_I _) | decide) (by first | assumption | exact x32 _ | exact uv_x _ _ (by first | decide | exact mostv_I _) | decide) (by first | assumption | exact x32 _ | exact uv_x _ _ (by first | decide | exact mostv_I _) | decide)) rfl kV_X4_product rfl (by decide) lk_L_30 (by decide) rfl oLF (Nat.le_of_ble_eq_true rfl) dL_any_61 rfl (fun D1 r1 h1_ => ?_)
    refine v_ireturn hX hRX rfl (by first | rfl | exact bi_nar _) dL_any_64 rfl ?_
    exact ⟨rfl, h1_⟩
  · have et : tAny N np sv M mp a b = tFam N np a b := by unfold tAny; rw [if_neg (by omega), if_neg (by omega), if_pos h8]
    rw [et] at hRX
    rw [h8]
    refine v_tableIn (tgt := 65) hX (by decide) dL_any_4 (by decide) (by decide) rfl (by decide) ?_
    refine v_aload_n (q := 66) hX dL_any_65 rfl rfl rfl ?_
    refine v_iload_n (q := 67) hX dL_any_66 rfl rfl rfl ?_
    refine v_iload_n (q := 68) hX dL_any_67 rfl rfl rfl ?_
    refine w_callVr (q := 71) hX (tt_fam h hG _ _ (by first | assumption | exact x32 _ | exact uv_x _ _ (by first | decide | exact mostv_I _) | decide) (by first | assumption | exact x32 _ | exact uv_x _ _ (by first | decide | exact mostv_I _) | decide)) rfl kV_X4_family rfl (by decide) lk_L_34 (by decide) rfl oLF (Nat.le_of_ble_eq_true rfl) dL_any_68 rfl (fun D1 r1 h1_ => ?_)
    refine v_ireturn hX hRX rfl (by first | rfl | exact bi_nar _) dL_any_71 rfl ?_
    exact ⟨rfl, h1_⟩
  · have et : tAny N np sv M mp a b = tFor N np a b a := by unfold tAny; rw [if_neg (by omega), if_neg (by omega), if_neg (by omega), if_pos h8]
    rw [et] at hRX
    rw [h8]
    refine v_tableIn (tgt := 72) hX (by decide) dL_any_4 (by decide) (by decide) rfl (by decide) ?_
    refine v_aload_n (q := 73) hX dL_any_72 rfl rfl rfl ?_
    refine v_iload_n (q := 74) hX dL_any_73 rfl rfl rfl ?_
    refine v_iload_n (q := 75) hX dL_any_74 rfl rfl rfl ?_
    refine v_iload_n (q := 76) hX dL_any_75 rfl rfl rfl ?_
    refine w_callVr (q := 79) hX (tt_for h hG _ _ _ (by first | assumption | exact x32 _ | exact uv_x _ _ (by first | decide | exact mostv_I _) | decide) (by first | assumption | exact x32 _ | exact uv_x _ _ (by first | decide | exact mostv_I _) | decide) (by first | assumption | exact x32 _ | exact uv_x _ _ (by first | decide | exact mostv_I _) | decide)) rfl kV_X4_forecast rfl (by decide) lk_L_37 (by decide) rfl oLF (Nat.le_of_ble_eq_true rfl) dL_any_76 rfl (fun D1 r1 h1_ => ?_)
    refine v_ireturn hX hRX rfl (by first | rfl | exact bi_nar _) dL_any_79 rfl ?_
    exact ⟨rfl, h1_⟩
  · have et : tAny N np sv M mp a b = tAct N np a b := by unfold tAny; rw [if_neg (by omega), if_neg (by omega), if_neg (by omega), if_neg (by omega), if_pos h8]
    rw [et] at hRX
    rw [h8]
    refine v_tableIn (tgt := 80) hX (by decide) dL_any_4 (by decide) (by decide) rfl (by decide) ?_
    refine v_aload_n (q := 81) hX dL_any_80 rfl rfl rfl ?_
    refine v_iload_n (q := 82) hX dL_any_81 rfl rfl rfl ?_
    refine v_iload_n (q := 83) hX dL_any_82 rfl rfl rfl ?_
    refine w_callVr (q := 86) hX (tt_act h hG _ _ (by first | assumption | exact x32 _ | exact uv_x _ _ (by first | decide | exact mostv_I _) | decide) (by first | assumption | exact x32 _ | exact uv_x _ _ (by first | decide | exact mostv_I _) | decide)) rfl kV_X4_actual rfl (by decide) lk_L_40 (by decide) rfl oLF (Nat.le_of_ble_eq_true rfl) dL_any_83 rfl (fun D1 r1 h1_ => ?_)
    refine v_ireturn hX hRX rfl (by first | rfl | exact bi_nar _) dL_any_86 rfl ?_
    exact ⟨rfl, h1_⟩
  · have et : tAny N np sv M mp a b = tLot N np a b a := by unfold tAny; rw [if_neg (by omega), if_neg (by omega), if_neg (by omega), if_neg (by omega), if_neg (by omega), if_pos h8]
    rw [et] at hRX
    rw [h8]
    refine v_tableIn (tgt := 87) hX (by decide) dL_any_4 (by decide) (by decide) rfl (by decide) ?_
    refine v_aload_n (q := 88) hX dL_any_87 rfl rfl rfl ?_
    refine v_iload_n (q := 89) hX dL_any_88 rfl rfl rfl ?_
    refine v_iload_n (q := 90) hX dL_any_89 rfl rfl rfl ?_
    refine v_iload_n (q := 91) hX dL_any_90 rfl rfl rfl ?_
    refine w_callVr (q := 94) hX (tt_lot h hG _ _ _ (by first | assumption | exact x32 _ | exact uv_x _ _ (by first | decide | exact mostv_I _) | decide) (by first | assumption | exact x32 _ | exact uv_x _ _ (by first | decide | exact mostv_I _) | decide) (by first | assumption | exact x32 _ | exact uv_x _ _ (by first | decide | exact mostv_I _) | decide)) rfl kV_X4_lots rfl (by decide) lk_L_43 (by decide) rfl oLF (Nat.le_of_ble_eq_true rfl) dL_any_91 rfl (fun D1 r1 h1_ => ?_)
    refine v_ireturn hX hRX rfl (by first | rfl | exact bi_nar _) dL_any_94 rfl ?_
    exact ⟨rfl, h1_⟩
  · have et : tAny N np sv M mp a b = tWee N np a := by unfold tAny; rw [if_neg (by omega), if_neg (by omega), if_neg (by omega), if_neg (by omega), if_neg (by omega), if_neg (by omega), if_pos h8]
    rw [et] at hRX
    rw [h8]
    refine v_tableIn (tgt := 95) hX (by decide) dL_any_4 (by decide) (by decide) rfl (by decide) ?_
    refine v_aload_n (q := 96) hX dL_any_95 rfl rfl rfl ?_
    refine v_iload_n (q := 97) hX dL_any_96 rfl rfl rfl ?_
    refine w_callVr (q := 100) hX (tt_wee h hG hB _ (by first | assumption | exact x32 _ | exact uv_x _ _ (by first | decide | exact mostv_I _) | decide)) rfl kV_X4_weeks rfl (by decide) lk_L_46 (by decide) rfl oLF (Nat.le_of_ble_eq_true rfl) dL_any_97 rfl (fun D1 r1 h1_ => ?_)
    refine v_ireturn hX hRX rfl (by first | rfl | exact bi_nar _) dL_any_100 rfl ?_
    exact ⟨rfl, h1_⟩
  · have et : tAny N np sv M mp a b = tRes N np sv M mp a := by unfold tAny; rw [if_neg (by omega), if_neg (by omega), if_neg (by omega), if_neg (by omega), if_neg (by omega), if_neg (by omega), if_neg (by omega)]
    rw [et] at hRX
    rw [h8]
    refine v_tableOut (tgt := 101) hX (by decide) dL_any_4 (Or.inr (by decide)) (by decide) ?_
    refine v_aload_n (q := 102) hX dL_any_101 rfl rfl rfl ?_
    refine v_iload_n (q := 103) hX dL_any_102 rfl rfl rfl ?_
    refine w_callVr (q := 106) hX (tt_res h hG hS _ (by first | assumption | exact x32 _ | exact uv_x _ _ (by first | decide | exact mostv_I _) | decide)) rfl kV_X4_restore rfl (by decide) lk_L_50 (by decide) rfl oLF (Nat.le_of_ble_eq_true rfl) dL_any_103 rfl (fun D1 r1 h1_ => ?_)
    refine v_ireturn hX hRX rfl (by first | rfl | exact bi_nar _) dL_any_106 rfl ?_
    exact ⟨rfl, h1_⟩

set_option maxRecDepth 100000 in
set_option maxHeartbeats 4000000 in
theorem c_L_turn {z : Nat} {D : xD} {r : xR} {N : Nat → Int} {np s : Nat} {K : Nat → Nat → Int} {q : Nat → Nat} {B : Int} {sv : Nat → Int} {M : Nat → Nat → Int} {mp : Nat → Nat} (h : Jc D r N np s K q) (hG : GS B N np) (hB : B + 60000 ≤ 2100000000) (hS : SL D B sv M mp) (w a b : Int) (iw : xI w) (ia : xI a) (ib : xI b) : MX 6 mL_turn [.ref 4, vi w, vi a, vi b] (351, z) D r (351, z) (xRs (vi (tTur N np sv M mp w a b).1) (TX D r s K q N np (tTur N np sv M mp w a b))) := by
  refine MX.of (by decide +kernel) [some (.ref 4), some (vi w), some (vi a), some (vi b), none] rfl (Nat.le_of_ble_eq_true rfl) ?_
  intro γ hX hRX
  refine v_iload_n (q := 1) hX dL_turn_0 rfl rfl rfl ?_
  refine v_iconst (q := 2) hX dL_turn_1 rfl ?_
  refine w_callS (q := 5) hX (c_L_up _ _ _ _ ia (by decide)) rfl kS_L_up rfl (by decide) lk_L_53 (Nat.le_of_ble_eq_true rfl) dL_turn_2 rfl ?_
  refine v_istore (q := 7) hX dL_turn_5 (Nat.le_of_ble_eq_true rfl) (Nat.le_of_ble_eq_true rfl) rfl ?_
  dsimp only [xs1, xs2, xclr]
  refine v_iload_n (q := 8) hX dL_turn_7 rfl rfl rfl ?_
  by_cases hw : 0 ≤ w ∧ w ≤ 13
  · have hw14 : w = 0 ∨ w = 1 ∨ w = 2 ∨ w = 3 ∨ w = 4 ∨ w = 5 ∨ w = 6 ∨ w = 7 ∨ w = 8 ∨ w = 9 ∨ w = 10 ∨ w = 11 ∨ w = 12 ∨ w = 13 := by omega
    have G0 : (w = 0 ∨ w = 1) → xV γ 80 [some (.ref 4), some (vi w), some (vi a), some (vi b), some (vi (uv a 5))] [] (351, z) D r := by
      intro hwk
      have et : tTur N np sv M mp w a b = tPro N np (uv a 4) (1 + uv (sh a 2) 40) (1 + uv b 12) (uv (sh b 4) 21) (uv (sh b 8) 300) := by unfold tTur; rw [if_pos (by omega)]
      rw [et] at hRX
      have q1 := uv_I (sh a 2) 40 (by decide)
      have q2 := uv_I b 12 (by decide)
      refine v_aload_n (q := 81) hX dL_turn_80 rfl rfl rfl ?_
      refine v_iload_n (q := 82) hX dL_turn_81 rfl rfl rfl ?_
      refine v_iconst (q := 83) hX dL_turn_82 rfl ?_
      refine w_callS (q := 86) hX (c_L_up _ _ _ _ (by first | assumption | exact x32 _ | exact sh_x _ _) (by first | decide | assumption | exact mostv_I _)) rfl kS_L_up rfl (by decide) lk_L_53 (Nat.le_of_ble_eq_true rfl) dL_turn_83 rfl ?_
      refine v_iconst (q := 87) hX dL_turn_86 rfl ?_
      refine v_iload_n (q := 88) hX dL_turn_87 rfl rfl rfl ?_
      refine v_iconst (q := 89) hX dL_turn_88 rfl ?_
      refine v_ishr (q := 90) hX (sh a 2) ((Int32.ofInt_toInt _).symm) dL_turn_89 rfl ?_
      refine v_bipush (q := 92) hX (by decide) dL_turn_90 rfl ?_
      refine w_callS (q := 95) hX (c_L_up _ _ _ _ (by first | assumption | exact x32 _ | exact sh_x _ _) (by first | decide | assumption | exact mostv_I _)) rfl kS_L_up rfl (by decide) lk_L_53 (Nat.le_of_ble_eq_true rfl) dL_turn_92 rfl ?_
      refine v_iadd (q := 96) hX dL_turn_95 rfl ?_
      refine v_iconst (q := 97) hX dL_turn_96 rfl ?_
      refine v_iload_n (q := 98) hX dL_turn_97 rfl rfl rfl ?_
      refine v_bipush (q := 100) hX (by decide) dL_turn_98 rfl ?_
      refine w_callS (q := 103) hX (c_L_up _ _ _ _ (by first | assumption | exact x32 _ | exact sh_x _ _) (by first | decide | assumption | exact mostv_I _)) rfl kS_L_up rfl (by decide) lk_L_53 (Nat.le_of_ble_eq_true rfl) dL_turn_100 rfl ?_
      refine v_iadd (q := 104) hX dL_turn_103 rfl ?_
      refine v_iload_n (q := 105) hX dL_turn_104 rfl rfl rfl ?_
      refine v_iconst (q := 106) hX dL_turn_105 rfl ?_
      refine v_ishr (q := 107) hX (sh b 4) ((Int32.ofInt_toInt _).symm) dL_turn_106 rfl ?_
      refine v_bipush (q := 109) hX (by decide) dL_turn_107 rfl ?_
      refine w_callS (q := 112) hX (c_L_up _ _ _ _ (by first | assumption | exact x32 _ | exact sh_x _ _) (by first | decide | assumption | exact mostv_I _)) rfl kS_L_up rfl (by decide) lk_L_53 (Nat.le_of_ble_eq_true rfl) dL_turn_109 rfl ?_
      refine v_iload_n (q := 113) hX dL_turn_112 rfl rfl rfl ?_
      refine v_bipush (q := 115) hX (by decide) dL_turn_113 rfl ?_
      refine v_ishr (q := 116) hX (sh b 8) ((Int32.ofInt_toInt _).symm) dL_turn_115 rfl ?_
      refine v_sipush (q := 119) hX (by decide) dL_turn_116 rfl ?_
      refine w_callS (q := 122) hX (c_L_up _ _ _ _ (by first | assumption | exact x32 _ | exact sh_x _ _) (by first | decide | assumption | exact mostv_I _)) rfl kS_L_up rfl (by decide) lk_L_53 (Nat.le_of_ble_eq_true rfl) dL_turn_119 rfl ?_
      refine w_callVr (q := 125) hX (tt_pro h hG _ _ _ _ _ (uv_x _ _ (by decide)) ⟨by omega, by omega⟩ ⟨by omega, by omega⟩ (uv_x _ _ (by decide)) (uv_x _ _ (by decide))) rfl kV_X4_product rfl (by decide) lk_L_30 (by decide) rfl oLF (Nat.le_of_ble_eq_true rfl) dL_turn_122 rfl (fun D1 r1 h1_ => ?_)
      refine v_ireturn hX hRX rfl (by first | rfl | exact bi_nar _) dL_turn_125 rfl ?_
      exact ⟨rfl, h1_⟩
    have G1 : (w = 2) → xV γ 126 [some (.ref 4), some (vi w), some (vi a), some (vi b), some (vi (uv a 5))] [] (351, z) D r := by
      intro hwk
      have et : tTur N np sv M mp w a b = tSets N np a b := by unfold tTur; rw [if_neg (by omega), if_pos (by omega)]
      rw [et] at hRX
      refine v_aload_n (q := 127) hX dL_turn_126 rfl rfl rfl ?_
      refine v_iload_n (q := 128) hX dL_turn_127 rfl rfl rfl ?_
      refine v_iload_n (q := 129) hX dL_turn_128 rfl rfl rfl ?_
      refine w_callSr (q := 132) hX (c_L_sets h hG _ _ (by first | assumption | exact x32 _ | exact uv_x _ _ (by first | decide | exact mostv_I _) | decide) (by first | assumption | exact x32 _ | exact uv_x _ _ (by first | decide | exact mostv_I _) | decide)) rfl kS_L_sets rfl (by decide) lk_L_58 (Nat.le_of_ble_eq_true rfl) dL_turn_129 rfl (fun D1 r1 h1_ => ?_)
      refine v_ireturn hX hRX rfl (by first | rfl | exact bi_nar _) dL_turn_132 rfl ?_
      exact ⟨rfl, h1_⟩
    have G2 : (w = 3) → xV γ 133 [some (.ref 4), some (vi w), some (vi a), some (vi b), some (vi (uv a 5))] [] (351, z) D r := by
      intro hwk
      have et : tTur N np sv M mp w a b = tFam N np (uv a 4) (uv b 51) := by unfold tTur; rw [if_neg (by omega), if_neg (by omega), if_pos (by omega)]
      rw [et] at hRX
      refine v_aload_n (q := 134) hX dL_turn_133 rfl rfl rfl ?_
      refine v_iload_n (q := 135) hX dL_turn_134 rfl rfl rfl ?_
      refine v_iconst (q := 136) hX dL_turn_135 rfl ?_
      refine w_callS (q := 139) hX (c_L_up _ _ _ _ (by first | assumption | exact x32 _ | exact sh_x _ _) (by first | decide | assumption | exact mostv_I _)) rfl kS_L_up rfl (by decide) lk_L_53 (Nat.le_of_ble_eq_true rfl) dL_turn_136 rfl ?_
      refine v_iload_n (q := 140) hX dL_turn_139 rfl rfl rfl ?_
      refine v_bipush (q := 142) hX (by decide) dL_turn_140 rfl ?_
      refine w_callS (q := 145) hX (c_L_up _ _ _ _ (by first | assumption | exact x32 _ | exact sh_x _ _) (by first | decide | assumption | exact mostv_I _)) rfl kS_L_up rfl (by decide) lk_L_53 (Nat.le_of_ble_eq_true rfl) dL_turn_142 rfl ?_
      refine w_callVr (q := 148) hX (tt_fam h hG _ _ (by first | assumption | exact x32 _ | exact uv_x _ _ (by first | decide | exact mostv_I _) | decide) (by first | assumption | exact x32 _ | exact uv_x _ _ (by first | decide | exact mostv_I _) | decide)) rfl kV_X4_family rfl (by decide) lk_L_34 (by decide) rfl oLF (Nat.le_of_ble_eq_true rfl) dL_turn_145 rfl (fun D1 r1 h1_ => ?_)
      refine v_ireturn hX hRX rfl (by first | rfl | exact bi_nar _) dL_turn_148 rfl ?_
      exact ⟨rfl, h1_⟩
    have G3 : (w = 4 ∨ w = 5 ∨ w = 6) → xV γ 149 [some (.ref 4), some (vi w), some (vi a), some (vi b), some (vi (uv a 5))] [] (351, z) D r := by
      intro hwk
      have et : tTur N np sv M mp w a b = tFor N np (uv a 5) (uv (sh a 4) 12) (uv b 200) := by unfold tTur; rw [if_neg (by omega), if_neg (by omega), if_neg (by omega), if_pos (by omega)]
      rw [et] at hRX
      refine v_aload_n (q := 150) hX dL_turn_149 rfl rfl rfl ?_
      refine v_iload (q := 152) hX dL_turn_150 rfl rfl ?_
      refine v_iload_n (q := 153) hX dL_turn_152 rfl rfl rfl ?_
      refine v_iconst (q := 154) hX dL_turn_153 rfl ?_
      refine v_ishr (q := 155) hX (sh a 4) ((Int32.ofInt_toInt _).symm) dL_turn_154 rfl ?_
      refine v_bipush (q := 157) hX (by decide) dL_turn_155 rfl ?_
      refine w_callS (q := 160) hX (c_L_up _ _ _ _ (by first | assumption | exact x32 _ | exact sh_x _ _) (by first | decide | assumption | exact mostv_I _)) rfl kS_L_up rfl (by decide) lk_L_53 (Nat.le_of_ble_eq_true rfl) dL_turn_157 rfl ?_
      refine v_iload_n (q := 161) hX dL_turn_160 rfl rfl rfl ?_
      refine v_sipush (q := 164) hX (by decide) dL_turn_161 rfl ?_
      refine w_callS (q := 167) hX (c_L_up _ _ _ _ (by first | assumption | exact x32 _ | exact sh_x _ _) (by first | decide | assumption | exact mostv_I _)) rfl kS_L_up rfl (by decide) lk_L_53 (Nat.le_of_ble_eq_true rfl) dL_turn_164 rfl ?_
      refine w_callVr (q := 170) hX (tt_for h hG _ _ _ (by first | assumption | exact x32 _ | exact uv_x _ _ (by first | decide | exact mostv_I _) | decide) (by first | assumption | exact x32 _ | exact uv_x _ _ (by first | decide | exact mostv_I _) | decide) (by first | assumption | exact x32 _ | exact uv_x _ _ (by first | decide | exact mostv_I _) | decide)) rfl kV_X4_forecast rfl (by decide) lk_L_37 (by decide) rfl oLF (Nat.le_of_ble_eq_true rfl) dL_turn_167 rfl (fun D1 r1 h1_ => ?_)
      refine v_ireturn hX hRX rfl (by first | rfl | exact bi_nar _) dL_turn_170 rfl ?_
      exact ⟨rfl, h1_⟩
    have G4 : (w = 7) → xV γ 171 [some (.ref 4), some (vi w), some (vi a), some (vi b), some (vi (uv a 5))] [] (351, z) D r := by
      intro hwk
      have et : tTur N np sv M mp w a b = tAct N np (uv a 5) (if an64 a = 0 then uv b 400 else -6) := by unfold tTur; rw [if_neg (by omega), if_neg (by omega), if_neg (by omega), if_neg (by omega), if_pos (by omega)]
      rw [et] at hRX
      have K193 : ∀ u : Int, u = (if an64 a = 0 then uv b 400 else -6) → xV γ 193 [some (.ref 4), some (vi w), some (vi a), some (vi b), some (vi (uv a 5))] [vi u, vi (uv a 5), .ref 4] (351, z) D r := by
        intro u hu
        have iu : xI u := by rw [hu]; split; exact uv_x _ _ (by decide); decide
        rw [← hu] at hRX
        refine w_callVr (q := 196) hX (tt_act h hG _ _ (by first | assumption | exact x32 _ | exact uv_x _ _ (by first | decide | exact mostv_I _) | decide) (by first | assumption | exact x32 _ | exact uv_x _ _ (by first | decide | exact mostv_I _) | decide)) rfl kV_X4_actual rfl (by decide) lk_L_40 (by decide) rfl oLF (Nat.le_of_ble_eq_true rfl) dL_turn_193 rfl (fun D1 r1 h1_ => ?_)
        refine v_ireturn hX hRX rfl (by first | rfl | exact bi_nar _) dL_turn_196 rfl ?_
        exact ⟨rfl, h1_⟩
      have i64 := an64_x a
      refine v_aload_n (q := 172) hX dL_turn_171 rfl rfl rfl ?_
      refine v_iload (q := 174) hX dL_turn_172 rfl rfl ?_
      refine v_iload_n (q := 175) hX dL_turn_174 rfl rfl rfl ?_
      refine v_bipush (q := 177) hX (by decide) dL_turn_175 rfl ?_
      refine v_iand (q := 178) hX (an64 a) ((Int32.ofInt_toInt _).symm) dL_turn_177 rfl ?_
      refine v_if_ne (q := 181) (tgt := 191) hX i64 dL_turn_178 (by decide) rfl (fun hx_178 => ?_) (fun hx_178 => ?_)
      · refine v_bipush (q := 193) hX (by decide) dL_turn_191 rfl ?_
        exact K193 _ (by first | exact (if_pos hx_178).symm | exact (if_neg hx_178).symm)
      · refine v_iload_n (q := 182) hX dL_turn_181 rfl rfl rfl ?_
        refine v_sipush (q := 185) hX (by decide) dL_turn_182 rfl ?_
        refine w_callS (q := 188) hX (c_L_up _ _ _ _ ib (by decide)) rfl kS_L_up rfl (by decide) lk_L_53 (Nat.le_of_ble_eq_true rfl) dL_turn_185 rfl ?_
        refine v_goto (tgt := 193) hX dL_turn_188 (by decide) ?_
        exact K193 _ (by first | exact (if_pos hx_178).symm | exact (if_neg hx_178).symm)
    have G5 : (w = 8 ∨ w = 9) → xV γ 197 [some (.ref 4), some (vi w), some (vi a), some (vi b), some (vi (uv a 5))] [] (351, z) D r := by
      intro hwk
      have et : tTur N np sv M mp w a b = tLot N np (uv a 5) (uv (sh a 4) 12) (uv b (if an64 a = 0 then 5 else 60)) := by unfold tTur; rw [if_neg (by omega), if_neg (by omega), if_neg (by omega), if_neg (by omega), if_neg (by omega), if_pos (by omega)]
      rw [et] at hRX
      have K222 : ∀ m : Int, m = (if an64 a = 0 then 5 else 60) → xV γ 222 [some (.ref 4), some (vi w), some (vi a), some (vi b), some (vi (uv a 5))] [vi m, vi b, vi (uv (sh a 4) 12), vi (uv a 5), .ref 4] (351, z) D r := by
        intro m hm
        have hmI : 1 ≤ m ∧ m ≤ 1000 := by rw [hm]; split <;> decide
        rw [← hm] at hRX
        refine w_callS (q := 225) hX (c_L_up _ _ _ _ ib hmI) rfl kS_L_up rfl (by decide) lk_L_53 (Nat.le_of_ble_eq_true rfl) dL_turn_222 rfl ?_
        refine w_callVr (q := 228) hX (tt_lot h hG _ _ _ (uv_x _ _ (by decide)) (uv_x _ _ (by decide)) (uv_x _ _ hmI)) rfl kV_X4_lots rfl (by decide) lk_L_43 (by decide) rfl oLF (Nat.le_of_ble_eq_true rfl) dL_turn_225 rfl (fun D1 r1 h1_ => ?_)
        refine v_ireturn hX hRX rfl (by first | rfl | exact bi_nar _) dL_turn_228 rfl ?_
        exact ⟨rfl, h1_⟩
      have i64 := an64_x a
      refine v_aload_n (q := 198) hX dL_turn_197 rfl rfl rfl ?_
      refine v_iload (q := 200) hX dL_turn_198 rfl rfl ?_
      refine v_iload_n (q := 201) hX dL_turn_200 rfl rfl rfl ?_
      refine v_iconst (q := 202) hX dL_turn_201 rfl ?_
      refine v_ishr (q := 203) hX (sh a 4) ((Int32.ofInt_toInt _).symm) dL_turn_202 rfl ?_
      refine v_bipush (q := 205) hX (by decide) dL_turn_203 rfl ?_
      refine w_callS (q := 208) hX (c_L_up _ _ _ _ (by first | assumption | exact x32 _ | exact sh_x _ _) (by first | decide | assumption | exact mostv_I _)) rfl kS_L_up rfl (by decide) lk_L_53 (Nat.le_of_ble_eq_true rfl) dL_turn_205 rfl ?_
      refine v_iload_n (q := 209) hX dL_turn_208 rfl rfl rfl ?_
      refine v_iload_n (q := 210) hX dL_turn_209 rfl rfl rfl ?_
      refine v_bipush (q := 212) hX (by decide) dL_turn_210 rfl ?_
      refine v_iand (q := 213) hX (an64 a) ((Int32.ofInt_toInt _).symm) dL_turn_212 rfl ?_
      refine v_if_ne (q := 216) (tgt := 220) hX i64 dL_turn_213 (by decide) rfl (fun hx_213 => ?_) (fun hx_213 => ?_)
      · refine v_bipush (q := 222) hX (by decide) dL_turn_220 rfl ?_
        exact K222 _ (by first | exact (if_pos hx_213).symm | exact (if_neg hx_213).symm)
      · refine v_iconst (q := 217) hX dL_turn_216 rfl ?_
        refine v_goto (tgt := 222) hX dL_turn_217 (by decide) ?_
        exact K222 _ (by first | exact (if_pos hx_213).symm | exact (if_neg hx_213).symm)
    have G6 : (w = 10 ∨ w = 11) → xV γ 229 [some (.ref 4), some (vi w), some (vi a), some (vi b), some (vi (uv a 5))] [] (351, z) D r := by
      intro hwk
      have et : tTur N np sv M mp w a b = tPla N np := by unfold tTur; rw [if_neg (by omega), if_neg (by omega), if_neg (by omega), if_neg (by omega), if_neg (by omega), if_neg (by omega), if_pos (by omega)]
      rw [et] at hRX
      refine v_aload_n (q := 230) hX dL_turn_229 rfl rfl rfl ?_
      refine w_callVr (q := 233) hX (tt_pla h hG) rfl kV_X4_plan rfl (by decide) lk_L_62 (by decide) rfl oLF (Nat.le_of_ble_eq_true rfl) dL_turn_230 rfl (fun D1 r1 h1_ => ?_)
      refine v_ireturn hX hRX rfl (by first | rfl | exact bi_nar _) dL_turn_233 rfl ?_
      exact ⟨rfl, h1_⟩
    have G7 : (w = 12 ∨ w = 13) → xV γ 234 [some (.ref 4), some (vi w), some (vi a), some (vi b), some (vi (uv a 5))] [] (351, z) D r := by
      intro hwk
      have et : tTur N np sv M mp w a b = tWee N np (1 + uv b (if a % 8 = 0 then 12 else 2)) := by unfold tTur; rw [if_neg (by omega), if_neg (by omega), if_neg (by omega), if_neg (by omega), if_neg (by omega), if_neg (by omega), if_neg (by omega), if_pos (by omega)]
      rw [et] at hRX
      have K250 : ∀ m : Int, m = (if a % 8 = 0 then 12 else 2) → xV γ 250 [some (.ref 4), some (vi w), some (vi a), some (vi b), some (vi (uv a 5))] [vi m, vi b, vi 1, .ref 4] (351, z) D r := by
        intro m hm
        have hmI : 1 ≤ m ∧ m ≤ 1000 := by rw [hm]; split <;> decide
        have q1 := uv_I b m hmI
        rw [← hm] at hRX
        refine w_callS (q := 253) hX (c_L_up _ _ _ _ ib hmI) rfl kS_L_up rfl (by decide) lk_L_53 (Nat.le_of_ble_eq_true rfl) dL_turn_250 rfl ?_
        refine v_iadd (q := 254) hX dL_turn_253 rfl ?_
        refine w_callVr (q := 257) hX (tt_wee h hG hB _ ⟨by omega, by omega⟩) rfl kV_X4_weeks rfl (by decide) lk_L_46 (by decide) rfl oLF (Nat.le_of_ble_eq_true rfl) dL_turn_254 rfl (fun D1 r1 h1_ => ?_)
        refine v_ireturn hX hRX rfl (by first | rfl | exact bi_nar _) dL_turn_257 rfl ?_
        exact ⟨rfl, h1_⟩
      refine v_aload_n (q := 235) hX dL_turn_234 rfl rfl rfl ?_
      refine v_iconst (q := 236) hX dL_turn_235 rfl ?_
      refine v_iload_n (q := 237) hX dL_turn_236 rfl rfl rfl ?_
      refine v_iload_n (q := 238) hX dL_turn_237 rfl rfl rfl ?_
      refine v_bipush (q := 240) hX (by decide) dL_turn_238 rfl ?_
      refine v_iand (q := 241) hX (a % 8) (sand7 a) dL_turn_240 rfl ?_
      refine v_if_ne (q := 244) (tgt := 249) hX ⟨by omega, by omega⟩ dL_turn_241 (by decide) rfl (fun hx_241 => ?_) (fun hx_241 => ?_)
      · refine v_iconst (q := 250) hX dL_turn_249 rfl ?_
        exact K250 _ (by first | exact (if_pos hx_241).symm | exact (if_neg hx_241).symm)
      · refine v_bipush (q := 246) hX (by decide) dL_turn_244 rfl ?_
        refine v_goto (tgt := 250) hX dL_turn_246 (by decide) ?_
        exact K250 _ (by first | exact (if_pos hx_241).symm | exact (if_neg hx_241).symm)
    rcases hw14 with hk | hk | hk | hk | hk | hk | hk | hk | hk | hk | hk | hk | hk | hk
    · have g := G0 (by omega)
      rw [hk] at g ⊢
      exact v_tableIn (tgt := 80) hX (by decide) dL_turn_8 (by decide) (by decide) rfl (by decide) g
    · have g := G0 (by omega)
      rw [hk] at g ⊢
      exact v_tableIn (tgt := 80) hX (by decide) dL_turn_8 (by decide) (by decide) rfl (by decide) g
    · have g := G1 (by omega)
      rw [hk] at g ⊢
      exact v_tableIn (tgt := 126) hX (by decide) dL_turn_8 (by decide) (by decide) rfl (by decide) g
    · have g := G2 (by omega)
      rw [hk] at g ⊢
      exact v_tableIn (tgt := 133) hX (by decide) dL_turn_8 (by decide) (by decide) rfl (by decide) g
    · have g := G3 (by omega)
      rw [hk] at g ⊢
      exact v_tableIn (tgt := 149) hX (by decide) dL_turn_8 (by decide) (by decide) rfl (by decide) g
    · have g := G3 (by omega)
      rw [hk] at g ⊢
      exact v_tableIn (tgt := 149) hX (by decide) dL_turn_8 (by decide) (by decide) rfl (by decide) g
    · have g := G3 (by omega)
      rw [hk] at g ⊢
      exact v_tableIn (tgt := 149) hX (by decide) dL_turn_8 (by decide) (by decide) rfl (by decide) g
    · have g := G4 (by omega)
      rw [hk] at g ⊢
      exact v_tableIn (tgt := 171) hX (by decide) dL_turn_8 (by decide) (by decide) rfl (by decide) g
    · have g := G5 (by omega)
      rw [hk] at g ⊢
      exact v_tableIn (tgt := 197) hX (by decide) dL_turn_8 (by decide) (by decide) rfl (by decide) g
    · have g := G5 (by omega)
      rw [hk] at g ⊢
      exact v_tableIn (tgt := 197) hX (by decide) dL_turn_8 (by decide) (by decide) rfl (by decide) g
    · have g := G6 (by omega)
      rw [hk] at g ⊢
      exact v_tableIn (tgt := 229) hX (by decide) dL_turn_8 (by decide) (by decide) rfl (by decide) g
    · have g := G6 (by omega)
      rw [hk] at g ⊢
      exact v_tableIn (tgt := 229) hX (by decide) dL_turn_8 (by decide) (by decide) rfl (by decide) g
    · have g := G7 (by omega)
      rw [hk] at g ⊢
      exact v_tableIn (tgt := 234) hX (by decide) dL_turn_8 (by decide) (by decide) rfl (by decide) g
    · have g := G7 (by omega)
      rw [hk] at g ⊢
      exact v_tableIn (tgt := 234) hX (by decide) dL_turn_8 (by decide) (by decide) rfl (by decide) g
  · refine v_tableOut (tgt := 258) hX iw dL_turn_8 (by omega) (by decide) ?_
    have et : tTur N np sv M mp w a b = tAny N np sv M mp a b := by unfold tTur; rw [if_neg (by omega), if_neg (by omega), if_neg (by omega), if_neg (by omega), if_neg (by omega), if_neg (by omega), if_neg (by omega), if_neg (by omega)]
    rw [et] at hRX
    refine v_aload_n (q := 259) hX dL_turn_258 rfl rfl rfl ?_
    refine v_iload_n (q := 260) hX dL_turn_259 rfl rfl rfl ?_
    refine v_iload_n (q := 261) hX dL_turn_260 rfl rfl rfl ?_
    refine w_callSr (q := 264) hX (c_L_any h hG hB hS _ _ (by first | assumption | exact x32 _ | exact uv_x _ _ (by first | decide | exact mostv_I _) | decide) (by first | assumption | exact x32 _ | exact uv_x _ _ (by first | decide | exact mostv_I _) | decide)) rfl kS_L_any rfl (by decide) lk_L_66 (Nat.le_of_ble_eq_true rfl) dL_turn_261 rfl (fun D1 r1 h1_ => ?_)
    refine v_ireturn hX hRX rfl (by first | rfl | exact bi_nar _) dL_turn_264 rfl ?_
    exact ⟨rfl, h1_⟩

theorem g_tur {N : Nat → Int} {np : Nat} {B : Int} {sv : Nat → Int} {M : Nat → Nat → Int} {mp : Nat → Nat} {D : xD} (hG : GS B N np) (hB : B + 200000 ≤ 2100000000) (hS : SL D B sv M mp) (w a b : Int) : TG B (tTur N np sv M mp w a b) := by
  unfold tTur
  split
  · exact g_pro hG hB _ _ _ _ _
  split
  · exact g_set hG hB _ _
  split
  · exact g_fam hG hB _ _
  split
  · exact g_for hG hB _ _ _
  split
  · exact g_act hG hB _ _
  split
  · exact g_lot hG hB _ _ _
  split
  · exact g_pla hG hB
  split
  · exact g_wee hG hB _
  unfold tAny
  split
  · exact g_set hG hB _ _
  split
  · exact g_pro hG hB _ _ _ _ _
  split
  · exact g_fam hG hB _ _
  split
  · exact g_for hG hB _ _ _
  split
  · exact g_act hG hB _ _
  split
  · exact g_lot hG hB _ _ _
  split
  · exact g_wee hG hB _
  exact g_res hG hB hS _

