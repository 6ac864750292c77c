/-! ===== the reference: what is asked ===== -/
theorem nLots_le {B : Int} {np : Nat} {N : Nat → Int} (h : nOk B np N) : ∀ p, p ≤ np → 0 ≤ nLots N p ∧ nLots N p ≤ 12000 * p := by
  intro p
  induction p with
  | zero => intro _; unfold nLots; omega
  | succ p ih =>
    intro hp
    have a := ih (by omega)
    have b : ∀ k, k ≤ 12 → 0 ≤ nLotsP N p k ∧ nLotsP N p k ≤ 1000 * k := by
      intro k
      induction k with
      | zero => intro _; unfold nLotsP; omega
      | succ k ihk =>
        intro hk
        have := ihk (by omega)
        have := h.lots (p := p) (k := k) (by omega) (by omega)
        unfold nLotsP; omega
    have := b 12 (by omega)
    unfold nLots; omega
theorem nSum_le {B : Int} {np : Nat} {N : Nat → Int} (h : nOk B np N) {i : Nat} (hi : i = 4 ∨ i = 5) : ∀ p : Nat, p ≤ np → 0 ≤ nSum N i p ∧ nSum N i p ≤ B * p := by
  intro p
  induction p with
  | zero => intro _; unfold nSum; omega
  | succ p ih =>
    intro hp
    have a := ih (by omega)
    obtain ⟨-, -, -, -, a4, a5, -⟩ := h.2.2.2.2.2 p (by omega)
    have : 0 ≤ pF N p i ∧ pF N p i ≤ B := by rcases hi with rfl | rfl <;> assumption
    have e : B * ((p + 1 : Nat) : Int) = B * (p : Int) + B := by rw [Int.natCast_add, Int.mul_add]; simp
    unfold nSum; omega
set_option maxRecDepth 100000 in
set_option maxHeartbeats 4000000 in
theorem c_X5_ofProduct_no {z : Nat} (D : xD) (r : xR) (hr : xRM r) {np : Nat} (hn : D 352 1 = (np : Int) ∧ np ≤ 10) (p w : Int) (hp : xI p) (hw : xI w) (he : ¬ (0 ≤ p ∧ p < (np : Int))) : MX 2 mX5_ofProduct [.ref 351, vi p, vi w] (356, z) D r (356, z) (xP (vi (-1)) D r) := by
  refine MX.of (by decide +kernel) [some (.ref 351), some (vi p), some (vi w)] rfl (Nat.le_of_ble_eq_true rfl) ?_
  intro γ hX hRX
  refine v_aload_n (q := 1) hX dX5_ofProduct_0 rfl rfl rfl ?_
  refine v_iload_n (q := 2) hX dX5_ofProduct_1 rfl rfl rfl ?_
  refine w_callV (q := 5) hX (c_X5_isProduct _ _ hr _ ⟨by omega, by omega⟩ (by omega)) rfl kV_X5_isProduct rfl (by decide) lk_X5_127 (by decide) rfl oX5 (Nat.le_of_ble_eq_true rfl) dX5_ofProduct_2 rfl ?_
  refine w_ifne (q := 8) (tgt := 10) hX dX5_ofProduct_5 (by decide) rfl (fun h5 => ?_) (fun h5 => ?_)
  · exact absurd h5 (by omega)
  · refine v_iconst (q := 9) hX dX5_ofProduct_8 rfl ?_
    refine v_ireturn hX hRX rfl (by first | rfl | exact bi_nar _) dX5_ofProduct_9 rfl ?_
    exact ⟨rfl, rfl, rfl⟩

set_option maxRecDepth 100000 in
set_option maxHeartbeats 4000000 in
theorem c_X5_ofProduct_bad {z : Nat} (D : xD) (r : xR) (hr : xRM r) {np : Nat} (hn : D 352 1 = (np : Int) ∧ np ≤ 10) (p w : Int) (hp : xI p) (hw : xI w) (he : 0 ≤ p ∧ p < (np : Int)) (he2 : w < 0 ∨ 12 < w) : MX 2 mX5_ofProduct [.ref 351, vi p, vi w] (356, z) D r (356, z) (xP (vi (-2)) D r) := by
  refine MX.of (by decide +kernel) [some (.ref 351), some (vi p), some (vi w)] rfl (Nat.le_of_ble_eq_true rfl) ?_
  intro γ hX hRX
  refine v_aload_n (q := 1) hX dX5_ofProduct_0 rfl rfl rfl ?_
  refine v_iload_n (q := 2) hX dX5_ofProduct_1 rfl rfl rfl ?_
  refine w_callV (q := 5) hX (c_X5_isProduct _ _ hr _ ⟨by omega, by omega⟩ (by omega)) rfl kV_X5_isProduct rfl (by decide) lk_X5_127 (by decide) rfl oX5 (Nat.le_of_ble_eq_true rfl) dX5_ofProduct_2 rfl ?_
  refine w_ifne (q := 8) (tgt := 10) hX dX5_ofProduct_5 (by decide) rfl (fun h5 => ?_) (fun h5 => ?_)
  · refine v_iload_n (q := 11) hX dX5_ofProduct_10 rfl rfl rfl ?_
    refine v_i2l (q := 12) hX hw dX5_ofProduct_11 rfl ?_
    refine v_lconst (q := 13) (e := 0) hX (by decide) dX5_ofProduct_12 rfl ?_
    refine v_ldc2 (q := 16) (e := 12) hX (by decide) kl_X5_180 dX5_ofProduct_13 rfl ?_
    refine w_callS (q := 19) hX (c_X5_isIn _ _ _ _ _ ⟨by omega, by omega⟩ ⟨by omega, by omega⟩ ⟨by omega, by omega⟩) rfl kS_X5_isIn rfl (by decide) lk_X5_35 (Nat.le_of_ble_eq_true rfl) dX5_ofProduct_16 rfl ?_
    refine w_ifne (q := 22) (tgt := 25) hX dX5_ofProduct_19 (by decide) rfl (fun h19 => ?_) (fun h19 => ?_)
    · exact absurd h19 (by omega)
    · refine v_bipush (q := 24) hX (by decide) dX5_ofProduct_22 rfl ?_
      refine v_ireturn hX hRX rfl (by first | rfl | exact bi_nar _) dX5_ofProduct_24 rfl ?_
      exact ⟨rfl, rfl, rfl⟩
  · exact absurd h5 (by omega)

def nOf (N : Nat → Int) (p w : Nat) : Int := if w < 7 then pF N p w else if w = 7 then nCov N p else pF N p (w - 1)
set_option maxRecDepth 100000 in
set_option maxHeartbeats 4000000 in
theorem c_X5_ofProduct {z : Nat} (D : xD) (r : xR) (hr : xRM r) {B : Int} {np : Nat} (hO : nOk B np (D 352)) (p w : Nat) (hp : p < np) (hw : w < 13) : MX 2 mX5_ofProduct [.ref 351, vi p, vi w] (356, z) D r (356, z) (xP (vi (nOf (D 352) p w)) D r) := by
  refine MX.of (by decide +kernel) [some (.ref 351), some (vi p), some (vi w)] rfl (Nat.le_of_ble_eq_true rfl) ?_
  intro γ hX hRX
  have hn := hO.np
  refine v_aload_n (q := 1) hX dX5_ofProduct_0 rfl rfl rfl ?_
  refine v_iload_n (q := 2) hX dX5_ofProduct_1 rfl rfl rfl ?_
  refine w_callV (q := 5) hX (c_X5_isProduct _ _ hr _ ⟨by omega, by omega⟩ (by omega)) rfl kV_X5_isProduct rfl (by decide) lk_X5_127 (by decide) rfl oX5 (Nat.le_of_ble_eq_true rfl) dX5_ofProduct_2 rfl ?_
  refine w_ifne (q := 8) (tgt := 10) hX dX5_ofProduct_5 (by decide) rfl (fun h5 => ?_) (fun h5 => ?_)
  · refine v_iload_n (q := 11) hX dX5_ofProduct_10 rfl rfl rfl ?_
    refine v_i2l (q := 12) hX ⟨by omega, by omega⟩ dX5_ofProduct_11 rfl ?_
    refine v_lconst (q := 13) (e := 0) hX (by decide) dX5_ofProduct_12 rfl ?_
    refine v_ldc2 (q := 16) (e := 12) hX (by decide) kl_X5_180 dX5_ofProduct_13 rfl ?_
    refine w_callS (q := 19) hX (c_X5_isIn _ _ _ _ _ ⟨by omega, by omega⟩ ⟨by omega, by omega⟩ ⟨by omega, by omega⟩) rfl kS_X5_isIn rfl (by decide) lk_X5_35 (Nat.le_of_ble_eq_true rfl) dX5_ofProduct_16 rfl ?_
    refine w_ifne (q := 22) (tgt := 25) hX dX5_ofProduct_19 (by decide) rfl (fun h19 => ?_) (fun h19 => ?_)
    · refine v_iload_n (q := 26) hX dX5_ofProduct_25 rfl rfl rfl ?_
      refine v_bipush (q := 28) hX (by decide) dX5_ofProduct_26 rfl ?_
      refine v_icmp_ge (q := 31) (tgt := 39) hX ⟨by omega, by omega⟩ (by decide) dX5_ofProduct_28 (by decide) rfl (fun h28 => ?_) (fun h28 => ?_)
      · refine v_iload_n (q := 40) hX dX5_ofProduct_39 rfl rfl rfl ?_
        refine v_bipush (q := 42) hX (by decide) dX5_ofProduct_40 rfl ?_
        refine v_icmp_ne (q := 45) (tgt := 53) hX ⟨by omega, by omega⟩ (by decide) dX5_ofProduct_42 (by decide) rfl (fun h42 => ?_) (fun h42 => ?_)
        · refine v_aload_n (q := 54) hX dX5_ofProduct_53 rfl rfl rfl ?_
          refine v_iload_n (q := 55) hX dX5_ofProduct_54 rfl rfl rfl ?_
          refine v_iload_n (q := 56) hX dX5_ofProduct_55 rfl rfl rfl ?_
          refine v_iconst (q := 57) hX dX5_ofProduct_56 rfl ?_
          refine v_isub (q := 58) hX dX5_ofProduct_57 rfl ?_
          rw [show (w : Int) - 1 = ((w - 1 : Nat) : Int) by omega]
          refine w_callV (q := 61) hX (c_X5_ofP _ _ hr p (w - 1) (by omega)) rfl kV_X5_ofP rfl (by decide) lk_X5_78 (by decide) rfl oX5 (Nat.le_of_ble_eq_true rfl) dX5_ofProduct_58 rfl ?_
          refine v_l2i (q := 62) hX dX5_ofProduct_61 rfl ?_
          refine v_ireturn hX hRX rfl (by first | rfl | exact bi_nar _) dX5_ofProduct_62 rfl ?_
          refine ⟨congrArg (fun e => some (vi e)) ?_, rfl, rfl⟩
          unfold nOf
          repeat (first | rw [if_pos (by omega)] | rw [if_neg (by omega)])
        · refine v_aload_n (q := 46) hX dX5_ofProduct_45 rfl rfl rfl ?_
          refine v_iload_n (q := 47) hX dX5_ofProduct_46 rfl rfl rfl ?_
          refine w_callV (q := 50) hX (c_X5_cover _ _ hr hO (p) (by omega)) rfl kV_X5_cover rfl (by decide) lk_X5_98 (by decide) rfl oX5 (Nat.le_of_ble_eq_true rfl) dX5_ofProduct_47 rfl ?_
          refine v_goto (tgt := 61) hX dX5_ofProduct_50 (by decide) ?_
          refine v_l2i (q := 62) hX dX5_ofProduct_61 rfl ?_
          refine v_ireturn hX hRX rfl (by first | rfl | exact bi_nar _) dX5_ofProduct_62 rfl ?_
          refine ⟨congrArg (fun e => some (vi e)) ?_, rfl, rfl⟩
          unfold nOf
          repeat (first | rw [if_pos (by omega)] | rw [if_neg (by omega)])
      · refine v_aload_n (q := 32) hX dX5_ofProduct_31 rfl rfl rfl ?_
        refine v_iload_n (q := 33) hX dX5_ofProduct_32 rfl rfl rfl ?_
        refine v_iload_n (q := 34) hX dX5_ofProduct_33 rfl rfl rfl ?_
        refine w_callV (q := 37) hX (c_X5_ofP _ _ hr (p) (w) (by omega)) rfl kV_X5_ofP rfl (by decide) lk_X5_78 (by decide) rfl oX5 (Nat.le_of_ble_eq_true rfl) dX5_ofProduct_34 rfl ?_
        refine v_l2i (q := 38) hX dX5_ofProduct_37 rfl ?_
        refine v_ireturn hX hRX rfl (by first | rfl | exact bi_nar _) dX5_ofProduct_38 rfl ?_
        refine ⟨congrArg (fun e => some (vi e)) ?_, rfl, rfl⟩
        unfold nOf
        repeat (first | rw [if_pos (by omega)] | rw [if_neg (by omega)])
    · exact absurd h19 (by omega)
  · exact absurd h5 (by omega)

set_option maxRecDepth 100000 in
set_option maxHeartbeats 4000000 in
theorem c_X5_at_no {z : Nat} (D : xD) (r : xR) (hr : xRM r) {np : Nat} (hn : D 352 1 = (np : Int) ∧ np ≤ 10) (p w u : Int) (hp : xI p) (hw : xI w) (hu : xI u) (he : ¬ ((0 ≤ p ∧ p < (np : Int)) ∧ 0 ≤ w ∧ w < 12)) : MX 2 mX5_at [.ref 351, vi p, vi w, vi u] (356, z) D r (356, z) (xP (vi (-1)) D r) := by
  refine MX.of (by decide +kernel) [some (.ref 351), some (vi p), some (vi w), some (vi u)] rfl (Nat.le_of_ble_eq_true rfl) ?_
  intro γ hX hRX
  refine v_aload_n (q := 1) hX dX5_at_0 rfl rfl rfl ?_
  refine v_iload_n (q := 2) hX dX5_at_1 rfl rfl rfl ?_
  refine w_callV (q := 5) hX (c_X5_isProduct _ _ hr _ ⟨by omega, by omega⟩ (by omega)) rfl kV_X5_isProduct rfl (by decide) lk_X5_127 (by decide) rfl oX5 (Nat.le_of_ble_eq_true rfl) dX5_at_2 rfl ?_
  refine w_ifeq (q := 8) (tgt := 15) hX dX5_at_5 (by decide) rfl (fun h5 => ?_) (fun h5 => ?_)
  · refine v_iconst (q := 16) hX dX5_at_15 rfl ?_
    refine v_ireturn hX hRX rfl (by first | rfl | exact bi_nar _) dX5_at_16 rfl ?_
    exact ⟨rfl, rfl, rfl⟩
  · refine v_iload_n (q := 9) hX dX5_at_8 rfl rfl rfl ?_
    refine w_callS (q := 12) hX (c_X5_isWeek _ _ _ ⟨by omega, by omega⟩) rfl kS_X5_isWeek rfl (by decide) lk_X5_131 (Nat.le_of_ble_eq_true rfl) dX5_at_9 rfl ?_
    refine w_ifne (q := 15) (tgt := 17) hX dX5_at_12 (by decide) rfl (fun h12 => ?_) (fun h12 => ?_)
    · exact absurd ⟨⟨by omega, by omega⟩, by omega, by omega⟩ he
    · refine v_iconst (q := 16) hX dX5_at_15 rfl ?_
      refine v_ireturn hX hRX rfl (by first | rfl | exact bi_nar _) dX5_at_16 rfl ?_
      exact ⟨rfl, rfl, rfl⟩

set_option maxRecDepth 100000 in
set_option maxHeartbeats 4000000 in
theorem c_X5_at_bad {z : Nat} (D : xD) (r : xR) (hr : xRM r) {np : Nat} (hn : D 352 1 = (np : Int) ∧ np ≤ 10) (p w u : Int) (hp : xI p) (hw : xI w) (hu : xI u) (he : ((0 ≤ p ∧ p < (np : Int)) ∧ 0 ≤ w ∧ w < 12)) (he2 : u < 0 ∨ 1 < u) : MX 2 mX5_at [.ref 351, vi p, vi w, vi u] (356, z) D r (356, z) (xP (vi (-2)) D r) := by
  refine MX.of (by decide +kernel) [some (.ref 351), some (vi p), some (vi w), some (vi u)] rfl (Nat.le_of_ble_eq_true rfl) ?_
  intro γ hX hRX
  refine v_aload_n (q := 1) hX dX5_at_0 rfl rfl rfl ?_
  refine v_iload_n (q := 2) hX dX5_at_1 rfl rfl rfl ?_
  refine w_callV (q := 5) hX (c_X5_isProduct _ _ hr _ ⟨by omega, by omega⟩ (by omega)) rfl kV_X5_isProduct rfl (by decide) lk_X5_127 (by decide) rfl oX5 (Nat.le_of_ble_eq_true rfl) dX5_at_2 rfl ?_
  refine w_ifeq (q := 8) (tgt := 15) hX dX5_at_5 (by decide) rfl (fun h5 => ?_) (fun h5 => ?_)
  · exact absurd h5 (by omega)
  · refine v_iload_n (q := 9) hX dX5_at_8 rfl rfl rfl ?_
    refine w_callS (q := 12) hX (c_X5_isWeek _ _ _ ⟨by omega, by omega⟩) rfl kS_X5_isWeek rfl (by decide) lk_X5_131 (Nat.le_of_ble_eq_true rfl) dX5_at_9 rfl ?_
    refine w_ifne (q := 15) (tgt := 17) hX dX5_at_12 (by decide) rfl (fun h12 => ?_) (fun h12 => ?_)
    · refine v_iload_n (q := 18) hX dX5_at_17 rfl rfl rfl ?_
      refine v_i2l (q := 19) hX hu dX5_at_18 rfl ?_
      refine v_lconst (q := 20) (e := 0) hX (by decide) dX5_at_19 rfl ?_
      refine v_lconst (q := 21) (e := 1) hX (by decide) dX5_at_20 rfl ?_
      refine w_callS (q := 24) hX (c_X5_isIn _ _ _ _ _ ⟨by omega, by omega⟩ ⟨by omega, by omega⟩ ⟨by omega, by omega⟩) rfl kS_X5_isIn rfl (by decide) lk_X5_35 (Nat.le_of_ble_eq_true rfl) dX5_at_21 rfl ?_
      refine w_ifne (q := 27) (tgt := 30) hX dX5_at_24 (by decide) rfl (fun h24 => ?_) (fun h24 => ?_)
      · exact absurd h24 (by omega)
      · refine v_bipush (q := 29) hX (by decide) dX5_at_27 rfl ?_
        refine v_ireturn hX hRX rfl (by first | rfl | exact bi_nar _) dX5_at_29 rfl ?_
        exact ⟨rfl, rfl, rfl⟩
    · exact absurd h12 (by omega)

set_option maxRecDepth 100000 in
set_option maxHeartbeats 4000000 in
theorem c_X5_at {z : Nat} (D : xD) (r : xR) (hr : xRM r) {np : Nat} (hn : D 352 1 = (np : Int) ∧ np ≤ 10) (p w u : Nat) (hp : p < np) (hw : w < 12) (hu : u < 2) : MX 2 mX5_at [.ref 351, vi p, vi w, vi u] (356, z) D r (356, z) (xP (vi (if u = 0 then pF (D 352) p (12 + w) else pF (D 352) p (24 + w))) D r) := by
  refine MX.of (by decide +kernel) [some (.ref 351), some (vi p), some (vi w), some (vi u)] rfl (Nat.le_of_ble_eq_true rfl) ?_
  intro γ hX hRX
  refine v_aload_n (q := 1) hX dX5_at_0 rfl rfl rfl ?_
  refine v_iload_n (q := 2) hX dX5_at_1 rfl rfl rfl ?_
  refine w_callV (q := 5) hX (c_X5_isProduct _ _ hr _ ⟨by omega, by omega⟩ (by omega)) rfl kV_X5_isProduct rfl (by decide) lk_X5_127 (by decide) rfl oX5 (Nat.le_of_ble_eq_true rfl) dX5_at_2 rfl ?_
  refine w_ifeq (q := 8) (tgt := 15) hX dX5_at_5 (by decide) rfl (fun h5 => ?_) (fun h5 => ?_)
  · exact absurd h5 (by omega)
  · refine v_iload_n (q := 9) hX dX5_at_8 rfl rfl rfl ?_
    refine w_callS (q := 12) hX (c_X5_isWeek _ _ _ ⟨by omega, by omega⟩) rfl kS_X5_isWeek rfl (by decide) lk_X5_131 (Nat.le_of_ble_eq_true rfl) dX5_at_9 rfl ?_
    refine w_ifne (q := 15) (tgt := 17) hX dX5_at_12 (by decide) rfl (fun h12 => ?_) (fun h12 => ?_)
    · refine v_iload_n (q := 18) hX dX5_at_17 rfl rfl rfl ?_
      refine v_i2l (q := 19) hX ⟨by omega, by omega⟩ dX5_at_18 rfl ?_
      refine v_lconst (q := 20) (e := 0) hX (by decide) dX5_at_19 rfl ?_
      refine v_lconst (q := 21) (e := 1) hX (by decide) dX5_at_20 rfl ?_
      refine w_callS (q := 24) hX (c_X5_isIn _ _ _ _ _ ⟨by omega, by omega⟩ ⟨by omega, by omega⟩ ⟨by omega, by omega⟩) rfl kS_X5_isIn rfl (by decide) lk_X5_35 (Nat.le_of_ble_eq_true rfl) dX5_at_21 rfl ?_
      refine w_ifne (q := 27) (tgt := 30) hX dX5_at_24 (by decide) rfl (fun h24 => ?_) (fun h24 => ?_)
      · refine v_aload_n (q := 31) hX dX5_at_30 rfl rfl rfl ?_
        refine v_iload_n (q := 32) hX dX5_at_31 rfl rfl rfl ?_
        refine v_iload_n (q := 33) hX dX5_at_32 rfl rfl rfl ?_
        refine v_if_ne (q := 36) (tgt := 41) hX ⟨by omega, by omega⟩ dX5_at_33 (by decide) rfl (fun h33 => ?_) (fun h33 => ?_)
        · refine v_bipush (q := 43) hX (by decide) dX5_at_41 rfl ?_
          refine v_iload_n (q := 44) hX dX5_at_43 rfl rfl rfl ?_
          refine v_iadd (q := 45) hX dX5_at_44 rfl ?_
          refine w_callV (q := 48) hX (c_X5_ofP _ _ hr (p) ((24 + w)) (by omega)) rfl kV_X5_ofP rfl (by decide) lk_X5_78 (by decide) rfl oX5 (Nat.le_of_ble_eq_true rfl) dX5_at_45 rfl ?_
          refine v_l2i (q := 49) hX dX5_at_48 rfl ?_
          refine v_ireturn hX hRX rfl (by first | rfl | exact bi_nar _) dX5_at_49 rfl ?_
          refine ⟨congrArg (fun e => some (vi e)) ?_, rfl, rfl⟩
          repeat (first | rw [if_pos (by omega)] | rw [if_neg (by omega)])
        · refine v_bipush (q := 38) hX (by decide) dX5_at_36 rfl ?_
          refine v_goto (tgt := 43) hX dX5_at_38 (by decide) ?_
          refine v_iload_n (q := 44) hX dX5_at_43 rfl rfl rfl ?_
          refine v_iadd (q := 45) hX dX5_at_44 rfl ?_
          refine w_callV (q := 48) hX (c_X5_ofP _ _ hr (p) ((12 + w)) (by omega)) rfl kV_X5_ofP rfl (by decide) lk_X5_78 (by decide) rfl oX5 (Nat.le_of_ble_eq_true rfl) dX5_at_45 rfl ?_
          refine v_l2i (q := 49) hX dX5_at_48 rfl ?_
          refine v_ireturn hX hRX rfl (by first | rfl | exact bi_nar _) dX5_at_49 rfl ?_
          refine ⟨congrArg (fun e => some (vi e)) ?_, rfl, rfl⟩
          repeat (first | rw [if_pos (by omega)] | rw [if_neg (by omega)])
      · exact absurd h24 (by omega)
    · exact absurd h12 (by omega)

set_option maxRecDepth 100000 in
set_option maxHeartbeats 4000000 in
theorem c_X5_projection_no {z : Nat} (D : xD) (r : xR) (hr : xRM r) {np : Nat} (hn : D 352 1 = (np : Int) ∧ np ≤ 10) (p w : Int) (hp : xI p) (hw : xI w) (he : ¬ ((0 ≤ p ∧ p < (np : Int)) ∧ 0 ≤ w ∧ w < 12)) : MX 2 mX5_projection [.ref 351, vi p, vi w] (356, z) D r (356, z) (xP (vl (-1)) D r) := by
  refine MX.of (by decide +kernel) [some (.ref 351), some (vi p), some (vi w)] rfl (Nat.le_of_ble_eq_true rfl) ?_
  intro γ hX hRX
  refine v_aload_n (q := 1) hX dX5_projection_0 rfl rfl rfl ?_
  refine v_iload_n (q := 2) hX dX5_projection_1 rfl rfl rfl ?_
  refine w_callV (q := 5) hX (c_X5_isProduct _ _ hr _ ⟨by omega, by omega⟩ (by omega)) rfl kV_X5_isProduct rfl (by decide) lk_X5_127 (by decide) rfl oX5 (Nat.le_of_ble_eq_true rfl) dX5_projection_2 rfl ?_
  refine w_ifeq (q := 8) (tgt := 24) hX dX5_projection_5 (by decide) rfl (fun h5 => ?_) (fun h5 => ?_)
  · refine v_ldc2 (q := 27) (e := -1) hX (by decide) kl_X5_182 dX5_projection_24 rfl ?_
    refine v_lreturn hX hRX rfl dX5_projection_27 rfl ?_
    exact ⟨rfl, rfl, rfl⟩
  · refine v_iload_n (q := 9) hX dX5_projection_8 rfl rfl rfl ?_
    refine w_callS (q := 12) hX (c_X5_isWeek _ _ _ ⟨by omega, by omega⟩) rfl kS_X5_isWeek rfl (by decide) lk_X5_131 (Nat.le_of_ble_eq_true rfl) dX5_projection_9 rfl ?_
    refine w_ifeq (q := 15) (tgt := 24) hX dX5_projection_12 (by decide) rfl (fun h12 => ?_) (fun h12 => ?_)
    · refine v_ldc2 (q := 27) (e := -1) hX (by decide) kl_X5_182 dX5_projection_24 rfl ?_
      refine v_lreturn hX hRX rfl dX5_projection_27 rfl ?_
      exact ⟨rfl, rfl, rfl⟩
    · exact absurd ⟨⟨by omega, by omega⟩, by omega, by omega⟩ he

set_option maxRecDepth 100000 in
set_option maxHeartbeats 4000000 in
theorem c_X5_projection {z : Nat} (D : xD) (r : xR) (hr : xRM r) {B : Int} {np : Nat} (hO : nOk B np (D 352)) (p w : Nat) (hp : p < np) (hw : w < 12) : MX 2 mX5_projection [.ref 351, vi p, vi w] (356, z) D r (356, z) (xP (vl (nPj (D 352) p (w + 1))) D r) := by
  refine MX.of (by decide +kernel) [some (.ref 351), some (vi p), some (vi w)] rfl (Nat.le_of_ble_eq_true rfl) ?_
  intro γ hX hRX
  have hn := hO.np
  refine v_aload_n (q := 1) hX dX5_projection_0 rfl rfl rfl ?_
  refine v_iload_n (q := 2) hX dX5_projection_1 rfl rfl rfl ?_
  refine w_callV (q := 5) hX (c_X5_isProduct _ _ hr _ ⟨by omega, by omega⟩ (by omega)) rfl kV_X5_isProduct rfl (by decide) lk_X5_127 (by decide) rfl oX5 (Nat.le_of_ble_eq_true rfl) dX5_projection_2 rfl ?_
  refine w_ifeq (q := 8) (tgt := 24) hX dX5_projection_5 (by decide) rfl (fun h5 => ?_) (fun h5 => ?_)
  · exact absurd h5 (by omega)
  · refine v_iload_n (q := 9) hX dX5_projection_8 rfl rfl rfl ?_
    refine w_callS (q := 12) hX (c_X5_isWeek _ _ _ ⟨by omega, by omega⟩) rfl kS_X5_isWeek rfl (by decide) lk_X5_131 (Nat.le_of_ble_eq_true rfl) dX5_projection_9 rfl ?_
    refine w_ifeq (q := 15) (tgt := 24) hX dX5_projection_12 (by decide) rfl (fun h12 => ?_) (fun h12 => ?_)
    · exact absurd h12 (by omega)
    · refine v_aload_n (q := 16) hX dX5_projection_15 rfl rfl rfl ?_
      refine v_iload_n (q := 17) hX dX5_projection_16 rfl rfl rfl ?_
      refine v_iload_n (q := 18) hX dX5_projection_17 rfl rfl rfl ?_
      refine w_callV (q := 21) hX (c_X5_project _ _ hr hO (p) (w) (by omega) (by omega)) rfl kV_X5_project rfl (by decide) lk_X5_101 (by decide) rfl oX5 (Nat.le_of_ble_eq_true rfl) dX5_projection_18 rfl ?_
      refine v_goto (tgt := 27) hX dX5_projection_21 (by decide) ?_
      refine v_lreturn hX hRX rfl dX5_projection_27 rfl ?_
      exact ⟨rfl, rfl, rfl⟩

set_option maxRecDepth 100000 in
set_option maxHeartbeats 4000000 in
theorem c_X5_roomFor_no {z : Nat} (D : xD) (r : xR) (hr : xRM r) {np : Nat} (hn : D 352 1 = (np : Int) ∧ np ≤ 10) (p w : Int) (hp : xI p) (hw : xI w) (he : ¬ ((0 ≤ p ∧ p < (np : Int)) ∧ 0 ≤ w ∧ w < 12)) : MX 5 mX5_roomFor [.ref 351, vi p, vi w] (356, z) D r (356, z) (xP (vi (-1)) D r) := by
  refine MX.of (by decide +kernel) [some (.ref 351), some (vi p), some (vi w)] rfl (Nat.le_of_ble_eq_true rfl) ?_
  intro γ hX hRX
  refine v_aload_n (q := 1) hX dX5_roomFor_0 rfl rfl rfl ?_
  refine v_iload_n (q := 2) hX dX5_roomFor_1 rfl rfl rfl ?_
  refine w_callV (q := 5) hX (c_X5_isProduct _ _ hr _ ⟨by omega, by omega⟩ (by omega)) rfl kV_X5_isProduct rfl (by decide) lk_X5_127 (by decide) rfl oX5 (Nat.le_of_ble_eq_true rfl) dX5_roomFor_2 rfl ?_
  refine w_ifeq (q := 8) (tgt := 25) hX dX5_roomFor_5 (by decide) rfl (fun h5 => ?_) (fun h5 => ?_)
  · refine v_iconst (q := 26) hX dX5_roomFor_25 rfl ?_
    refine v_ireturn hX hRX rfl (by first | rfl | exact bi_nar _) dX5_roomFor_26 rfl ?_
    exact ⟨rfl, rfl, rfl⟩
  · refine v_iload_n (q := 9) hX dX5_roomFor_8 rfl rfl rfl ?_
    refine w_callS (q := 12) hX (c_X5_isWeek _ _ _ ⟨by omega, by omega⟩) rfl kS_X5_isWeek rfl (by decide) lk_X5_131 (Nat.le_of_ble_eq_true rfl) dX5_roomFor_9 rfl ?_
    refine w_ifeq (q := 15) (tgt := 25) hX dX5_roomFor_12 (by decide) rfl (fun h12 => ?_) (fun h12 => ?_)
    · refine v_iconst (q := 26) hX dX5_roomFor_25 rfl ?_
      refine v_ireturn hX hRX rfl (by first | rfl | exact bi_nar _) dX5_roomFor_26 rfl ?_
      exact ⟨rfl, rfl, rfl⟩
    · exact absurd ⟨⟨by omega, by omega⟩, by omega, by omega⟩ he

set_option maxRecDepth 100000 in
set_option maxHeartbeats 4000000 in
theorem c_X5_roomFor {z : Nat} (D : xD) (r : xR) (hr : xRM r) {B : Int} {np : Nat} (hO : nOk B np (D 352)) (p w : Nat) (hp : p < np) (hw : w < 12) : MX 5 mX5_roomFor [.ref 351, vi p, vi w] (356, z) D r (356, z) (xP (vi (nRoom (D 352) np p w)) D r) := by
  refine MX.of (by decide +kernel) [some (.ref 351), some (vi p), some (vi w)] rfl (Nat.le_of_ble_eq_true rfl) ?_
  intro γ hX hRX
  have hn := hO.np
  refine v_aload_n (q := 1) hX dX5_roomFor_0 rfl rfl rfl ?_
  refine v_iload_n (q := 2) hX dX5_roomFor_1 rfl rfl rfl ?_
  refine w_callV (q := 5) hX (c_X5_isProduct _ _ hr _ ⟨by omega, by omega⟩ (by omega)) rfl kV_X5_isProduct rfl (by decide) lk_X5_127 (by decide) rfl oX5 (Nat.le_of_ble_eq_true rfl) dX5_roomFor_2 rfl ?_
  refine w_ifeq (q := 8) (tgt := 25) hX dX5_roomFor_5 (by decide) rfl (fun h5 => ?_) (fun h5 => ?_)
  · exact absurd h5 (by omega)
  · refine v_iload_n (q := 9) hX dX5_roomFor_8 rfl rfl rfl ?_
    refine w_callS (q := 12) hX (c_X5_isWeek _ _ _ ⟨by omega, by omega⟩) rfl kS_X5_isWeek rfl (by decide) lk_X5_131 (Nat.le_of_ble_eq_true rfl) dX5_roomFor_9 rfl ?_
    refine w_ifeq (q := 15) (tgt := 25) hX dX5_roomFor_12 (by decide) rfl (fun h12 => ?_) (fun h12 => ?_)
    · exact absurd h12 (by omega)
    · refine v_aload_n (q := 16) hX dX5_roomFor_15 rfl rfl rfl ?_
      refine v_iload_n (q := 17) hX dX5_roomFor_16 rfl rfl rfl ?_
      refine v_iload_n (q := 18) hX dX5_roomFor_17 rfl rfl rfl ?_
      refine w_callV (q := 21) hX (c_X5_room _ _ hr hO (p) (w) (by omega) (by omega)) rfl kV_X5_room rfl (by decide) lk_X5_111 (by decide) rfl oX5 (Nat.le_of_ble_eq_true rfl) dX5_roomFor_18 rfl ?_
      refine v_l2i (q := 22) hX dX5_roomFor_21 rfl ?_
      refine v_goto (tgt := 26) hX dX5_roomFor_22 (by decide) ?_
      refine v_ireturn hX hRX rfl (by first | rfl | exact bi_nar _) dX5_roomFor_26 rfl ?_
      exact ⟨rfl, rfl, rfl⟩

set_option maxRecDepth 100000 in
set_option maxHeartbeats 4000000 in
theorem c_X5_ofWeek_no {z : Nat} (D : xD) (r : xR) (hr : xRM r) (w u : Int) (hw : xI w) (hu : xI u) (he : ¬ (0 ≤ w ∧ w < 12)) : MX 5 mX5_ofWeek [.ref 351, vi w, vi u] (356, z) D r (356, z) (xP (vi (-1)) D r) := by
  refine MX.of (by decide +kernel) [some (.ref 351), some (vi w), some (vi u)] rfl (Nat.le_of_ble_eq_true rfl) ?_
  intro γ hX hRX
  refine v_iload_n (q := 1) hX dX5_ofWeek_0 rfl rfl rfl ?_
  refine w_callS (q := 4) hX (c_X5_isWeek _ _ _ ⟨by omega, by omega⟩) rfl kS_X5_isWeek rfl (by decide) lk_X5_131 (Nat.le_of_ble_eq_true rfl) dX5_ofWeek_1 rfl ?_
  refine w_ifne (q := 7) (tgt := 9) hX dX5_ofWeek_4 (by decide) rfl (fun h4 => ?_) (fun h4 => ?_)
  · exact absurd h4 he
  · refine v_iconst (q := 8) hX dX5_ofWeek_7 rfl ?_
    refine v_ireturn hX hRX rfl (by first | rfl | exact bi_nar _) dX5_ofWeek_8 rfl ?_
    exact ⟨rfl, rfl, rfl⟩

set_option maxRecDepth 100000 in
set_option maxHeartbeats 4000000 in
theorem c_X5_ofWeek_bad {z : Nat} (D : xD) (r : xR) (hr : xRM r) (w u : Int) (hw : xI w) (hu : xI u) (he : 0 ≤ w ∧ w < 12) (he2 : u < 0 ∨ 4 < u) : MX 5 mX5_ofWeek [.ref 351, vi w, vi u] (356, z) D r (356, z) (xP (vi (-2)) D r) := by
  refine MX.of (by decide +kernel) [some (.ref 351), some (vi w), some (vi u)] rfl (Nat.le_of_ble_eq_true rfl) ?_
  intro γ hX hRX
  refine v_iload_n (q := 1) hX dX5_ofWeek_0 rfl rfl rfl ?_
  refine w_callS (q := 4) hX (c_X5_isWeek _ _ _ ⟨by omega, by omega⟩) rfl kS_X5_isWeek rfl (by decide) lk_X5_131 (Nat.le_of_ble_eq_true rfl) dX5_ofWeek_1 rfl ?_
  refine w_ifne (q := 7) (tgt := 9) hX dX5_ofWeek_4 (by decide) rfl (fun h4 => ?_) (fun h4 => ?_)
  · refine v_iload_n (q := 10) hX dX5_ofWeek_9 rfl rfl rfl ?_
    refine v_tableOut (tgt := 84) hX hu dX5_ofWeek_10 (by omega) (by decide) ?_
    refine v_bipush (q := 86) hX (by decide) dX5_ofWeek_84 rfl ?_
    refine v_ireturn hX hRX rfl (by first | rfl | exact bi_nar _) dX5_ofWeek_86 rfl ?_
    exact ⟨rfl, rfl, rfl⟩
  · exact absurd he h4

def nWk (N : Nat → Int) (np w u : Nat) : Int := if u = 0 then nHours N np w else if u = 1 then nSetups N np w else if u = 2 then nOver N np w else if u = 3 then ((nMask N w np : Nat) : Int) else (if (w : Int) < N 7 then 1 else 0)
set_option maxRecDepth 100000 in
set_option maxHeartbeats 4000000 in
theorem c_X5_ofWeek {z : Nat} (D : xD) (r : xR) (hr : xRM r) {B : Int} {np : Nat} (hO : nOk B np (D 352)) (w u : Nat) (hw : w < 12) (hu : u < 5) : MX 5 mX5_ofWeek [.ref 351, vi w, vi u] (356, z) D r (356, z) (xP (vi (nWk (D 352) np w u)) D r) := by
  refine MX.of (by decide +kernel) [some (.ref 351), some (vi w), some (vi u)] rfl (Nat.le_of_ble_eq_true rfl) ?_
  intro γ hX hRX
  have hn := hO.np
  have hs := hO.2.2.2.1
  refine v_iload_n (q := 1) hX dX5_ofWeek_0 rfl rfl rfl ?_
  refine w_callS (q := 4) hX (c_X5_isWeek _ _ _ ⟨by omega, by omega⟩) rfl kS_X5_isWeek rfl (by decide) lk_X5_131 (Nat.le_of_ble_eq_true rfl) dX5_ofWeek_1 rfl ?_
  refine w_ifne (q := 7) (tgt := 9) hX dX5_ofWeek_4 (by decide) rfl (fun h4 => ?_) (fun h4 => ?_)
  · refine v_iload_n (q := 10) hX dX5_ofWeek_9 rfl rfl rfl ?_
    match u, hu with
    | 0, _ =>
      refine v_tableIn (tgt := 44) hX (by decide) dX5_ofWeek_10 (by decide) (by decide) rfl (by decide) ?_
      refine v_aload_n (q := 45) hX dX5_ofWeek_44 rfl rfl rfl ?_
      refine v_iload_n (q := 46) hX dX5_ofWeek_45 rfl rfl rfl ?_
      refine w_callV (q := 49) hX (c_X5_hoursOf _ _ hr hO (w) (by omega)) rfl kV_X5_hoursOf rfl (by decide) lk_X5_89 (by decide) rfl oX5 (Nat.le_of_ble_eq_true rfl) dX5_ofWeek_46 rfl ?_
      refine v_l2i (q := 50) hX dX5_ofWeek_49 rfl ?_
      refine v_ireturn hX hRX rfl (by first | rfl | exact bi_nar _) dX5_ofWeek_50 rfl ?_
      exact ⟨rfl, rfl, rfl⟩
    | 1, _ =>
      refine v_tableIn (tgt := 51) hX (by decide) dX5_ofWeek_10 (by decide) (by decide) rfl (by decide) ?_
      refine v_aload_n (q := 52) hX dX5_ofWeek_51 rfl rfl rfl ?_
      refine v_iload_n (q := 53) hX dX5_ofWeek_52 rfl rfl rfl ?_
      refine w_callV (q := 56) hX (c_X5_setupsOf _ _ hr hO (w) (by omega)) rfl kV_X5_setupsOf rfl (by decide) lk_X5_160 (by decide) rfl oX5 (Nat.le_of_ble_eq_true rfl) dX5_ofWeek_53 rfl ?_
      refine v_ireturn hX hRX rfl (by first | rfl | exact bi_nar _) dX5_ofWeek_56 rfl ?_
      exact ⟨rfl, rfl, rfl⟩
    | 2, _ =>
      refine v_tableIn (tgt := 57) hX (by decide) dX5_ofWeek_10 (by decide) (by decide) rfl (by decide) ?_
      refine v_aload_n (q := 58) hX dX5_ofWeek_57 rfl rfl rfl ?_
      refine v_iload_n (q := 59) hX dX5_ofWeek_58 rfl rfl rfl ?_
      refine w_callV (q := 62) hX (c_X5_overtimeOf _ _ hr hO (w) (by omega)) rfl kV_X5_overtimeOf rfl (by decide) lk_X5_163 (by decide) rfl oX5 (Nat.le_of_ble_eq_true rfl) dX5_ofWeek_59 rfl ?_
      refine v_l2i (q := 63) hX dX5_ofWeek_62 rfl ?_
      refine v_ireturn hX hRX rfl (by first | rfl | exact bi_nar _) dX5_ofWeek_63 rfl ?_
      exact ⟨rfl, rfl, rfl⟩
    | 3, _ =>
      refine v_tableIn (tgt := 64) hX (by decide) dX5_ofWeek_10 (by decide) (by decide) rfl (by decide) ?_
      refine v_aload_n (q := 65) hX dX5_ofWeek_64 rfl rfl rfl ?_
      refine v_iload_n (q := 66) hX dX5_ofWeek_65 rfl rfl rfl ?_
      refine w_callV (q := 69) hX (c_X5_familiesIn _ _ hr hO (w) (by omega)) rfl kV_X5_familiesIn rfl (by decide) lk_X5_86 (by decide) rfl oX5 (Nat.le_of_ble_eq_true rfl) dX5_ofWeek_66 rfl ?_
      refine v_ireturn hX hRX rfl (by first | rfl | exact bi_nar _) dX5_ofWeek_69 rfl ?_
      exact ⟨rfl, rfl, rfl⟩
    | 4, _ =>
      refine v_tableIn (tgt := 70) hX (by decide) dX5_ofWeek_10 (by decide) (by decide) rfl (by decide) ?_
      refine v_iload_n (q := 71) hX dX5_ofWeek_70 rfl rfl rfl ?_
      refine v_aload_n (q := 72) hX dX5_ofWeek_71 rfl rfl rfl ?_
      refine w_callV (q := 75) hX (c_X5_fence _ _ hr) rfl kV_X5_fence rfl (by decide) lk_X5_114 (by decide) rfl oX5 (Nat.le_of_ble_eq_true rfl) dX5_ofWeek_72 rfl ?_
      refine v_icmp_ge (q := 78) (tgt := 82) hX ⟨by omega, by omega⟩ ⟨by omega, by omega⟩ dX5_ofWeek_75 (by decide) rfl (fun h75 => ?_) (fun h75 => ?_)
      · refine v_iconst (q := 83) hX dX5_ofWeek_82 rfl ?_
        refine v_ireturn hX hRX rfl (by first | rfl | exact bi_nar _) dX5_ofWeek_83 rfl ?_
        exact ⟨congrArg (fun e => some (vi e)) (by unfold nWk; rw [if_neg (by decide), if_neg (by decide), if_neg (by decide), if_neg (by decide)]; first | rw [if_pos (by omega)] | rw [if_neg (by omega)]), rfl, rfl⟩
      · refine v_iconst (q := 79) hX dX5_ofWeek_78 rfl ?_
        refine v_goto (tgt := 83) hX dX5_ofWeek_79 (by decide) ?_
        refine v_ireturn hX hRX rfl (by first | rfl | exact bi_nar _) dX5_ofWeek_83 rfl ?_
        exact ⟨congrArg (fun e => some (vi e)) (by unfold nWk; rw [if_neg (by decide), if_neg (by decide), if_neg (by decide), if_neg (by decide)]; first | rw [if_pos (by omega)] | rw [if_neg (by omega)]), rfl, rfl⟩
  · exact absurd h4 (by omega)

set_option maxRecDepth 100000 in
set_option maxHeartbeats 4000000 in
theorem c_X5_count_bad {z : Nat} (D : xD) (r : xR) (hr : xRM r) (u : Int) (hu : xI u) (he : u < 0 ∨ 22 < u) : MX 2 mX5_count [.ref 351, vi u] (356, z) D r (356, z) (xP (vl (-2)) D r) := by
  refine MX.of (by decide +kernel) [some (.ref 351), some (vi u)] rfl (Nat.le_of_ble_eq_true rfl) ?_
  intro γ hX hRX
  refine v_iload_n (q := 1) hX dX5_count_0 rfl rfl rfl ?_
  refine v_i2l (q := 2) hX hu dX5_count_1 rfl ?_
  refine v_lconst (q := 3) (e := 0) hX (by decide) dX5_count_2 rfl ?_
  refine v_ldc2 (q := 6) (e := 4) hX (by decide) kl_X5_184 dX5_count_3 rfl ?_
  refine w_callS (q := 9) hX (c_X5_isIn _ _ _ _ _ ⟨by omega, by omega⟩ ⟨by omega, by omega⟩ ⟨by omega, by omega⟩) rfl kS_X5_isIn rfl (by decide) lk_X5_35 (Nat.le_of_ble_eq_true rfl) dX5_count_6 rfl ?_
  refine w_ifeq (q := 12) (tgt := 19) hX dX5_count_9 (by decide) rfl (fun h9 => ?_) (fun h9 => ?_)
  · refine v_iload_n (q := 20) hX dX5_count_19 rfl rfl rfl ?_
    refine v_i2l (q := 21) hX hu dX5_count_20 rfl ?_
    refine v_ldc2 (q := 24) (e := 10) hX (by decide) kl_X5_70 dX5_count_21 rfl ?_
    refine v_ldc2 (q := 27) (e := 22) hX (by decide) kl_X5_186 dX5_count_24 rfl ?_
    refine w_callS (q := 30) hX (c_X5_isIn _ _ _ _ _ ⟨by omega, by omega⟩ ⟨by omega, by omega⟩ ⟨by omega, by omega⟩) rfl kS_X5_isIn rfl (by decide) lk_X5_35 (Nat.le_of_ble_eq_true rfl) dX5_count_27 rfl ?_
    refine w_ifeq (q := 33) (tgt := 45) hX dX5_count_30 (by decide) rfl (fun h30 => ?_) (fun h30 => ?_)
    · refine v_iload_n (q := 46) hX dX5_count_45 rfl rfl rfl ?_
      refine v_tableOut (tgt := 110) hX hu dX5_count_46 (by omega) (by decide) ?_
      refine v_ldc2 (q := 113) (e := -2) hX (by decide) kl_X5_191 dX5_count_110 rfl ?_
      refine v_lreturn hX hRX rfl dX5_count_113 rfl ?_
      exact ⟨rfl, rfl, rfl⟩
    · exact absurd h30 (by omega)
  · exact absurd h9 (by omega)

def nCnt (F N : Nat → Int) (np u : Nat) : Int := if u < 5 then N u else if 10 ≤ u then N (u - 5) else if u = 5 then nLots N np else if u = 6 then nSum N 4 np else if u = 7 then nSum N 5 np else if u = 8 then F 5 else F 3
set_option maxRecDepth 100000 in
set_option maxHeartbeats 4000000 in
theorem c_X5_count {z : Nat} (D : xD) (r : xR) (hr : xRM r) {B : Int} {np : Nat} (hO : nOk B np (D 352)) (hF : (0 ≤ D 351 3 ∧ D 351 3 ≤ 6) ∧ 0 ≤ D 351 5 ∧ D 351 5 ≤ 80) (u : Nat) (hu : u < 23) : MX 2 mX5_count [.ref 351, vi u] (356, z) D r (356, z) (xP (vl (nCnt (D 351) (D 352) np u)) D r) := by
  refine MX.of (by decide +kernel) [some (.ref 351), some (vi u)] rfl (Nat.le_of_ble_eq_true rfl) ?_
  intro γ hX hRX
  have hn := hO.np
  have hl := nLots_le hO np (Nat.le_refl _)
  refine v_iload_n (q := 1) hX dX5_count_0 rfl rfl rfl ?_
  refine v_i2l (q := 2) hX ⟨by omega, by omega⟩ dX5_count_1 rfl ?_
  refine v_lconst (q := 3) (e := 0) hX (by decide) dX5_count_2 rfl ?_
  refine v_ldc2 (q := 6) (e := 4) hX (by decide) kl_X5_184 dX5_count_3 rfl ?_
  refine w_callS (q := 9) hX (c_X5_isIn _ _ _ _ _ ⟨by omega, by omega⟩ ⟨by omega, by omega⟩ ⟨by omega, by omega⟩) rfl kS_X5_isIn rfl (by decide) lk_X5_35 (Nat.le_of_ble_eq_true rfl) dX5_count_6 rfl ?_
  refine w_ifeq (q := 12) (tgt := 19) hX dX5_count_9 (by decide) rfl (fun h9 => ?_) (fun h9 => ?_)
  · refine v_iload_n (q := 20) hX dX5_count_19 rfl rfl rfl ?_
    refine v_i2l (q := 21) hX ⟨by omega, by omega⟩ dX5_count_20 rfl ?_
    refine v_ldc2 (q := 24) (e := 10) hX (by decide) kl_X5_70 dX5_count_21 rfl ?_
    refine v_ldc2 (q := 27) (e := 22) hX (by decide) kl_X5_186 dX5_count_24 rfl ?_
    refine w_callS (q := 30) hX (c_X5_isIn _ _ _ _ _ ⟨by omega, by omega⟩ ⟨by omega, by omega⟩ ⟨by omega, by omega⟩) rfl kS_X5_isIn rfl (by decide) lk_X5_35 (Nat.le_of_ble_eq_true rfl) dX5_count_27 rfl ?_
    refine w_ifeq (q := 33) (tgt := 45) hX dX5_count_30 (by decide) rfl (fun h30 => ?_) (fun h30 => ?_)
    · refine v_iload_n (q := 46) hX dX5_count_45 rfl rfl rfl ?_
      rcases (show u = 5 ∨ u = 6 ∨ u = 7 ∨ u = 8 ∨ u = 9 by omega) with rfl | rfl | rfl | rfl | rfl
      · refine v_tableIn (tgt := 80) hX (by decide) dX5_count_46 (by decide) (by decide) rfl (by decide) ?_
        refine v_aload_n (q := 81) hX dX5_count_80 rfl rfl rfl ?_
        refine w_callV (q := 84) hX (c_X5_lotsInAll _ _ hr hO) rfl kV_X5_lotsInAll rfl (by decide) lk_X5_124 (by decide) rfl oX5 (Nat.le_of_ble_eq_true rfl) dX5_count_81 rfl ?_
        refine v_i2l (q := 85) hX ⟨by omega, by omega⟩ dX5_count_84 rfl ?_
        refine v_lreturn hX hRX rfl dX5_count_85 rfl ?_
        exact ⟨rfl, rfl, rfl⟩
      · refine v_tableIn (tgt := 86) hX (by decide) dX5_count_46 (by decide) (by decide) rfl (by decide) ?_
        refine v_aload_n (q := 87) hX dX5_count_86 rfl rfl rfl ?_
        refine v_iconst (q := 88) hX dX5_count_87 rfl ?_
        refine w_callV (q := 91) hX (c_X5_sumOf _ _ hr hO (4) (by omega)) rfl kV_X5_sumOf rfl (by decide) lk_X5_166 (by decide) rfl oX5 (Nat.le_of_ble_eq_true rfl) dX5_count_88 rfl ?_
        refine v_lreturn hX hRX rfl dX5_count_91 rfl ?_
        exact ⟨rfl, rfl, rfl⟩
      · refine v_tableIn (tgt := 92) hX (by decide) dX5_count_46 (by decide) (by decide) rfl (by decide) ?_
        refine v_aload_n (q := 93) hX dX5_count_92 rfl rfl rfl ?_
        refine v_iconst (q := 94) hX dX5_count_93 rfl ?_
        refine w_callV (q := 97) hX (c_X5_sumOf _ _ hr hO (5) (by omega)) rfl kV_X5_sumOf rfl (by decide) lk_X5_166 (by decide) rfl oX5 (Nat.le_of_ble_eq_true rfl) dX5_count_94 rfl ?_
        refine v_lreturn hX hRX rfl dX5_count_97 rfl ?_
        exact ⟨rfl, rfl, rfl⟩
      · refine v_tableIn (tgt := 98) hX (by decide) dX5_count_46 (by decide) (by decide) rfl (by decide) ?_
        refine v_aload_n (q := 99) hX dX5_count_98 rfl rfl rfl ?_
        refine w_getI (q := 102) hX fl_X5_188 rfl oX5 dX5_count_99 rfl ?_
        refine v_i2l (q := 103) hX ⟨by omega, by omega⟩ dX5_count_102 rfl ?_
        refine v_lreturn hX hRX rfl dX5_count_103 rfl ?_
        exact ⟨rfl, rfl, rfl⟩
      · refine v_tableIn (tgt := 104) hX (by decide) dX5_count_46 (by decide) (by decide) rfl (by decide) ?_
        refine v_aload_n (q := 105) hX dX5_count_104 rfl rfl rfl ?_
        refine w_getI (q := 108) hX fl_X5_45 rfl oX5 dX5_count_105 rfl ?_
        refine v_i2l (q := 109) hX ⟨by omega, by omega⟩ dX5_count_108 rfl ?_
        refine v_lreturn hX hRX rfl dX5_count_109 rfl ?_
        exact ⟨rfl, rfl, rfl⟩
    · refine v_aload_n (q := 34) hX dX5_count_33 rfl rfl rfl ?_
      refine w_getR (q := 37) hX fl_X5_7 rfl oX5 hr.1 dX5_count_34 rfl ?_
      refine v_iconst (q := 38) hX dX5_count_37 rfl ?_
      refine v_iload_n (q := 39) hX dX5_count_38 rfl rfl rfl ?_
      refine v_iadd (q := 40) hX dX5_count_39 rfl ?_
      refine v_bipush (q := 42) hX (by decide) dX5_count_40 rfl ?_
      refine v_isub (q := 43) hX dX5_count_42 rfl ?_
      refine w_lld (q := 44) (kk := u - 5) hX (by omega) (by omega) aNow dX5_count_43 rfl ?_
      refine v_lreturn hX hRX rfl dX5_count_44 rfl ?_
      refine ⟨congrArg (fun e => some (vl e)) ?_, rfl, rfl⟩
      unfold nCnt
      repeat (first | rw [if_pos (by omega)] | rw [if_neg (by omega)])
  · refine v_aload_n (q := 13) hX dX5_count_12 rfl rfl rfl ?_
    refine w_getR (q := 16) hX fl_X5_7 rfl oX5 hr.1 dX5_count_13 rfl ?_
    refine v_iload_n (q := 17) hX dX5_count_16 rfl rfl rfl ?_
    refine w_lld (q := 18) (kk := u) hX (by omega) (by omega) aNow dX5_count_17 rfl ?_
    refine v_lreturn hX hRX rfl dX5_count_18 rfl ?_
    refine ⟨congrArg (fun e => some (vl e)) ?_, rfl, rfl⟩
    unfold nCnt
    repeat (first | rw [if_pos (by omega)] | rw [if_neg (by omega)])

set_option maxRecDepth 100000 in
set_option maxHeartbeats 4000000 in
theorem c_X5_firstShort_no {z : Nat} (D : xD) (r : xR) (hr : xRM r) {np : Nat} (hn : D 352 1 = (np : Int) ∧ np ≤ 10) (p : Int) (hp : xI p) (he : ¬ (0 ≤ p ∧ p < (np : Int))) : MX 2 mX5_firstShort [.ref 351, vi p] (356, z) D r (356, z) (xP (vi (-1)) D r) := by
  refine MX.of (by decide +kernel) [some (.ref 351), some (vi p), none] rfl (Nat.le_of_ble_eq_true rfl) ?_
  intro γ hX hRX
  refine v_aload_n (q := 1) hX dX5_firstShort_0 rfl rfl rfl ?_
  refine v_iload_n (q := 2) hX dX5_firstShort_1 rfl rfl rfl ?_
  refine w_callV (q := 5) hX (c_X5_isProduct _ _ hr _ ⟨by omega, by omega⟩ (by omega)) rfl kV_X5_isProduct rfl (by decide) lk_X5_127 (by decide) rfl oX5 (Nat.le_of_ble_eq_true rfl) dX5_firstShort_2 rfl ?_
  refine w_ifne (q := 8) (tgt := 10) hX dX5_firstShort_5 (by decide) rfl (fun h5 => ?_) (fun h5 => ?_)
  · exact absurd h5 (by omega)
  · refine v_iconst (q := 9) hX dX5_firstShort_8 rfl ?_
    refine v_ireturn hX hRX rfl (by first | rfl | exact bi_nar _) dX5_firstShort_9 rfl ?_
    exact ⟨rfl, rfl, rfl⟩

/-- the first week from the k-th on, of n, behind which a projection is below 0 -/
def nShort (N : Nat → Int) (p : Nat) : Nat → Nat → Int
  | 0, _ => -6
  | n + 1, k => if nPj N p (k + 1) < 0 then (k : Int) else nShort N p n (k + 1)
def nLasts (N : Nat → Int) (p : Nat) : Nat → Nat → Int → Nat
  | 0, k, _ => k
  | n + 1, k, x => if pF N p (12 + k) ≤ x then nLasts N p n (k + 1) (x - pF N p (12 + k)) else k
set_option maxRecDepth 100000 in
set_option maxHeartbeats 4000000 in
theorem c_X5_firstShort {z : Nat} (D : xD) (r : xR) (hr : xRM r) {B : Int} {np : Nat} (hO : nOk B np (D 352)) (p : Nat) (hp : p < np) : MX 2 mX5_firstShort [.ref 351, vi p] (356, z) D r (356, z) (xP (vi (nShort (D 352) p 12 0)) D r) := by
  refine MX.of (by decide +kernel) [some (.ref 351), some (vi p), none] rfl (Nat.le_of_ble_eq_true rfl) ?_
  intro γ hX hRX
  have hn := hO.np
  have hB := hO.1
  have L : ∀ k, k ≤ 12 → nShort (D 352) p (12 - k) k = nShort (D 352) p 12 0 → xV γ 12 [some (.ref 351), some (vi p), some (vi (k : Nat))] [] (356, z) D r := by
    refine xup 12 (fun k hk ih => ?_)
    intro hE
    refine v_iload_n (q := 13) hX dX5_firstShort_12 rfl rfl rfl ?_
    refine v_bipush (q := 15) hX (by decide) dX5_firstShort_13 rfl ?_
    refine v_icmp_ge (q := 18) (tgt := 37) hX ⟨by omega, by omega⟩ (by decide) dX5_firstShort_15 (by decide) rfl (fun h15 => ?_) (fun h15 => ?_)
    · refine v_bipush (q := 39) hX (by decide) dX5_firstShort_37 rfl ?_
      refine v_ireturn hX hRX rfl (by first | rfl | exact bi_nar _) dX5_firstShort_39 rfl ?_
      exact ⟨by rw [← hE, show 12 - k = 0 by omega]; rfl, rfl, rfl⟩
    · have q1 := nPj_le hO hp (k + 1) (by omega)
      refine v_aload_n (q := 19) hX dX5_firstShort_18 rfl rfl rfl ?_
      refine v_iload_n (q := 20) hX dX5_firstShort_19 rfl rfl rfl ?_
      refine v_iload_n (q := 21) hX dX5_firstShort_20 rfl rfl rfl ?_
      refine w_callV (q := 24) hX (c_X5_project _ _ hr hO (p) (k) (by omega) (by omega)) rfl kV_X5_project rfl (by decide) lk_X5_101 (by decide) rfl oX5 (Nat.le_of_ble_eq_true rfl) dX5_firstShort_21 rfl ?_
      refine v_lconst (q := 25) (e := 0) hX (by decide) dX5_firstShort_24 rfl ?_
      refine v_lcmp_ge (q := 29) (tgt := 31) hX ⟨by omega, by omega⟩ (by decide) dX5_firstShort_25 dX5_firstShort_26 (by decide) rfl (fun h25 => ?_) (fun h25 => ?_)
      · refine v_iinc (q := 34) hX dX5_firstShort_31 rfl (Nat.le_of_ble_eq_true rfl) (Nat.le_of_ble_eq_true rfl) rfl ?_
        dsimp only [xs1, xs2, xclr]
        refine v_goto (tgt := 12) hX dX5_firstShort_34 (by decide) ?_
        exact ih (by omega) (by rw [← hE, show 12 - k = (12 - (k + 1)) + 1 by omega, nShort, if_neg (by omega)])
      · refine v_iload_n (q := 30) hX dX5_firstShort_29 rfl rfl rfl ?_
        refine v_ireturn hX hRX rfl (by first | rfl | exact bi_nar _) dX5_firstShort_30 rfl ?_
        exact ⟨by rw [← hE, show 12 - k = (11 - k) + 1 by omega, nShort, if_pos h25], rfl, rfl⟩
  refine v_aload_n (q := 1) hX dX5_firstShort_0 rfl rfl rfl ?_
  refine v_iload_n (q := 2) hX dX5_firstShort_1 rfl rfl rfl ?_
  refine w_callV (q := 5) hX (c_X5_isProduct _ _ hr _ ⟨by omega, by omega⟩ (by omega)) rfl kV_X5_isProduct rfl (by decide) lk_X5_127 (by decide) rfl oX5 (Nat.le_of_ble_eq_true rfl) dX5_firstShort_2 rfl ?_
  refine w_ifne (q := 8) (tgt := 10) hX dX5_firstShort_5 (by decide) rfl (fun h5 => ?_) (fun h5 => ?_)
  · refine v_iconst (q := 11) hX dX5_firstShort_10 rfl ?_
    refine v_istore_n (q := 12) hX dX5_firstShort_11 rfl (Nat.le_of_ble_eq_true rfl) (Nat.le_of_ble_eq_true rfl) rfl ?_
    dsimp only [xs1, xs2, xclr]
    exact L 0 (Nat.zero_le _) rfl
  · exact absurd h5 (by omega)

set_option maxRecDepth 100000 in
set_option maxHeartbeats 4000000 in
theorem c_X5_lasts_no {z : Nat} (D : xD) (r : xR) (hr : xRM r) {np : Nat} (hn : D 352 1 = (np : Int) ∧ np ≤ 10) (p : Int) (hp : xI p) (he : ¬ (0 ≤ p ∧ p < (np : Int))) : MX 2 mX5_lasts [.ref 351, vi p] (356, z) D r (356, z) (xP (vi (-1)) D r) := by
  refine MX.of (by decide +kernel) [some (.ref 351), some (vi p), none, none, none] rfl (Nat.le_of_ble_eq_true rfl) ?_
  intro γ hX hRX
  refine v_aload_n (q := 1) hX dX5_lasts_0 rfl rfl rfl ?_
  refine v_iload_n (q := 2) hX dX5_lasts_1 rfl rfl rfl ?_
  refine w_callV (q := 5) hX (c_X5_isProduct _ _ hr _ ⟨by omega, by omega⟩ (by omega)) rfl kV_X5_isProduct rfl (by decide) lk_X5_127 (by decide) rfl oX5 (Nat.le_of_ble_eq_true rfl) dX5_lasts_2 rfl ?_
  refine w_ifne (q := 8) (tgt := 10) hX dX5_lasts_5 (by decide) rfl (fun h5 => ?_) (fun h5 => ?_)
  · exact absurd h5 (by omega)
  · refine v_iconst (q := 9) hX dX5_lasts_8 rfl ?_
    refine v_ireturn hX hRX rfl (by first | rfl | exact bi_nar _) dX5_lasts_9 rfl ?_
    exact ⟨rfl, rfl, rfl⟩

set_option maxRecDepth 100000 in
set_option maxHeartbeats 4000000 in
theorem c_X5_lasts {z : Nat} (D : xD) (r : xR) (hr : xRM r) {B : Int} {np : Nat} (hO : nOk B np (D 352)) (p : Nat) (hp : p < np) : MX 2 mX5_lasts [.ref 351, vi p] (356, z) D r (356, z) (xP (vi ((nLasts (D 352) p 12 0 (pF (D 352) p 4 - pF (D 352) p 5) : Nat) : Int)) D r) := by
  refine MX.of (by decide +kernel) [some (.ref 351), some (vi p), none, none, none] rfl (Nat.le_of_ble_eq_true rfl) ?_
  intro γ hX hRX
  have hn := hO.np
  have hB := hO.1
  obtain ⟨-, -, -, -, a4, a5, -⟩ := hO.2.2.2.2.2 p hp
  have L : ∀ k : Nat, k ≤ 12 → ∀ x : Int, -B - 1000 * (k : Int) ≤ x ∧ x ≤ B → nLasts (D 352) p (12 - k) k x = nLasts (D 352) p 12 0 (pF (D 352) p 4 - pF (D 352) p 5) → xV γ 27 [some (.ref 351), some (vi p), some (vl x), none, some (vi (k : Nat))] [] (356, z) D r := by
    refine xup 12 (fun k hk ih => ?_)
    intro x hx hE
    refine v_iload (q := 29) hX dX5_lasts_27 rfl rfl ?_
    refine v_bipush (q := 31) hX (by decide) dX5_lasts_29 rfl ?_
    refine v_icmp_ge (q := 34) (tgt := 68) hX ⟨by omega, by omega⟩ (by decide) dX5_lasts_31 (by decide) rfl (fun h31 => ?_) (fun h31 => ?_)
    · refine v_iload (q := 70) hX dX5_lasts_68 rfl rfl ?_
      refine v_ireturn hX hRX rfl (by first | rfl | exact bi_nar _) dX5_lasts_70 rfl ?_
      exact ⟨by rw [← hE]; first | rw [show 12 - k = 0 by omega]; rfl | (rw [show 12 - k = (11 - k) + 1 by omega, nLasts, if_neg (by omega)]), rfl, rfl⟩
    · have q1 := hO.fc hp (k := k) (by omega)
      refine v_lload_n (q := 35) hX dX5_lasts_34 rfl rfl rfl ?_
      refine v_aload_n (q := 36) hX dX5_lasts_35 rfl rfl rfl ?_
      refine v_iload_n (q := 37) hX dX5_lasts_36 rfl rfl rfl ?_
      refine v_bipush (q := 39) hX (by decide) dX5_lasts_37 rfl ?_
      refine v_iload (q := 41) hX dX5_lasts_39 rfl rfl ?_
      refine v_iadd (q := 42) hX dX5_lasts_41 rfl ?_
      refine w_callV (q := 45) hX (c_X5_ofP _ _ hr (p) ((12 + k)) (by omega)) rfl kV_X5_ofP rfl (by decide) lk_X5_78 (by decide) rfl oX5 (Nat.le_of_ble_eq_true rfl) dX5_lasts_42 rfl ?_
      refine v_lcmp_lt (q := 49) (tgt := 68) hX ⟨by omega, by omega⟩ ⟨by omega, by omega⟩ dX5_lasts_45 dX5_lasts_46 (by decide) rfl (fun h45 => ?_) (fun h45 => ?_)
      · refine v_iload (q := 70) hX dX5_lasts_68 rfl rfl ?_
        refine v_ireturn hX hRX rfl (by first | rfl | exact bi_nar _) dX5_lasts_70 rfl ?_
        exact ⟨by rw [← hE]; first | rw [show 12 - k = 0 by omega]; rfl | (rw [show 12 - k = (11 - k) + 1 by omega, nLasts, if_neg (by omega)]), rfl, rfl⟩
      · refine v_lload_n (q := 50) hX dX5_lasts_49 rfl rfl rfl ?_
        refine v_aload_n (q := 51) hX dX5_lasts_50 rfl rfl rfl ?_
        refine v_iload_n (q := 52) hX dX5_lasts_51 rfl rfl rfl ?_
        refine v_bipush (q := 54) hX (by decide) dX5_lasts_52 rfl ?_
        refine v_iload (q := 56) hX dX5_lasts_54 rfl rfl ?_
        refine v_iadd (q := 57) hX dX5_lasts_56 rfl ?_
        refine w_callV (q := 60) hX (c_X5_ofP _ _ hr (p) ((12 + k)) (by omega)) rfl kV_X5_ofP rfl (by decide) lk_X5_78 (by decide) rfl oX5 (Nat.le_of_ble_eq_true rfl) dX5_lasts_57 rfl ?_
        refine v_lsub (q := 61) hX dX5_lasts_60 rfl ?_
        refine v_lstore_n (q := 62) hX dX5_lasts_61 rfl (Nat.le_of_ble_eq_true rfl) (Nat.le_of_ble_eq_true rfl) rfl ?_
        dsimp only [xs1, xs2, xclr]
        refine v_iinc (q := 65) hX dX5_lasts_62 rfl (Nat.le_of_ble_eq_true rfl) (Nat.le_of_ble_eq_true rfl) rfl ?_
        dsimp only [xs1, xs2, xclr]
        refine v_goto (tgt := 27) hX dX5_lasts_65 (by decide) ?_
        exact ih (by omega) _ (by omega) (by rw [← hE, show 12 - k = (12 - (k + 1)) + 1 by omega, nLasts, if_pos h45])
  refine v_aload_n (q := 1) hX dX5_lasts_0 rfl rfl rfl ?_
  refine v_iload_n (q := 2) hX dX5_lasts_1 rfl rfl rfl ?_
  refine w_callV (q := 5) hX (c_X5_isProduct _ _ hr _ ⟨by omega, by omega⟩ (by omega)) rfl kV_X5_isProduct rfl (by decide) lk_X5_127 (by decide) rfl oX5 (Nat.le_of_ble_eq_true rfl) dX5_lasts_2 rfl ?_
  refine w_ifne (q := 8) (tgt := 10) hX dX5_lasts_5 (by decide) rfl (fun h5 => ?_) (fun h5 => ?_)
  · refine v_aload_n (q := 11) hX dX5_lasts_10 rfl rfl rfl ?_
    refine v_iload_n (q := 12) hX dX5_lasts_11 rfl rfl rfl ?_
    refine v_iconst (q := 13) hX dX5_lasts_12 rfl ?_
    refine w_callV (q := 16) hX (c_X5_ofP _ _ hr (p) (4) (by omega)) rfl kV_X5_ofP rfl (by decide) lk_X5_78 (by decide) rfl oX5 (Nat.le_of_ble_eq_true rfl) dX5_lasts_13 rfl ?_
    refine v_aload_n (q := 17) hX dX5_lasts_16 rfl rfl rfl ?_
    refine v_iload_n (q := 18) hX dX5_lasts_17 rfl rfl rfl ?_
    refine v_iconst (q := 19) hX dX5_lasts_18 rfl ?_
    refine w_callV (q := 22) hX (c_X5_ofP _ _ hr (p) (5) (by omega)) rfl kV_X5_ofP rfl (by decide) lk_X5_78 (by decide) rfl oX5 (Nat.le_of_ble_eq_true rfl) dX5_lasts_19 rfl ?_
    refine v_lsub (q := 23) hX dX5_lasts_22 rfl ?_
    refine v_lstore_n (q := 24) hX dX5_lasts_23 rfl (Nat.le_of_ble_eq_true rfl) (Nat.le_of_ble_eq_true rfl) rfl ?_
    dsimp only [xs1, xs2, xclr]
    refine v_iconst (q := 25) hX dX5_lasts_24 rfl ?_
    refine v_istore (q := 27) hX dX5_lasts_25 (Nat.le_of_ble_eq_true rfl) (Nat.le_of_ble_eq_true rfl) rfl ?_
    dsimp only [xs1, xs2, xclr]
    exact L 0 (Nat.zero_le _) (pF (D 352) p 4 - pF (D 352) p 5) (by omega) rfl
  · exact absurd h5 (by omega)

