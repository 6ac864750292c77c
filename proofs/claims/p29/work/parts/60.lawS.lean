/-! ===== the law: what it asks ===== -/
theorem nSum_le {B : Int} {np : Nat} {N : Nat → Int} (h : nOk B np N) {i : Nat} (hi : i = 4 ∨ i = 5) : ∀ p : Nat, p ≤ np → 0 ≤ nSum N i p ∧ nSum N i p ≤ B * p := by
  intro p
  induction p with
  | zero => intro _; unfold nSum; omega
  | succ p ih =>
    intro hp
    have a := ih (by omega)
    obtain ⟨-, -, -, -, a4, a5, -⟩ := h.2.2.2.2.2 p (by omega)
    have : 0 ≤ pF N p i ∧ pF N p i ≤ B := by rcases hi with rfl | rfl <;> assumption
    have e : B * ((p + 1 : Nat) : Int) = B * (p : Int) + B := by rw [Int.natCast_add, Int.mul_add]; simp
    unfold nSum; omega
/-- what count tells, at a history of s states -/
def cn (N : Nat → Int) (np s u : Nat) : Int := nCnt (fun i => if i = 3 then (s : Int) else 0) N np u
theorem cn_s (N : Nat → Int) (np s s' : Nat) {u : Nat} (hu : u ≠ 9) (hu2 : u < 23) : cn N np s u = cn N np s' u := by
  unfold cn nCnt
  split
  · rfl
  split
  · rfl
  split
  · rfl
  split
  · rfl
  split
  · rfl
  split
  · rfl
  omega
section ASK
variable {z : Nat} {D : xD} {r : xR} {N : Nat → Int} {np s : Nat} {K : Nat → Nat → Int} {q : Nat → Nat} {B : Int}
theorem c_cnt (h : Jc D r N np s K q) (hG : GS B N np) (u : Nat) (hu : u < 23) : MX 2 mX4_count [.ref 4, vi u] (351, z) D r (351, z) (xP (vl (cn N np s u)) D r) := by
  obtain ⟨hF, hC, ⟨π, hI⟩, hz, hp⟩ := h
  have h0 := hG.1.2
  have hB := hG.1.1.1.1.2
  have h6 := hI.2.2.1
  refine c_X4_count D r hF hC hG.np hG.1.1.1 ⟨h0.1, by omega⟩ (G := fun i => if i = 3 then (s : Int) else 0) hp (by rw [hI.2.1]; rfl) ⟨⟨?_, ?_⟩, ?_, ?_⟩ u hu
  · show 0 ≤ (s : Int); omega
  · show (s : Int) ≤ 6; omega
  · show (0 : Int) ≤ 0; decide
  · show (0 : Int) ≤ 80; decide
theorem c_of (h : Jc D r N np s K q) (hG : GS B N np) (p w : Nat) (hp : p < np) (hw : w < 13) : MX 1 mX4_ofProduct [.ref 4, vi p, vi w] (351, z) D r (351, z) (xP (vi (nOf N p w)) D r) := c_X4_ofProduct D r h.1 h.2.1 hG.np hG.1.1.1 p w hp hw
theorem c_at0 (h : Jc D r N np s K q) (hG : GS B N np) (p w : Nat) (hp : p < np) (hw : w < 12) : MX 1 mX4_at [.ref 4, vi p, vi w, vi 0] (351, z) D r (351, z) (xP (vi (pF N p (12 + w))) D r) := c_X4_at D r h.1 h.2.1 hG.np p w 0 hp hw (by decide)
theorem c_at1 (h : Jc D r N np s K q) (hG : GS B N np) (p w : Nat) (hp : p < np) (hw : w < 12) : MX 1 mX4_at [.ref 4, vi p, vi w, vi 1] (351, z) D r (351, z) (xP (vi (pF N p (24 + w))) D r) := c_X4_at D r h.1 h.2.1 hG.np p w 1 hp hw (by decide)
end ASK
theorem nOf_x {B : Int} {N : Nat → Int} {np : Nat} (hG : GS B N np) {p w : Nat} (hp : p < np) (hw : w < 8) : xI (nOf N p w) := by
  have h := hG.1.1.1.2.2.2.2.2 p hp
  have hB := hG.1.1.1.1.2
  have hc := nCov_le hG.1.1.1 hp
  obtain ⟨a0, a1, a2, a3, a4, a5, a6, a7, -⟩ := h
  unfold nOf
  split
  · rename_i h7
    have h7 : w = 0 ∨ w = 1 ∨ w = 2 ∨ w = 3 ∨ w = 4 ∨ w = 5 ∨ w = 6 := by omega
    rcases h7 with rfl | rfl | rfl | rfl | rfl | rfl | rfl <;> exact ⟨by omega, by omega⟩
  split
  · exact ⟨by omega, by omega⟩
  · omega
/-- all that can be asked for, as a number -/
def vwC (N : Nat → Int) (np : Nat) : Nat → Int
  | 0 => 7
  | k + 1 => if k = 8 ∨ k = 9 then vwC N np k else 31 * vwC N np k + cn N np 0 k
def vwP (N : Nat → Int) (p : Nat) (v : Int) : Nat → Int
  | 0 => v
  | k + 1 => 31 * vwP N p v k + (Int32.ofInt (nOf N p k)).toInt
def vwW (N : Nat → Int) (p : Nat) (v : Int) : Nat → Int
  | 0 => v
  | k + 1 => 31 * (31 * vwW N p v k + pF N p (12 + k)) + pF N p (24 + k)
def vwA (N : Nat → Int) (np : Nat) : Nat → Int
  | 0 => vwC N np 23
  | p + 1 => vwW N p (vwP N p (vwA N np p) 13) 12
def vw (N : Nat → Int) (np : Nat) : Int := vwA N np np
def fzW (N : Nat → Int) (p : Nat) (v : Int) : Nat → Int
  | 0 => v
  | w + 1 => 31 * fzW N p v w + pF N p (24 + w)
def fzA (N : Nat → Int) (f : Nat) : Nat → Int
  | 0 => 7
  | p + 1 => fzW N p (fzA N f p) f
/-- the lots ahead of the fence, as a number -/
def frz (N : Nat → Int) (np : Nat) : Int := fzA N (N 7).toNat np
theorem frz_eq {N N' : Nat → Int} {np : Nat} (h7 : N' 7 = N 7) (h : ∀ p w, p < np → w < (N 7).toNat → pF N' p (24 + w) = pF N p (24 + w)) : frz N' np = frz N np := by
  have g : ∀ p, p < np → ∀ v k, k ≤ (N 7).toNat → fzW N' p v k = fzW N p v k := by
    intro p hp v k
    induction k with
    | zero => intro _; rfl
    | succ k ih => intro hk; unfold fzW; rw [ih (by omega), h p k hp (by omega)]
  have g2 : ∀ p, p ≤ np → fzA N' (N 7).toNat p = fzA N (N 7).toNat p := by
    intro p
    induction p with
    | zero => intro _; rfl
    | succ p ih => intro hp; unfold fzA; rw [ih (by omega), g p (by omega) _ _ (Nat.le_refl _)]
  unfold frz
  rw [h7]
  exact g2 np (Nat.le_refl _)

set_option maxRecDepth 100000 in
set_option maxHeartbeats 4000000 in
theorem c_L_view {z : Nat} {D : xD} {r : xR} {N : Nat → Int} {np s : Nat} {K : Nat → Nat → Int} {q : Nat → Nat} {B : Int} (h : Jc D r N np s K q) (hG : GS B N np) : MX 3 mL_view [.ref 4] (351, z) D r (351, z) (xP (vl (vw N np)) D r) := by
  refine MX.of (by decide +kernel) [some (.ref 4), none, none, none, none] rfl (Nat.le_of_ble_eq_true rfl) ?_
  intro γ hX hRX
  have hnp := hG.np
  have e1 : cn N np s 1 = (np : Int) := hG.1.1.1.2.1
  have L2 : ∀ p, p ≤ np → ∀ x4 : Option Value, xV γ 48 [some (.ref 4), some (vl (vwA N np p)), none, some (vi (p : Nat)), x4] [] (351, z) D r := by
    refine xup np (fun p hp ih x4 => ?_)
    have L4 : p < np → ∀ k, k ≤ 12 → xV γ 93 [some (.ref 4), some (vl (vwW N p (vwP N p (vwA N np p) 13) k)), none, some (vi (p : Nat)), some (vi (k : Nat))] [] (351, z) D r := by
      intro hpn
      refine xup 12 (fun k hk ih4 => ?_)
      refine v_iload (q := 95) hX dL_view_93 rfl rfl ?_
      refine v_bipush (q := 97) hX (by decide) dL_view_95 rfl ?_
      refine v_icmp_ge (q := 100) (tgt := 136) hX ⟨by omega, by omega⟩ ⟨by omega, by omega⟩ dL_view_97 (by decide) rfl (fun hx_97 => ?_) (fun hx_97 => ?_)
      · refine v_iinc (q := 139) hX dL_view_136 rfl (Nat.le_of_ble_eq_true rfl) (Nat.le_of_ble_eq_true rfl) rfl ?_
        dsimp only [xs1, xs2, xclr]
        refine v_goto (tgt := 48) hX dL_view_139 (by decide) ?_
        have hk12 : k = 12 := by omega
        subst hk12
        exact ih hpn _
      · refine v_ldc2 (q := 103) (e := 31) hX (by decide) kl_L_11 dL_view_100 rfl ?_
        refine v_ldc2 (q := 106) (e := 31) hX (by decide) kl_L_11 dL_view_103 rfl ?_
        refine v_lload_n (q := 107) hX dL_view_106 rfl rfl rfl ?_
        refine v_lmul (q := 108) hX dL_view_107 rfl ?_
        refine v_aload_n (q := 109) hX dL_view_108 rfl rfl rfl ?_
        refine v_iload_n (q := 110) hX dL_view_109 rfl rfl rfl ?_
        refine v_iload (q := 112) hX dL_view_110 rfl rfl ?_
        refine v_iconst (q := 113) hX dL_view_112 rfl ?_
        refine w_callV (q := 116) hX (c_at0 h hG p k hpn (by omega)) rfl kV_X4_at rfl (by decide) lk_L_23 (by decide) rfl oLF (Nat.le_of_ble_eq_true rfl) dL_view_113 rfl ?_
        refine v_i2l (q := 117) hX (by have := hG.1.1.1.fc (p := p) (k := k) hpn (by omega); exact ⟨by omega, by omega⟩) dL_view_116 rfl ?_
        refine v_ladd (q := 118) hX dL_view_117 rfl ?_
        refine v_lmul (q := 119) hX dL_view_118 rfl ?_
        refine v_aload_n (q := 120) hX dL_view_119 rfl rfl rfl ?_
        refine v_iload_n (q := 121) hX dL_view_120 rfl rfl rfl ?_
        refine v_iload (q := 123) hX dL_view_121 rfl rfl ?_
        refine v_iconst (q := 124) hX dL_view_123 rfl ?_
        refine w_callV (q := 127) hX (c_at1 h hG p k hpn (by omega)) rfl kV_X4_at rfl (by decide) lk_L_23 (by decide) rfl oLF (Nat.le_of_ble_eq_true rfl) dL_view_124 rfl ?_
        refine v_i2l (q := 128) hX (by have := hG.1.1.1.lots (p := p) (k := k) hpn (by omega); exact ⟨by omega, by omega⟩) dL_view_127 rfl ?_
        refine v_ladd (q := 129) hX dL_view_128 rfl ?_
        refine v_lstore_n (q := 130) hX dL_view_129 rfl (Nat.le_of_ble_eq_true rfl) (Nat.le_of_ble_eq_true rfl) rfl ?_
        dsimp only [xs1, xs2, xclr]
        refine v_iinc (q := 133) hX dL_view_130 rfl (Nat.le_of_ble_eq_true rfl) (Nat.le_of_ble_eq_true rfl) rfl ?_
        dsimp only [xs1, xs2, xclr]
        refine v_goto (tgt := 93) hX dL_view_133 (by decide) ?_
        exact ih4 (by omega)
    have L3 : p < np → ∀ k, k ≤ 13 → xV γ 62 [some (.ref 4), some (vl (vwP N p (vwA N np p) k)), none, some (vi (p : Nat)), some (vi (k : Nat))] [] (351, z) D r := by
      intro hpn
      refine xup 13 (fun k hk ih3 => ?_)
      refine v_iload (q := 64) hX dL_view_62 rfl rfl ?_
      refine v_bipush (q := 66) hX (by decide) dL_view_64 rfl ?_
      refine v_icmp_ge (q := 69) (tgt := 90) hX ⟨by omega, by omega⟩ ⟨by omega, by omega⟩ dL_view_66 (by decide) rfl (fun hx_66 => ?_) (fun hx_66 => ?_)
      · refine v_iconst (q := 91) hX dL_view_90 rfl ?_
        refine v_istore (q := 93) hX dL_view_91 (Nat.le_of_ble_eq_true rfl) (Nat.le_of_ble_eq_true rfl) rfl ?_
        dsimp only [xs1, xs2, xclr]
        have hk13 : k = 13 := by omega
        subst hk13
        exact L4 hpn 0 (by decide)
      · refine v_ldc2 (q := 72) (e := 31) hX (by decide) kl_L_11 dL_view_69 rfl ?_
        refine v_lload_n (q := 73) hX dL_view_72 rfl rfl rfl ?_
        refine v_lmul (q := 74) hX dL_view_73 rfl ?_
        refine v_aload_n (q := 75) hX dL_view_74 rfl rfl rfl ?_
        refine v_iload_n (q := 76) hX dL_view_75 rfl rfl rfl ?_
        refine v_iload (q := 78) hX dL_view_76 rfl rfl ?_
        refine w_callV (q := 81) hX (c_of h hG p k hpn (by omega)) rfl kV_X4_ofProduct rfl (by decide) lk_L_19 (by decide) rfl oLF (Nat.le_of_ble_eq_true rfl) dL_view_78 rfl ?_
        rw [vi_nm (nOf N p k)]
        refine v_i2l (q := 82) hX (x32 _) dL_view_81 rfl ?_
        refine v_ladd (q := 83) hX dL_view_82 rfl ?_
        refine v_lstore_n (q := 84) hX dL_view_83 rfl (Nat.le_of_ble_eq_true rfl) (Nat.le_of_ble_eq_true rfl) rfl ?_
        dsimp only [xs1, xs2, xclr]
        refine v_iinc (q := 87) hX dL_view_84 rfl (Nat.le_of_ble_eq_true rfl) (Nat.le_of_ble_eq_true rfl) rfl ?_
        dsimp only [xs1, xs2, xclr]
        refine v_goto (tgt := 62) hX dL_view_87 (by decide) ?_
        exact ih3 (by omega)
    refine v_iload_n (q := 49) hX dL_view_48 rfl rfl rfl ?_
    refine v_i2l (q := 50) hX ⟨by omega, by omega⟩ dL_view_49 rfl ?_
    refine v_aload_n (q := 51) hX dL_view_50 rfl rfl rfl ?_
    refine v_iconst (q := 52) hX dL_view_51 rfl ?_
    refine w_callV (q := 55) hX (c_cnt h hG 1 (by decide)) rfl kV_X4_count rfl (by decide) lk_L_13 (by decide) rfl oLF (Nat.le_of_ble_eq_true rfl) dL_view_52 rfl ?_
    rw [e1]
    refine v_lcmp_ge (q := 59) (tgt := 142) hX ⟨by omega, by omega⟩ ⟨by omega, by omega⟩ dL_view_55 dL_view_56 (by decide) rfl (fun hx_55 => ?_) (fun hx_55 => ?_)
    · refine v_lload_n (q := 143) hX dL_view_142 rfl rfl rfl ?_
      refine v_lreturn hX hRX rfl dL_view_143 rfl ?_
      have hpn : p = np := by omega
      subst hpn
      exact ⟨rfl, rfl, rfl⟩
    · refine v_iconst (q := 60) hX dL_view_59 rfl ?_
      refine v_istore (q := 62) hX dL_view_60 (Nat.le_of_ble_eq_true rfl) (Nat.le_of_ble_eq_true rfl) rfl ?_
      dsimp only [xs1, xs2, xclr]
      exact L3 (by omega) 0 (by decide)
  have L1 : ∀ k, k ≤ 23 → xV γ 6 [some (.ref 4), some (vl (vwC N np k)), none, some (vi (k : Nat)), none] [] (351, z) D r := by
    refine xup 23 (fun k hk ih => ?_)
    have K39 : k < 23 → ∀ v, vwC N np (k + 1) = v → xV γ 39 [some (.ref 4), some (vl (vwC N np k)), none, some (vi (k : Nat)), none] [vl v] (351, z) D r := by
      intro hk23 v hv
      subst hv
      refine v_lstore_n (q := 40) hX dL_view_39 rfl (Nat.le_of_ble_eq_true rfl) (Nat.le_of_ble_eq_true rfl) rfl ?_
      dsimp only [xs1, xs2, xclr]
      refine v_iinc (q := 43) hX dL_view_40 rfl (Nat.le_of_ble_eq_true rfl) (Nat.le_of_ble_eq_true rfl) rfl ?_
      dsimp only [xs1, xs2, xclr]
      refine v_goto (tgt := 6) hX dL_view_43 (by decide) ?_
      exact ih hk23
    refine v_iload_n (q := 7) hX dL_view_6 rfl rfl rfl ?_
    refine v_bipush (q := 9) hX (by decide) dL_view_7 rfl ?_
    refine v_icmp_ge (q := 12) (tgt := 46) hX ⟨by omega, by omega⟩ ⟨by omega, by omega⟩ dL_view_9 (by decide) rfl (fun hx_9 => ?_) (fun hx_9 => ?_)
    · refine v_iconst (q := 47) hX dL_view_46 rfl ?_
      refine v_istore_n (q := 48) hX dL_view_47 rfl (Nat.le_of_ble_eq_true rfl) (Nat.le_of_ble_eq_true rfl) rfl ?_
      dsimp only [xs1, xs2, xclr]
      have hk23 : k = 23 := by omega
      subst hk23
      exact L2 0 (Nat.zero_le _) _
    · refine v_iload_n (q := 13) hX dL_view_12 rfl rfl rfl ?_
      refine v_bipush (q := 15) hX (by decide) dL_view_13 rfl ?_
      refine v_icmp_eq (q := 18) (tgt := 24) hX ⟨by omega, by omega⟩ ⟨by omega, by omega⟩ dL_view_15 (by decide) rfl (fun hx_15 => ?_) (fun hx_15 => ?_)
      · refine v_lload_n (q := 25) hX dL_view_24 rfl rfl rfl ?_
        refine v_goto (tgt := 39) hX dL_view_25 (by decide) ?_
        exact K39 (by omega) _ (by first | exact if_pos (by omega) | (rw [cn_s N np s 0 (by omega) (by omega)]; exact if_neg (by omega)))
      · refine v_iload_n (q := 19) hX dL_view_18 rfl rfl rfl ?_
        refine v_bipush (q := 21) hX (by decide) dL_view_19 rfl ?_
        refine v_icmp_ne (q := 24) (tgt := 28) hX ⟨by omega, by omega⟩ ⟨by omega, by omega⟩ dL_view_21 (by decide) rfl (fun hx_21 => ?_) (fun hx_21 => ?_)
        · refine v_ldc2 (q := 31) (e := 31) hX (by decide) kl_L_11 dL_view_28 rfl ?_
          refine v_lload_n (q := 32) hX dL_view_31 rfl rfl rfl ?_
          refine v_lmul (q := 33) hX dL_view_32 rfl ?_
          refine v_aload_n (q := 34) hX dL_view_33 rfl rfl rfl ?_
          refine v_iload_n (q := 35) hX dL_view_34 rfl rfl rfl ?_
          refine w_callV (q := 38) hX (c_cnt h hG k (by omega)) rfl kV_X4_count rfl (by decide) lk_L_13 (by decide) rfl oLF (Nat.le_of_ble_eq_true rfl) dL_view_35 rfl ?_
          refine v_ladd (q := 39) hX dL_view_38 rfl ?_
          exact K39 (by omega) _ (by first | exact if_pos (by omega) | (rw [cn_s N np s 0 (by omega) (by omega)]; exact if_neg (by omega)))
        · refine v_lload_n (q := 25) hX dL_view_24 rfl rfl rfl ?_
          refine v_goto (tgt := 39) hX dL_view_25 (by decide) ?_
          exact K39 (by omega) _ (by first | exact if_pos (by omega) | (rw [cn_s N np s 0 (by omega) (by omega)]; exact if_neg (by omega)))
  refine v_ldc2 (q := 3) (e := 7) hX (by decide) kl_L_9 dL_view_0 rfl ?_
  refine v_lstore_n (q := 4) hX dL_view_3 rfl (Nat.le_of_ble_eq_true rfl) (Nat.le_of_ble_eq_true rfl) rfl ?_
  dsimp only [xs1, xs2, xclr]
  refine v_iconst (q := 5) hX dL_view_4 rfl ?_
  refine v_istore_n (q := 6) hX dL_view_5 rfl (Nat.le_of_ble_eq_true rfl) (Nat.le_of_ble_eq_true rfl) rfl ?_
  dsimp only [xs1, xs2, xclr]
  exact L1 0 (by decide)

set_option maxRecDepth 100000 in
set_option maxHeartbeats 4000000 in
theorem c_L_frozen {z : Nat} {D : xD} {r : xR} {N : Nat → Int} {np s : Nat} {K : Nat → Nat → Int} {q : Nat → Nat} {B : Int} (h : Jc D r N np s K q) (hG : GS B N np) : MX 3 mL_frozen [.ref 4] (351, z) D r (351, z) (xP (vl (frz N np)) D r) := by
  refine MX.of (by decide +kernel) [some (.ref 4), none, none, none, none] rfl (Nat.le_of_ble_eq_true rfl) ?_
  intro γ hX hRX
  have hnp := hG.np
  have e1 : cn N np s 1 = (np : Int) := hG.1.1.1.2.1
  obtain ⟨f, h7, hf⟩ := hG.1.f
  have hft : (N 7).toNat = f := by rw [h7]; rfl
  have e12 : cn N np s 12 = (f : Int) := h7
  have L2 : ∀ p, p ≤ np → ∀ x4 : Option Value, xV γ 6 [some (.ref 4), some (vl (fzA N f p)), none, some (vi (p : Nat)), x4] [] (351, z) D r := by
    refine xup np (fun p hp ih x4 => ?_)
    have L3 : p < np → ∀ k, k ≤ f → xV γ 20 [some (.ref 4), some (vl (fzW N p (fzA N f p) k)), none, some (vi (p : Nat)), some (vi (k : Nat))] [] (351, z) D r := by
      intro hpn
      refine xup f (fun k hk ih3 => ?_)
      refine v_iload (q := 22) hX dL_frozen_20 rfl rfl ?_
      refine v_i2l (q := 23) hX ⟨by omega, by omega⟩ dL_frozen_22 rfl ?_
      refine v_aload_n (q := 24) hX dL_frozen_23 rfl rfl rfl ?_
      refine v_bipush (q := 26) hX (by decide) dL_frozen_24 rfl ?_
      refine w_callV (q := 29) hX (c_cnt h hG 12 (by decide)) rfl kV_X4_count rfl (by decide) lk_L_13 (by decide) rfl oLF (Nat.le_of_ble_eq_true rfl) dL_frozen_26 rfl ?_
      rw [e12]
      refine v_lcmp_ge (q := 33) (tgt := 55) hX ⟨by omega, by omega⟩ ⟨by omega, by omega⟩ dL_frozen_29 dL_frozen_30 (by decide) rfl (fun hx_29 => ?_) (fun hx_29 => ?_)
      · refine v_iinc (q := 58) hX dL_frozen_55 rfl (Nat.le_of_ble_eq_true rfl) (Nat.le_of_ble_eq_true rfl) rfl ?_
        dsimp only [xs1, xs2, xclr]
        refine v_goto (tgt := 6) hX dL_frozen_58 (by decide) ?_
        have hkf : k = f := by omega
        subst hkf
        exact ih hpn _
      · refine v_ldc2 (q := 36) (e := 31) hX (by decide) kl_L_11 dL_frozen_33 rfl ?_
        refine v_lload_n (q := 37) hX dL_frozen_36 rfl rfl rfl ?_
        refine v_lmul (q := 38) hX dL_frozen_37 rfl ?_
        refine v_aload_n (q := 39) hX dL_frozen_38 rfl rfl rfl ?_
        refine v_iload_n (q := 40) hX dL_frozen_39 rfl rfl rfl ?_
        refine v_iload (q := 42) hX dL_frozen_40 rfl rfl ?_
        refine v_iconst (q := 43) hX dL_frozen_42 rfl ?_
        refine w_callV (q := 46) hX (c_at1 h hG p k hpn (by omega)) rfl kV_X4_at rfl (by decide) lk_L_23 (by decide) rfl oLF (Nat.le_of_ble_eq_true rfl) dL_frozen_43 rfl ?_
        refine v_i2l (q := 47) hX (by have := hG.1.1.1.lots (p := p) (k := k) hpn (by omega); exact ⟨by omega, by omega⟩) dL_frozen_46 rfl ?_
        refine v_ladd (q := 48) hX dL_frozen_47 rfl ?_
        refine v_lstore_n (q := 49) hX dL_frozen_48 rfl (Nat.le_of_ble_eq_true rfl) (Nat.le_of_ble_eq_true rfl) rfl ?_
        dsimp only [xs1, xs2, xclr]
        refine v_iinc (q := 52) hX dL_frozen_49 rfl (Nat.le_of_ble_eq_true rfl) (Nat.le_of_ble_eq_true rfl) rfl ?_
        dsimp only [xs1, xs2, xclr]
        refine v_goto (tgt := 20) hX dL_frozen_52 (by decide) ?_
        exact ih3 (by omega)
    refine v_iload_n (q := 7) hX dL_frozen_6 rfl rfl rfl ?_
    refine v_i2l (q := 8) hX ⟨by omega, by omega⟩ dL_frozen_7 rfl ?_
    refine v_aload_n (q := 9) hX dL_frozen_8 rfl rfl rfl ?_
    refine v_iconst (q := 10) hX dL_frozen_9 rfl ?_
    refine w_callV (q := 13) hX (c_cnt h hG 1 (by decide)) rfl kV_X4_count rfl (by decide) lk_L_13 (by decide) rfl oLF (Nat.le_of_ble_eq_true rfl) dL_frozen_10 rfl ?_
    rw [e1]
    refine v_lcmp_ge (q := 17) (tgt := 61) hX ⟨by omega, by omega⟩ ⟨by omega, by omega⟩ dL_frozen_13 dL_frozen_14 (by decide) rfl (fun hx_13 => ?_) (fun hx_13 => ?_)
    · refine v_lload_n (q := 62) hX dL_frozen_61 rfl rfl rfl ?_
      refine v_lreturn hX hRX rfl dL_frozen_62 rfl ?_
      have hpn : p = np := by omega
      subst hpn
      exact ⟨by unfold frz; rw [hft], rfl, rfl⟩
    · refine v_iconst (q := 18) hX dL_frozen_17 rfl ?_
      refine v_istore (q := 20) hX dL_frozen_18 (Nat.le_of_ble_eq_true rfl) (Nat.le_of_ble_eq_true rfl) rfl ?_
      dsimp only [xs1, xs2, xclr]
      exact L3 (by omega) 0 (Nat.zero_le _)
  refine v_ldc2 (q := 3) (e := 7) hX (by decide) kl_L_9 dL_frozen_0 rfl ?_
  refine v_lstore_n (q := 4) hX dL_frozen_3 rfl (Nat.le_of_ble_eq_true rfl) (Nat.le_of_ble_eq_true rfl) rfl ?_
  dsimp only [xs1, xs2, xclr]
  refine v_iconst (q := 5) hX dL_frozen_4 rfl ?_
  refine v_istore_n (q := 6) hX dL_frozen_5 rfl (Nat.le_of_ble_eq_true rfl) (Nat.le_of_ble_eq_true rfl) rfl ?_
  dsimp only [xs1, xs2, xclr]
  exact L2 0 (Nat.zero_le _) _

def isW (w b : Int) : Int := if w = 12 ∨ w = 13 ∨ (13 < w ∧ 5 < b % 8) then 1 else 0
theorem isW_x (w b : Int) : xI (isW w b) := by unfold isW; split <;> exact ⟨by decide, by decide⟩

set_option maxRecDepth 100000 in
set_option maxHeartbeats 4000000 in
theorem c_L_isWeeks {z : Nat} (D : xD) (r : xR) (w b : Int) (iw : xI w) (ib : xI b) : MX 0 mL_isWeeks [vi w, vi b] (351, z) D r (351, z) (xP (vi (isW w b)) D r) := by
  refine MX.of (by decide +kernel) [some (vi w), some (vi b)] rfl (Nat.le_of_ble_eq_true rfl) ?_
  intro γ hX hRX
  refine v_iload_n (q := 1) hX dL_isWeeks_0 rfl rfl rfl ?_
  refine v_bipush (q := 3) hX (by decide) dL_isWeeks_1 rfl ?_
  refine v_icmp_eq (q := 6) (tgt := 26) hX iw ⟨by decide, by decide⟩ dL_isWeeks_3 (by decide) rfl (fun hx_3 => ?_) (fun hx_3 => ?_)
  · refine v_iconst (q := 27) hX dL_isWeeks_26 rfl ?_
    refine v_goto (tgt := 31) hX dL_isWeeks_27 (by decide) ?_
    refine v_ireturn hX hRX rfl (by first | rfl | exact bi_nar _) dL_isWeeks_31 rfl ?_
    exact ⟨by unfold isW; first | rw [if_pos (by omega)] | rw [if_neg (by omega)], rfl, rfl⟩
  · refine v_iload_n (q := 7) hX dL_isWeeks_6 rfl rfl rfl ?_
    refine v_bipush (q := 9) hX (by decide) dL_isWeeks_7 rfl ?_
    refine v_icmp_eq (q := 12) (tgt := 26) hX iw ⟨by decide, by decide⟩ dL_isWeeks_9 (by decide) rfl (fun hx_9 => ?_) (fun hx_9 => ?_)
    · refine v_iconst (q := 27) hX dL_isWeeks_26 rfl ?_
      refine v_goto (tgt := 31) hX dL_isWeeks_27 (by decide) ?_
      refine v_ireturn hX hRX rfl (by first | rfl | exact bi_nar _) dL_isWeeks_31 rfl ?_
      exact ⟨by unfold isW; first | rw [if_pos (by omega)] | rw [if_neg (by omega)], rfl, rfl⟩
    · refine v_iload_n (q := 13) hX dL_isWeeks_12 rfl rfl rfl ?_
      refine v_bipush (q := 15) hX (by decide) dL_isWeeks_13 rfl ?_
      refine v_icmp_le (q := 18) (tgt := 30) hX iw ⟨by decide, by decide⟩ dL_isWeeks_15 (by decide) rfl (fun hx_15 => ?_) (fun hx_15 => ?_)
      · refine v_iconst (q := 31) hX dL_isWeeks_30 rfl ?_
        refine v_ireturn hX hRX rfl (by first | rfl | exact bi_nar _) dL_isWeeks_31 rfl ?_
        exact ⟨by unfold isW; first | rw [if_pos (by omega)] | rw [if_neg (by omega)], rfl, rfl⟩
      · refine v_iload_n (q := 19) hX dL_isWeeks_18 rfl rfl rfl ?_
        refine v_bipush (q := 21) hX (by decide) dL_isWeeks_19 rfl ?_
        refine v_iand (q := 22) hX (b % 8) (sand7 b) dL_isWeeks_21 rfl ?_
        refine v_iconst (q := 23) hX dL_isWeeks_22 rfl ?_
        refine v_icmp_le (q := 26) (tgt := 30) hX ⟨by omega, by omega⟩ ⟨by decide, by decide⟩ dL_isWeeks_23 (by decide) rfl (fun hx_23 => ?_) (fun hx_23 => ?_)
        · refine v_iconst (q := 31) hX dL_isWeeks_30 rfl ?_
          refine v_ireturn hX hRX rfl (by first | rfl | exact bi_nar _) dL_isWeeks_31 rfl ?_
          exact ⟨by unfold isW; first | rw [if_pos (by omega)] | rw [if_neg (by omega)], rfl, rfl⟩
        · refine v_iconst (q := 27) hX dL_isWeeks_26 rfl ?_
          refine v_goto (tgt := 31) hX dL_isWeeks_27 (by decide) ?_
          refine v_ireturn hX hRX rfl (by first | rfl | exact bi_nar _) dL_isWeeks_31 rfl ?_
          exact ⟨by unfold isW; first | rw [if_pos (by omega)] | rw [if_neg (by omega)], rfl, rfl⟩

set_option maxRecDepth 100000 in
set_option maxHeartbeats 4000000 in
theorem c_L_areRight {z : Nat} {D : xD} {r : xR} {N : Nat → Int} {np s : Nat} {K : Nat → Nat → Int} {q : Nat → Nat} {B : Int} (h : Jc D r N np s K q) (hG : GS B N np) : MX 3 mL_areRight [.ref 4] (351, z) D r (351, z) (xP (vi 1) D r) := by
  refine MX.of (by decide +kernel) [some (.ref 4), none, none, none, none, none, none, none, none] rfl (Nat.le_of_ble_eq_true rfl) ?_
  intro γ hX hRX
  have hnp := hG.np
  have e1 : cn N np s 1 = (np : Int) := hG.1.1.1.2.1
  have hB := hG.1.1.1.1.2
  have e6 : cn N np s 6 = nSum N 4 np := rfl
  have e7 : cn N np s 7 = nSum N 5 np := rfl
  have s4 := nSum_le hG.1.1.1 (i := 4) (by decide) np (Nat.le_refl _)
  have s5 := nSum_le hG.1.1.1 (i := 5) (by decide) np (Nat.le_refl _)
  have sB : B * (np : Int) ≤ B * 10 := Int.mul_le_mul_of_nonneg_left (by omega) (by have := hG.2.2; omega)
  have L : ∀ p, p ≤ np → ∀ x7 x8 : Option Value, xV γ 10 [some (.ref 4), some (vi 1), some (vl (nSum N 4 p)), none, some (vl (nSum N 5 p)), none, some (vi (p : Nat)), x7, x8] [] (351, z) D r := by
    refine xup np (fun p hp ih x7 x8 => ?_)
    have K64 : p < np → xV γ 64 [some (.ref 4), some (vi 1), some (vl (nSum N 4 p)), none, some (vl (nSum N 5 p)), none, some (vi (p : Nat)), some (vi (nOf N p 4)), some (vi (nOf N p 5))] [] (351, z) D r := by
      intro hpn
      have hR := hG.2.1 p hpn
      have f1 : nOf N p 12 + nOf N p 9 - nOf N p 10 = nOf N p 4 := hR.1.symm
      have f2 : nOf N p 11 - nOf N p 10 = nOf N p 5 := hR.2.1.symm
      have f3 : nOf N p 6 * cn N np s 14 / 100 = nOf N p 7 := rfl
      have i4 := nOf_x hG hpn (w := 4) (by decide)
      have i5 := nOf_x hG hpn (w := 5) (by decide)
      have i6 := nOf_x hG hpn (w := 6) (by decide)
      have i7 := nOf_x hG hpn (w := 7) (by decide)
      have hc : 0 ≤ nOf N p 6 * cn N np s 14 ∧ nOf N p 6 * cn N np s 14 ≤ 800000 := (nCov_le hG.1.1.1 hpn).1
      refine v_iconst (q := 65) hX dL_areRight_64 rfl ?_
      refine v_goto (tgt := 69) hX dL_areRight_65 (by decide) ?_
      refine v_istore_n (q := 70) hX dL_areRight_69 rfl (Nat.le_of_ble_eq_true rfl) (Nat.le_of_ble_eq_true rfl) rfl ?_
      dsimp only [xs1, xs2, xclr]
      refine v_iload_n (q := 71) hX dL_areRight_70 rfl rfl rfl ?_
      refine v_if_eq (q := 74) (tgt := 131) hX ⟨by decide, by decide⟩ dL_areRight_71 (by decide) rfl (fun hx_71 => ?_) (fun hx_71 => ?_)
      · exact absurd hx_71 (by decide)
      · refine v_iload (q := 76) hX dL_areRight_74 rfl rfl ?_
        refine v_aload_n (q := 77) hX dL_areRight_76 rfl rfl rfl ?_
        refine v_iload (q := 79) hX dL_areRight_77 rfl rfl ?_
        refine v_bipush (q := 81) hX (by decide) dL_areRight_79 rfl ?_
        refine w_callV (q := 84) hX (c_of h hG p 12 hpn (by decide)) rfl kV_X4_ofProduct rfl (by decide) lk_L_19 (by decide) rfl oLF (Nat.le_of_ble_eq_true rfl) dL_areRight_81 rfl ?_
        refine v_aload_n (q := 85) hX dL_areRight_84 rfl rfl rfl ?_
        refine v_iload (q := 87) hX dL_areRight_85 rfl rfl ?_
        refine v_bipush (q := 89) hX (by decide) dL_areRight_87 rfl ?_
        refine w_callV (q := 92) hX (c_of h hG p 9 hpn (by decide)) rfl kV_X4_ofProduct rfl (by decide) lk_L_19 (by decide) rfl oLF (Nat.le_of_ble_eq_true rfl) dL_areRight_89 rfl ?_
        refine v_iadd (q := 93) hX dL_areRight_92 rfl ?_
        refine v_aload_n (q := 94) hX dL_areRight_93 rfl rfl rfl ?_
        refine v_iload (q := 96) hX dL_areRight_94 rfl rfl ?_
        refine v_bipush (q := 98) hX (by decide) dL_areRight_96 rfl ?_
        refine w_callV (q := 101) hX (c_of h hG p 10 hpn (by decide)) rfl kV_X4_ofProduct rfl (by decide) lk_L_19 (by decide) rfl oLF (Nat.le_of_ble_eq_true rfl) dL_areRight_98 rfl ?_
        refine v_isub (q := 102) hX dL_areRight_101 rfl ?_
        rw [f1]
        refine v_icmp_ne (q := 105) (tgt := 131) hX i4 i4 dL_areRight_102 (by decide) rfl (fun hx_102 => ?_) (fun hx_102 => ?_)
        · exact absurd rfl hx_102
        · refine v_iload (q := 107) hX dL_areRight_105 rfl rfl ?_
          refine v_aload_n (q := 108) hX dL_areRight_107 rfl rfl rfl ?_
          refine v_iload (q := 110) hX dL_areRight_108 rfl rfl ?_
          refine v_bipush (q := 112) hX (by decide) dL_areRight_110 rfl ?_
          refine w_callV (q := 115) hX (c_of h hG p 11 hpn (by decide)) rfl kV_X4_ofProduct rfl (by decide) lk_L_19 (by decide) rfl oLF (Nat.le_of_ble_eq_true rfl) dL_areRight_112 rfl ?_
          refine v_aload_n (q := 116) hX dL_areRight_115 rfl rfl rfl ?_
          refine v_iload (q := 118) hX dL_areRight_116 rfl rfl ?_
          refine v_bipush (q := 120) hX (by decide) dL_areRight_118 rfl ?_
          refine w_callV (q := 123) hX (c_of h hG p 10 hpn (by decide)) rfl kV_X4_ofProduct rfl (by decide) lk_L_19 (by decide) rfl oLF (Nat.le_of_ble_eq_true rfl) dL_areRight_120 rfl ?_
          refine v_isub (q := 124) hX dL_areRight_123 rfl ?_
          rw [f2]
          refine v_icmp_ne (q := 127) (tgt := 131) hX i5 i5 dL_areRight_124 (by decide) rfl (fun hx_124 => ?_) (fun hx_124 => ?_)
          · exact absurd rfl hx_124
          · refine v_iconst (q := 128) hX dL_areRight_127 rfl ?_
            refine v_goto (tgt := 132) hX dL_areRight_128 (by decide) ?_
            refine v_istore_n (q := 133) hX dL_areRight_132 rfl (Nat.le_of_ble_eq_true rfl) (Nat.le_of_ble_eq_true rfl) rfl ?_
            dsimp only [xs1, xs2, xclr]
            refine v_iload_n (q := 134) hX dL_areRight_133 rfl rfl rfl ?_
            refine v_if_eq (q := 137) (tgt := 173) hX ⟨by decide, by decide⟩ dL_areRight_134 (by decide) rfl (fun hx_134 => ?_) (fun hx_134 => ?_)
            · exact absurd hx_134 (by decide)
            · refine v_aload_n (q := 138) hX dL_areRight_137 rfl rfl rfl ?_
              refine v_iload (q := 140) hX dL_areRight_138 rfl rfl ?_
              refine v_bipush (q := 142) hX (by decide) dL_areRight_140 rfl ?_
              refine w_callV (q := 145) hX (c_of h hG p 7 hpn (by decide)) rfl kV_X4_ofProduct rfl (by decide) lk_L_19 (by decide) rfl oLF (Nat.le_of_ble_eq_true rfl) dL_areRight_142 rfl ?_
              refine v_aload_n (q := 146) hX dL_areRight_145 rfl rfl rfl ?_
              refine v_iload (q := 148) hX dL_areRight_146 rfl rfl ?_
              refine v_bipush (q := 150) hX (by decide) dL_areRight_148 rfl ?_
              refine w_callV (q := 153) hX (c_of h hG p 6 hpn (by decide)) rfl kV_X4_ofProduct rfl (by decide) lk_L_19 (by decide) rfl oLF (Nat.le_of_ble_eq_true rfl) dL_areRight_150 rfl ?_
              refine v_i2l (q := 154) hX i6 dL_areRight_153 rfl ?_
              refine v_aload_n (q := 155) hX dL_areRight_154 rfl rfl rfl ?_
              refine v_bipush (q := 157) hX (by decide) dL_areRight_155 rfl ?_
              refine w_callV (q := 160) hX (c_cnt h hG 14 (by decide)) rfl kV_X4_count rfl (by decide) lk_L_13 (by decide) rfl oLF (Nat.le_of_ble_eq_true rfl) dL_areRight_157 rfl ?_
              refine v_lmul (q := 161) hX dL_areRight_160 rfl ?_
              refine v_ldc2 (q := 164) (e := 100) hX (by decide) kl_L_69 dL_areRight_161 rfl ?_
              refine v_ldiv (q := 165) hX hc.1 ⟨by omega, by omega⟩ (by decide) ⟨by decide, by decide⟩ dL_areRight_164 rfl ?_
              refine v_l2i (q := 166) hX dL_areRight_165 rfl ?_
              rw [f3]
              refine v_icmp_ne (q := 169) (tgt := 173) hX i7 i7 dL_areRight_166 (by decide) rfl (fun hx_166 => ?_) (fun hx_166 => ?_)
              · exact absurd rfl hx_166
              · refine v_iconst (q := 170) hX dL_areRight_169 rfl ?_
                refine v_goto (tgt := 174) hX dL_areRight_170 (by decide) ?_
                refine v_istore_n (q := 175) hX dL_areRight_174 rfl (Nat.le_of_ble_eq_true rfl) (Nat.le_of_ble_eq_true rfl) rfl ?_
                dsimp only [xs1, xs2, xclr]
                refine v_lload_n (q := 176) hX dL_areRight_175 rfl rfl rfl ?_
                refine v_iload (q := 178) hX dL_areRight_176 rfl rfl ?_
                refine v_i2l (q := 179) hX i4 dL_areRight_178 rfl ?_
                refine v_ladd (q := 180) hX dL_areRight_179 rfl ?_
                refine v_lstore_n (q := 181) hX dL_areRight_180 rfl (Nat.le_of_ble_eq_true rfl) (Nat.le_of_ble_eq_true rfl) rfl ?_
                dsimp only [xs1, xs2, xclr]
                refine v_lload (q := 183) hX dL_areRight_181 rfl rfl ?_
                refine v_iload (q := 185) hX dL_areRight_183 rfl rfl ?_
                refine v_i2l (q := 186) hX i5 dL_areRight_185 rfl ?_
                refine v_ladd (q := 187) hX dL_areRight_186 rfl ?_
                refine v_lstore (q := 189) hX dL_areRight_187 (Nat.le_of_ble_eq_true rfl) (Nat.le_of_ble_eq_true rfl) rfl ?_
                dsimp only [xs1, xs2, xclr]
                refine v_iinc (q := 192) hX dL_areRight_189 rfl (Nat.le_of_ble_eq_true rfl) (Nat.le_of_ble_eq_true rfl) rfl ?_
                dsimp only [xs1, xs2, xclr]
                refine v_goto (tgt := 10) hX dL_areRight_192 (by decide) ?_
                exact ih hpn _ _
    refine v_iload (q := 12) hX dL_areRight_10 rfl rfl ?_
    refine v_i2l (q := 13) hX ⟨by omega, by omega⟩ dL_areRight_12 rfl ?_
    refine v_aload_n (q := 14) hX dL_areRight_13 rfl rfl rfl ?_
    refine v_iconst (q := 15) hX dL_areRight_14 rfl ?_
    refine w_callV (q := 18) hX (c_cnt h hG 1 (by decide)) rfl kV_X4_count rfl (by decide) lk_L_13 (by decide) rfl oLF (Nat.le_of_ble_eq_true rfl) dL_areRight_15 rfl ?_
    rw [e1]
    refine v_lcmp_ge (q := 22) (tgt := 195) hX ⟨by omega, by omega⟩ ⟨by omega, by omega⟩ dL_areRight_18 dL_areRight_19 (by decide) rfl (fun hx_18 => ?_) (fun hx_18 => ?_)
    · have hpn : p = np := by omega
      subst hpn
      refine v_iload_n (q := 196) hX dL_areRight_195 rfl rfl rfl ?_
      refine v_if_eq (q := 199) (tgt := 226) hX ⟨by decide, by decide⟩ dL_areRight_196 (by decide) rfl (fun hx_196 => ?_) (fun hx_196 => ?_)
      · exact absurd hx_196 (by decide)
      · refine v_lload_n (q := 200) hX dL_areRight_199 rfl rfl rfl ?_
        refine v_aload_n (q := 201) hX dL_areRight_200 rfl rfl rfl ?_
        refine v_bipush (q := 203) hX (by decide) dL_areRight_201 rfl ?_
        refine w_callV (q := 206) hX (c_cnt h hG 6 (by decide)) rfl kV_X4_count rfl (by decide) lk_L_13 (by decide) rfl oLF (Nat.le_of_ble_eq_true rfl) dL_areRight_203 rfl ?_
        rw [e6]
        refine v_lcmp_ne (q := 210) (tgt := 226) hX ⟨by omega, by omega⟩ ⟨by omega, by omega⟩ dL_areRight_206 dL_areRight_207 (by decide) rfl (fun hx_206 => ?_) (fun hx_206 => ?_)
        · exact absurd rfl hx_206
        · refine v_lload (q := 212) hX dL_areRight_210 rfl rfl ?_
          refine v_aload_n (q := 213) hX dL_areRight_212 rfl rfl rfl ?_
          refine v_bipush (q := 215) hX (by decide) dL_areRight_213 rfl ?_
          refine w_callV (q := 218) hX (c_cnt h hG 7 (by decide)) rfl kV_X4_count rfl (by decide) lk_L_13 (by decide) rfl oLF (Nat.le_of_ble_eq_true rfl) dL_areRight_215 rfl ?_
          rw [e7]
          refine v_lcmp_ne (q := 222) (tgt := 226) hX ⟨by omega, by omega⟩ ⟨by omega, by omega⟩ dL_areRight_218 dL_areRight_219 (by decide) rfl (fun hx_218 => ?_) (fun hx_218 => ?_)
          · exact absurd rfl hx_218
          · refine v_iconst (q := 223) hX dL_areRight_222 rfl ?_
            refine v_goto (tgt := 227) hX dL_areRight_223 (by decide) ?_
            refine v_ireturn hX hRX rfl (by first | rfl | exact bi_nar _) dL_areRight_227 rfl ?_
            exact ⟨rfl, rfl, rfl⟩
    · have hpn : p < np := by omega
      have hO := (hG.1.1.1.2.2.2.2.2 p hpn).2.2.2.2
      have i4 := nOf_x hG hpn (w := 4) (by decide)
      have i5 := nOf_x hG hpn (w := 5) (by decide)
      have j4 : nOf N p 4 = pF N p 4 := rfl
      have j5 : nOf N p 5 = pF N p 5 := rfl
      have hR := (hG.2.1 p hpn).2.2
      refine v_iload_n (q := 23) hX dL_areRight_22 rfl rfl rfl ?_
      refine v_if_eq (q := 26) (tgt := 195) hX ⟨by decide, by decide⟩ dL_areRight_23 (by decide) rfl (fun hx_23 => ?_) (fun hx_23 => ?_)
      · exact absurd hx_23 (by decide)
      · refine v_aload_n (q := 27) hX dL_areRight_26 rfl rfl rfl ?_
        refine v_iload (q := 29) hX dL_areRight_27 rfl rfl ?_
        refine v_iconst (q := 30) hX dL_areRight_29 rfl ?_
        refine w_callV (q := 33) hX (c_of h hG p 4 (by omega) (by decide)) rfl kV_X4_ofProduct rfl (by decide) lk_L_19 (by decide) rfl oLF (Nat.le_of_ble_eq_true rfl) dL_areRight_30 rfl ?_
        refine v_istore (q := 35) hX dL_areRight_33 (Nat.le_of_ble_eq_true rfl) (Nat.le_of_ble_eq_true rfl) rfl ?_
        dsimp only [xs1, xs2, xclr]
        refine v_aload_n (q := 36) hX dL_areRight_35 rfl rfl rfl ?_
        refine v_iload (q := 38) hX dL_areRight_36 rfl rfl ?_
        refine v_iconst (q := 39) hX dL_areRight_38 rfl ?_
        refine w_callV (q := 42) hX (c_of h hG p 5 (by omega) (by decide)) rfl kV_X4_ofProduct rfl (by decide) lk_L_19 (by decide) rfl oLF (Nat.le_of_ble_eq_true rfl) dL_areRight_39 rfl ?_
        refine v_istore (q := 44) hX dL_areRight_42 (Nat.le_of_ble_eq_true rfl) (Nat.le_of_ble_eq_true rfl) rfl ?_
        dsimp only [xs1, xs2, xclr]
        refine v_iload (q := 46) hX dL_areRight_44 rfl rfl ?_
        refine v_if_lt (q := 49) (tgt := 68) hX i4 dL_areRight_46 (by decide) rfl (fun hx_46 => ?_) (fun hx_46 => ?_)
        · exact absurd hx_46 (by omega)
        · refine v_iload (q := 51) hX dL_areRight_49 rfl rfl ?_
          refine v_if_lt (q := 54) (tgt := 68) hX i5 dL_areRight_51 (by decide) rfl (fun hx_51 => ?_) (fun hx_51 => ?_)
          · exact absurd hx_51 (by omega)
          · refine v_iload (q := 56) hX dL_areRight_54 rfl rfl ?_
            refine v_if_eq (q := 59) (tgt := 64) hX i4 dL_areRight_56 (by decide) rfl (fun hx_56 => ?_) (fun hx_56 => ?_)
            · exact K64 hpn
            · refine v_iload (q := 61) hX dL_areRight_59 rfl rfl ?_
              refine v_if_ne (q := 64) (tgt := 68) hX i5 dL_areRight_61 (by decide) rfl (fun hx_61 => ?_) (fun hx_61 => ?_)
              · exact absurd hx_61 (by omega)
              · exact K64 hpn
  refine v_iconst (q := 1) hX dL_areRight_0 rfl ?_
  refine v_istore_n (q := 2) hX dL_areRight_1 rfl (Nat.le_of_ble_eq_true rfl) (Nat.le_of_ble_eq_true rfl) rfl ?_
  dsimp only [xs1, xs2, xclr]
  refine v_lconst (q := 3) (e := 0) hX (by decide) dL_areRight_2 rfl ?_
  refine v_lstore_n (q := 4) hX dL_areRight_3 rfl (Nat.le_of_ble_eq_true rfl) (Nat.le_of_ble_eq_true rfl) rfl ?_
  dsimp only [xs1, xs2, xclr]
  refine v_lconst (q := 5) (e := 0) hX (by decide) dL_areRight_4 rfl ?_
  refine v_lstore (q := 7) hX dL_areRight_5 (Nat.le_of_ble_eq_true rfl) (Nat.le_of_ble_eq_true rfl) rfl ?_
  dsimp only [xs1, xs2, xclr]
  refine v_iconst (q := 8) hX dL_areRight_7 rfl ?_
  refine v_istore (q := 10) hX dL_areRight_8 (Nat.le_of_ble_eq_true rfl) (Nat.le_of_ble_eq_true rfl) rfl ?_
  dsimp only [xs1, xs2, xclr]
  exact L 0 (Nat.zero_le _) _ _

