/-! ===== the plain state: how it changes ===== -/
/-- the numbers of a product -/
def nRec (N : Nat → Int) (p : Nat) : Nat → Int := fun j => pF N p j
def nUpd (N : Nat → Int) (p : Nat) (f : Nat → Int) : Nat → Int := fun i => if 18 + 36 * p ≤ i ∧ i < 18 + 36 * p + 36 then f (i - (18 + 36 * p)) else N i
def nMap (N : Nat → Int) (k : Nat) (F : (Nat → Int) → Nat → Int) : Nat → Int := fun i => if 18 ≤ i ∧ i < 18 + 36 * k then F (nRec N ((i - 18) / 36)) ((i - 18) % 36) else N i
theorem nUpd_at (N : Nat → Int) (p : Nat) (f : Nat → Int) {j : Nat} (h : j < 36) : pF (nUpd N p f) p j = f j := by
  unfold nUpd pF
  dsimp only
  rw [if_pos (by omega), show 18 + 36 * p + j - (18 + 36 * p) = j by omega]
theorem nUpd_hd (N : Nat → Int) (p : Nat) (f : Nat → Int) {i : Nat} (h : i < 18) : nUpd N p f i = N i := if_neg (by omega)
theorem nUpd_ne (N : Nat → Int) {p q : Nat} (f : Nat → Int) {j : Nat} (h : q ≠ p) (hj : j < 36) : pF (nUpd N p f) q j = pF N q j := if_neg (by omega)
theorem nUpd_fu (N : Nat → Int) (p : Nat) (f : Nat → Int) {a : Nat} (e : Int) (h : a < 36) : fu (nUpd N p f) (18 + 36 * p + a) e = nUpd N p (fu f a e) := by
  funext i
  unfold fu nUpd
  by_cases h1 : i = 18 + 36 * p + a
  · subst h1
    rw [if_pos rfl, if_pos (by omega)]
    dsimp only
    rw [if_pos (by omega)]
  · rw [if_neg h1]
    by_cases h2 : 18 + 36 * p ≤ i ∧ i < 18 + 36 * p + 36
    · rw [if_pos h2, if_pos h2]
      dsimp only
      rw [if_neg (by omega)]
    · rw [if_neg h2, if_neg h2]
theorem nUpd_self (N : Nat → Int) (p : Nat) : nUpd N p (nRec N p) = N := by
  funext i
  unfold nUpd nRec pF
  split
  · congr 1; omega
  · rfl
theorem nMap_0 (N : Nat → Int) (F : (Nat → Int) → Nat → Int) : nMap N 0 F = N := by funext i; exact if_neg (by omega)
theorem nMap_at (N : Nat → Int) {k p : Nat} (F : (Nat → Int) → Nat → Int) {j : Nat} (hp : p < k) (hj : j < 36) : pF (nMap N k F) p j = F (nRec N p) j := by
  unfold nMap pF
  dsimp only
  rw [if_pos (by omega), show (18 + 36 * p + j - 18) / 36 = p by omega, show (18 + 36 * p + j - 18) % 36 = j by omega]
theorem nMap_ge (N : Nat → Int) {k p : Nat} (F : (Nat → Int) → Nat → Int) {j : Nat} (hp : k ≤ p) : pF (nMap N k F) p j = pF N p j := if_neg (by omega)
theorem nMap_hd (N : Nat → Int) (k : Nat) (F : (Nat → Int) → Nat → Int) {i : Nat} (h : i < 18) : nMap N k F i = N i := if_neg (by omega)
theorem nMap_succ (N : Nat → Int) (k : Nat) (F : (Nat → Int) → Nat → Int) : nUpd (nMap N k F) k (F (nRec (nMap N k F) k)) = nMap N (k + 1) F := by
  have h0 : nRec (nMap N k F) k = nRec N k := by funext j; exact nMap_ge N F (Nat.le_refl k)
  rw [h0]
  funext i
  unfold nUpd nMap
  by_cases h1 : 18 + 36 * k ≤ i ∧ i < 18 + 36 * k + 36
  · rw [if_pos h1, if_pos (by omega), show (i - 18) / 36 = k by omega, show (i - 18) % 36 = i - (18 + 36 * k) by omega]
  · rw [if_neg h1]
    by_cases h2 : 18 ≤ i ∧ i < 18 + 36 * k
    · rw [if_pos h2, if_pos (by omega)]
    · rw [if_neg h2, if_neg (by omega)]
theorem nRec_upd (N : Nat → Int) (p : Nat) (f : Nat → Int) : ∀ j, j < 36 → nRec (nUpd N p f) p j = f j := fun j h => nUpd_at N p f h
theorem fu_rec_ne (N : Nat → Int) (p a j : Nat) (e : Int) (h : j ≠ a) : pF (fu N (18 + 36 * p + a) e) p j = pF N p j := fu_ne N _ e (by omega)
/-! what comes, and what is shipped -/
def rCame (q : Nat → Int) : Int := if q 7 = -6 then q 12 else q 7
def rWant (q : Nat → Int) : Int := rCame q + q 5
def rHave (q : Nat → Int) : Int := q 4 + q 24 * q 1
def rSent (q : Nat → Int) : Int := if rWant q < rHave q then rWant q else rHave q
def rOff (q : Nat → Int) : Int := if q 12 < rCame q then rCame q - q 12 else q 12 - rCame q
def rShip (q : Nat → Int) : Nat → Int := fu (fu (fu (fu (fu (fu q 4 (rHave q - rSent q)) 5 (rWant q - rSent q)) 6 ((7 * q 6 + rOff q + 7) / 8)) 8 (q 8 + q 24 * q 1)) 9 (q 9 + rSent q)) 10 (q 10 + rCame q)
set_option maxRecDepth 100000 in
set_option maxHeartbeats 4000000 in
theorem c_X5_ships {z : Nat} (D : xD) (r : xR) (hr : xRM r) {B : Int} {np : Nat} (hO : nOk B np (D 352)) (p : Nat) (hp : p < np) : MX 1 mX5_ships [.ref 351, vi p] (356, z) D r (356, z) (xEn (fun D' => D' = xw D 352 (nUpd (D 352) p (rShip (nRec (D 352) p)))) r) := by
  refine MX.of (by decide +kernel) [some (.ref 351), some (vi p), none, none, none, none, none, none, none, none, none, none, none, none] rfl (Nat.le_of_ble_eq_true rfl) ?_
  intro γ hX hRX
  have hn := hO.np
  have hB := hO.1
  obtain ⟨-, h1, -, -, h4, h5, h6, h7, hfc, hlo⟩ := hO.2.2.2.2.2 p hp
  have hl0 : 0 ≤ pF (D 352) p 24 ∧ pF (D 352) p 24 ≤ 1000 := hlo 0 (by decide)
  have hf0 : 0 ≤ pF (D 352) p 12 ∧ pF (D 352) p 12 ≤ 1000 := hfc 0 (by decide)
  have hm1 : 0 ≤ pF (D 352) p 24 * pF (D 352) p 1 := Int.mul_nonneg hl0.1 (by omega)
  have hm2 : pF (D 352) p 24 * pF (D 352) p 1 ≤ 1000 * 100 := Int.mul_le_mul hl0.2 h1.2 (by omega) (by omega)
  have hq : ∀ j, nRec (D 352) p j = pF (D 352) p j := fun _ => rfl
  have hcm : 0 ≤ rCame (nRec (D 352) p) ∧ rCame (nRec (D 352) p) ≤ 2000 := by
    unfold rCame; simp only [hq]; split <;> omega
  have hof : 0 ≤ rOff (nRec (D 352) p) ∧ rOff (nRec (D 352) p) ≤ 2000 := by
    unfold rOff; simp only [hq]; split <;> omega
  have K122 : xV γ 122 [some (.ref 351), some (vi p), some (vl (pF (D 352) p 24 * pF (D 352) p 1)), none, some (vl (rCame (nRec (D 352) p))), none, some (vl (rHave (nRec (D 352) p))), none, some (vl (rWant (nRec (D 352) p))), none, some (vl (rSent (nRec (D 352) p))), none, none, none] [vl (rOff (nRec (D 352) p))] (356, z) D r := by
    refine v_lstore (q := 124) hX dX5_ships_122 (Nat.le_of_ble_eq_true rfl) (Nat.le_of_ble_eq_true rfl) rfl ?_
    dsimp only [xs1, xs2, xclr]
    refine v_aload_n (q := 125) hX dX5_ships_124 rfl rfl rfl ?_
    refine v_iload_n (q := 126) hX dX5_ships_125 rfl rfl rfl ?_
    refine v_iconst (q := 127) hX dX5_ships_126 rfl ?_
    refine v_lload (q := 129) hX dX5_ships_127 rfl rfl ?_
    refine v_lload (q := 131) hX dX5_ships_129 rfl rfl ?_
    refine v_lsub (q := 132) hX dX5_ships_131 rfl ?_
    refine w_callVn (q := 135) hX (c_X5_becomes _ _ hr (p) (4) _ (by omega)) rfl kV_X5_becomes rfl (by decide) lk_X5_72 (by decide) rfl oX5 (Nat.le_of_ble_eq_true rfl) dX5_ships_132 rfl (fun D1 hD1 => ?_)
    subst hD1
    try simp only [xw_at, xw_xw]
    refine v_aload_n (q := 136) hX dX5_ships_135 rfl rfl rfl ?_
    refine v_iload_n (q := 137) hX dX5_ships_136 rfl rfl rfl ?_
    refine v_iconst (q := 138) hX dX5_ships_137 rfl ?_
    refine v_lload (q := 140) hX dX5_ships_138 rfl rfl ?_
    refine v_lload (q := 142) hX dX5_ships_140 rfl rfl ?_
    refine v_lsub (q := 143) hX dX5_ships_142 rfl ?_
    refine w_callVn (q := 146) hX (c_X5_becomes _ _ hr (p) (5) _ (by omega)) rfl kV_X5_becomes rfl (by decide) lk_X5_72 (by decide) rfl oX5 (Nat.le_of_ble_eq_true rfl) dX5_ships_143 rfl (fun D1 hD1 => ?_)
    subst hD1
    try simp only [xw_at, xw_xw]
    refine v_aload_n (q := 147) hX dX5_ships_146 rfl rfl rfl ?_
    refine v_iload_n (q := 148) hX dX5_ships_147 rfl rfl rfl ?_
    refine v_bipush (q := 150) hX (by decide) dX5_ships_148 rfl ?_
    refine v_ldc2 (q := 153) (e := 7) hX (by decide) kl_X5_155 dX5_ships_150 rfl ?_
    refine v_aload_n (q := 154) hX dX5_ships_153 rfl rfl rfl ?_
    refine v_iload_n (q := 155) hX dX5_ships_154 rfl rfl rfl ?_
    refine v_bipush (q := 157) hX (by decide) dX5_ships_155 rfl ?_
    refine w_callV (q := 160) hX (c_X5_ofP _ _ hr (p) (6) (by omega)) rfl kV_X5_ofP rfl (by decide) lk_X5_78 (by decide) rfl oX5 (Nat.le_of_ble_eq_true rfl) dX5_ships_157 rfl ?_
    try simp only [xw_at, xw_xw]
    rw [fu_rec_ne _ _ 5 6 _ (by decide), fu_rec_ne _ _ 4 6 _ (by decide)]
    refine v_lmul (q := 161) hX dX5_ships_160 rfl ?_
    refine v_lload (q := 163) hX dX5_ships_161 rfl rfl ?_
    refine v_ladd (q := 164) hX dX5_ships_163 rfl ?_
    refine v_ldc2 (q := 167) (e := 7) hX (by decide) kl_X5_155 dX5_ships_164 rfl ?_
    refine v_ladd (q := 168) hX dX5_ships_167 rfl ?_
    refine v_ldc2 (q := 171) (e := 8) hX (by decide) kl_X5_59 dX5_ships_168 rfl ?_
    refine v_ldiv (q := 172) hX (by omega) ⟨by omega, by omega⟩ (by decide) (by decide) dX5_ships_171 rfl ?_
    refine w_callVn (q := 175) hX (c_X5_becomes _ _ hr (p) (6) _ (by omega)) rfl kV_X5_becomes rfl (by decide) lk_X5_72 (by decide) rfl oX5 (Nat.le_of_ble_eq_true rfl) dX5_ships_172 rfl (fun D1 hD1 => ?_)
    subst hD1
    try simp only [xw_at, xw_xw]
    refine v_aload_n (q := 176) hX dX5_ships_175 rfl rfl rfl ?_
    refine v_iload_n (q := 177) hX dX5_ships_176 rfl rfl rfl ?_
    refine v_bipush (q := 179) hX (by decide) dX5_ships_177 rfl ?_
    refine v_aload_n (q := 180) hX dX5_ships_179 rfl rfl rfl ?_
    refine v_iload_n (q := 181) hX dX5_ships_180 rfl rfl rfl ?_
    refine v_bipush (q := 183) hX (by decide) dX5_ships_181 rfl ?_
    refine w_callV (q := 186) hX (c_X5_ofP _ _ hr (p) (8) (by omega)) rfl kV_X5_ofP rfl (by decide) lk_X5_78 (by decide) rfl oX5 (Nat.le_of_ble_eq_true rfl) dX5_ships_183 rfl ?_
    try simp only [xw_at, xw_xw]
    rw [fu_rec_ne _ _ 6 8 _ (by decide), fu_rec_ne _ _ 5 8 _ (by decide), fu_rec_ne _ _ 4 8 _ (by decide)]
    refine v_lload_n (q := 187) hX dX5_ships_186 rfl rfl rfl ?_
    refine v_ladd (q := 188) hX dX5_ships_187 rfl ?_
    refine w_callVn (q := 191) hX (c_X5_becomes _ _ hr (p) (8) _ (by omega)) rfl kV_X5_becomes rfl (by decide) lk_X5_72 (by decide) rfl oX5 (Nat.le_of_ble_eq_true rfl) dX5_ships_188 rfl (fun D1 hD1 => ?_)
    subst hD1
    try simp only [xw_at, xw_xw]
    refine v_aload_n (q := 192) hX dX5_ships_191 rfl rfl rfl ?_
    refine v_iload_n (q := 193) hX dX5_ships_192 rfl rfl rfl ?_
    refine v_bipush (q := 195) hX (by decide) dX5_ships_193 rfl ?_
    refine v_aload_n (q := 196) hX dX5_ships_195 rfl rfl rfl ?_
    refine v_iload_n (q := 197) hX dX5_ships_196 rfl rfl rfl ?_
    refine v_bipush (q := 199) hX (by decide) dX5_ships_197 rfl ?_
    refine w_callV (q := 202) hX (c_X5_ofP _ _ hr (p) (9) (by omega)) rfl kV_X5_ofP rfl (by decide) lk_X5_78 (by decide) rfl oX5 (Nat.le_of_ble_eq_true rfl) dX5_ships_199 rfl ?_
    try simp only [xw_at, xw_xw]
    rw [fu_rec_ne _ _ 8 9 _ (by decide), fu_rec_ne _ _ 6 9 _ (by decide), fu_rec_ne _ _ 5 9 _ (by decide), fu_rec_ne _ _ 4 9 _ (by decide)]
    refine v_lload (q := 204) hX dX5_ships_202 rfl rfl ?_
    refine v_ladd (q := 205) hX dX5_ships_204 rfl ?_
    refine w_callVn (q := 208) hX (c_X5_becomes _ _ hr (p) (9) _ (by omega)) rfl kV_X5_becomes rfl (by decide) lk_X5_72 (by decide) rfl oX5 (Nat.le_of_ble_eq_true rfl) dX5_ships_205 rfl (fun D1 hD1 => ?_)
    subst hD1
    try simp only [xw_at, xw_xw]
    refine v_aload_n (q := 209) hX dX5_ships_208 rfl rfl rfl ?_
    refine v_iload_n (q := 210) hX dX5_ships_209 rfl rfl rfl ?_
    refine v_bipush (q := 212) hX (by decide) dX5_ships_210 rfl ?_
    refine v_aload_n (q := 213) hX dX5_ships_212 rfl rfl rfl ?_
    refine v_iload_n (q := 214) hX dX5_ships_213 rfl rfl rfl ?_
    refine v_bipush (q := 216) hX (by decide) dX5_ships_214 rfl ?_
    refine w_callV (q := 219) hX (c_X5_ofP _ _ hr (p) (10) (by omega)) rfl kV_X5_ofP rfl (by decide) lk_X5_78 (by decide) rfl oX5 (Nat.le_of_ble_eq_true rfl) dX5_ships_216 rfl ?_
    try simp only [xw_at, xw_xw]
    rw [fu_rec_ne _ _ 9 10 _ (by decide), fu_rec_ne _ _ 8 10 _ (by decide), fu_rec_ne _ _ 6 10 _ (by decide), fu_rec_ne _ _ 5 10 _ (by decide), fu_rec_ne _ _ 4 10 _ (by decide)]
    refine v_lload (q := 221) hX dX5_ships_219 rfl rfl ?_
    refine v_ladd (q := 222) hX dX5_ships_221 rfl ?_
    refine w_callVn (q := 225) hX (c_X5_becomes _ _ hr (p) (10) _ (by omega)) rfl kV_X5_becomes rfl (by decide) lk_X5_72 (by decide) rfl oX5 (Nat.le_of_ble_eq_true rfl) dX5_ships_222 rfl (fun D1 hD1 => ?_)
    subst hD1
    try simp only [xw_at, xw_xw]
    refine v_vreturn hX hRX rfl dX5_ships_225 rfl ?_
    refine ⟨rfl, rfl, ?_⟩
    show xw D 352 _ = _
    congr 1
    rw [← nUpd_self (D 352) p]
    simp only [nUpd_fu _ _ _ _ (show 4 < 36 by decide), nUpd_fu _ _ _ _ (show 5 < 36 by decide), nUpd_fu _ _ _ _ (show 6 < 36 by decide), nUpd_fu _ _ _ _ (show 8 < 36 by decide), nUpd_fu _ _ _ _ (show 9 < 36 by decide), nUpd_fu _ _ _ _ (show 10 < 36 by decide)]
    rw [nUpd_self (D 352) p]
    rfl
  have K84 : xV γ 84 [some (.ref 351), some (vi p), some (vl (pF (D 352) p 24 * pF (D 352) p 1)), none, some (vl (rCame (nRec (D 352) p))), none, some (vl (rHave (nRec (D 352) p))), none, some (vl (rWant (nRec (D 352) p))), none, none, none, none, none] [vl (rSent (nRec (D 352) p))] (356, z) D r := by
    refine v_lstore (q := 86) hX dX5_ships_84 (Nat.le_of_ble_eq_true rfl) (Nat.le_of_ble_eq_true rfl) rfl ?_
    dsimp only [xs1, xs2, xclr]
    refine v_lload (q := 88) hX dX5_ships_86 rfl rfl ?_
    refine v_aload_n (q := 89) hX dX5_ships_88 rfl rfl rfl ?_
    refine v_iload_n (q := 90) hX dX5_ships_89 rfl rfl rfl ?_
    refine v_bipush (q := 92) hX (by decide) dX5_ships_90 rfl ?_
    refine w_callV (q := 95) hX (c_X5_ofP _ _ hr (p) (12) (by omega)) rfl kV_X5_ofP rfl (by decide) lk_X5_78 (by decide) rfl oX5 (Nat.le_of_ble_eq_true rfl) dX5_ships_92 rfl ?_
    try simp only [xw_at, xw_xw]
    refine v_lcmp_le (q := 99) (tgt := 112) hX ⟨by omega, by omega⟩ ⟨by omega, by omega⟩ dX5_ships_95 dX5_ships_96 (by decide) rfl (fun h95 => ?_) (fun h95 => ?_)
    · refine v_aload_n (q := 113) hX dX5_ships_112 rfl rfl rfl ?_
      refine v_iload_n (q := 114) hX dX5_ships_113 rfl rfl rfl ?_
      refine v_bipush (q := 116) hX (by decide) dX5_ships_114 rfl ?_
      refine w_callV (q := 119) hX (c_X5_ofP _ _ hr (p) (12) (by omega)) rfl kV_X5_ofP rfl (by decide) lk_X5_78 (by decide) rfl oX5 (Nat.le_of_ble_eq_true rfl) dX5_ships_116 rfl ?_
      try simp only [xw_at, xw_xw]
      refine v_lload (q := 121) hX dX5_ships_119 rfl rfl ?_
      refine v_lsub (q := 122) hX dX5_ships_121 rfl ?_
      have e1 := K122
      rw [rOff] at e1
      simp only [hq] at e1
      first | rw [if_pos h95] at e1 | rw [if_neg (Int.not_lt.mpr h95)] at e1
      exact e1
    · refine v_lload (q := 101) hX dX5_ships_99 rfl rfl ?_
      refine v_aload_n (q := 102) hX dX5_ships_101 rfl rfl rfl ?_
      refine v_iload_n (q := 103) hX dX5_ships_102 rfl rfl rfl ?_
      refine v_bipush (q := 105) hX (by decide) dX5_ships_103 rfl ?_
      refine w_callV (q := 108) hX (c_X5_ofP _ _ hr (p) (12) (by omega)) rfl kV_X5_ofP rfl (by decide) lk_X5_78 (by decide) rfl oX5 (Nat.le_of_ble_eq_true rfl) dX5_ships_105 rfl ?_
      try simp only [xw_at, xw_xw]
      refine v_lsub (q := 109) hX dX5_ships_108 rfl ?_
      refine v_goto (tgt := 122) hX dX5_ships_109 (by decide) ?_
      have e1 := K122
      rw [rOff] at e1
      simp only [hq] at e1
      first | rw [if_pos h95] at e1 | rw [if_neg (Int.not_lt.mpr h95)] at e1
      exact e1
  have K46 : xV γ 46 [some (.ref 351), some (vi p), some (vl (pF (D 352) p 24 * pF (D 352) p 1)), none, none, none, none, none, none, none, none, none, none, none] [vl (rCame (nRec (D 352) p))] (356, z) D r := by
    refine v_lstore (q := 48) hX dX5_ships_46 (Nat.le_of_ble_eq_true rfl) (Nat.le_of_ble_eq_true rfl) rfl ?_
    dsimp only [xs1, xs2, xclr]
    refine v_aload_n (q := 49) hX dX5_ships_48 rfl rfl rfl ?_
    refine v_iload_n (q := 50) hX dX5_ships_49 rfl rfl rfl ?_
    refine v_iconst (q := 51) hX dX5_ships_50 rfl ?_
    refine w_callV (q := 54) hX (c_X5_ofP _ _ hr (p) (4) (by omega)) rfl kV_X5_ofP rfl (by decide) lk_X5_78 (by decide) rfl oX5 (Nat.le_of_ble_eq_true rfl) dX5_ships_51 rfl ?_
    try simp only [xw_at, xw_xw]
    refine v_lload_n (q := 55) hX dX5_ships_54 rfl rfl rfl ?_
    refine v_ladd (q := 56) hX dX5_ships_55 rfl ?_
    refine v_lstore (q := 58) hX dX5_ships_56 (Nat.le_of_ble_eq_true rfl) (Nat.le_of_ble_eq_true rfl) rfl ?_
    dsimp only [xs1, xs2, xclr]
    refine v_lload (q := 60) hX dX5_ships_58 rfl rfl ?_
    refine v_aload_n (q := 61) hX dX5_ships_60 rfl rfl rfl ?_
    refine v_iload_n (q := 62) hX dX5_ships_61 rfl rfl rfl ?_
    refine v_iconst (q := 63) hX dX5_ships_62 rfl ?_
    refine w_callV (q := 66) hX (c_X5_ofP _ _ hr (p) (5) (by omega)) rfl kV_X5_ofP rfl (by decide) lk_X5_78 (by decide) rfl oX5 (Nat.le_of_ble_eq_true rfl) dX5_ships_63 rfl ?_
    try simp only [xw_at, xw_xw]
    refine v_ladd (q := 67) hX dX5_ships_66 rfl ?_
    refine v_lstore (q := 69) hX dX5_ships_67 (Nat.le_of_ble_eq_true rfl) (Nat.le_of_ble_eq_true rfl) rfl ?_
    dsimp only [xs1, xs2, xclr]
    show xV γ 69 [some (.ref 351), some (vi p), some (vl (pF (D 352) p 24 * pF (D 352) p 1)), none, some (vl (rCame (nRec (D 352) p))), none, some (vl (rHave (nRec (D 352) p))), none, some (vl (rWant (nRec (D 352) p))), none, none, none, none, none] [] (356, z) D r
    refine v_lload (q := 71) hX dX5_ships_69 rfl rfl ?_
    refine v_lload (q := 73) hX dX5_ships_71 rfl rfl ?_
    refine v_lcmp_ge (q := 77) (tgt := 82) hX (by unfold rWant; simp only [hq]; constructor <;> omega) (by unfold rHave; simp only [hq]; constructor <;> omega) dX5_ships_73 dX5_ships_74 (by decide) rfl (fun h73 => ?_) (fun h73 => ?_)
    · refine v_lload (q := 84) hX dX5_ships_82 rfl rfl ?_
      have e1 := K84
      rw [rSent] at e1
      first | rw [if_pos h73] at e1 | rw [if_neg (Int.not_lt.mpr h73)] at e1
      exact e1
    · refine v_lload (q := 79) hX dX5_ships_77 rfl rfl ?_
      refine v_goto (tgt := 84) hX dX5_ships_79 (by decide) ?_
      have e1 := K84
      rw [rSent] at e1
      first | rw [if_pos h73] at e1 | rw [if_neg (Int.not_lt.mpr h73)] at e1
      exact e1
  refine v_aload_n (q := 1) hX dX5_ships_0 rfl rfl rfl ?_
  refine v_iload_n (q := 2) hX dX5_ships_1 rfl rfl rfl ?_
  refine v_bipush (q := 4) hX (by decide) dX5_ships_2 rfl ?_
  refine w_callV (q := 7) hX (c_X5_ofP _ _ hr (p) (24) (by omega)) rfl kV_X5_ofP rfl (by decide) lk_X5_78 (by decide) rfl oX5 (Nat.le_of_ble_eq_true rfl) dX5_ships_4 rfl ?_
  try simp only [xw_at, xw_xw]
  refine v_aload_n (q := 8) hX dX5_ships_7 rfl rfl rfl ?_
  refine v_iload_n (q := 9) hX dX5_ships_8 rfl rfl rfl ?_
  refine v_iconst (q := 10) hX dX5_ships_9 rfl ?_
  refine w_callV (q := 13) hX (c_X5_ofP _ _ hr (p) (1) (by omega)) rfl kV_X5_ofP rfl (by decide) lk_X5_78 (by decide) rfl oX5 (Nat.le_of_ble_eq_true rfl) dX5_ships_10 rfl ?_
  try simp only [xw_at, xw_xw]
  refine v_lmul (q := 14) hX dX5_ships_13 rfl ?_
  refine v_lstore_n (q := 15) hX dX5_ships_14 rfl (Nat.le_of_ble_eq_true rfl) (Nat.le_of_ble_eq_true rfl) rfl ?_
  dsimp only [xs1, xs2, xclr]
  refine v_aload_n (q := 16) hX dX5_ships_15 rfl rfl rfl ?_
  refine v_iload_n (q := 17) hX dX5_ships_16 rfl rfl rfl ?_
  refine v_bipush (q := 19) hX (by decide) dX5_ships_17 rfl ?_
  refine w_callV (q := 22) hX (c_X5_ofP _ _ hr (p) (7) (by omega)) rfl kV_X5_ofP rfl (by decide) lk_X5_78 (by decide) rfl oX5 (Nat.le_of_ble_eq_true rfl) dX5_ships_19 rfl ?_
  try simp only [xw_at, xw_xw]
  refine v_ldc2 (q := 25) (e := -6) hX (by decide) kl_X5_76 dX5_ships_22 rfl ?_
  refine v_lcmp_ne (q := 29) (tgt := 39) hX ⟨by omega, by omega⟩ ⟨by omega, by omega⟩ dX5_ships_25 dX5_ships_26 (by decide) rfl (fun h25 => ?_) (fun h25 => ?_)
  · refine v_aload_n (q := 40) hX dX5_ships_39 rfl rfl rfl ?_
    refine v_iload_n (q := 41) hX dX5_ships_40 rfl rfl rfl ?_
    refine v_bipush (q := 43) hX (by decide) dX5_ships_41 rfl ?_
    refine w_callV (q := 46) hX (c_X5_ofP _ _ hr (p) (7) (by omega)) rfl kV_X5_ofP rfl (by decide) lk_X5_78 (by decide) rfl oX5 (Nat.le_of_ble_eq_true rfl) dX5_ships_43 rfl ?_
    try simp only [xw_at, xw_xw]
    have e1 := K46
    rw [rCame] at e1
    simp only [hq] at e1
    first | rw [if_pos h25] at e1 | rw [if_neg h25] at e1
    exact e1
  · refine v_aload_n (q := 30) hX dX5_ships_29 rfl rfl rfl ?_
    refine v_iload_n (q := 31) hX dX5_ships_30 rfl rfl rfl ?_
    refine v_bipush (q := 33) hX (by decide) dX5_ships_31 rfl ?_
    refine w_callV (q := 36) hX (c_X5_ofP _ _ hr (p) (12) (by omega)) rfl kV_X5_ofP rfl (by decide) lk_X5_78 (by decide) rfl oX5 (Nat.le_of_ble_eq_true rfl) dX5_ships_33 rfl ?_
    try simp only [xw_at, xw_xw]
    refine v_goto (tgt := 46) hX dX5_ships_36 (by decide) ?_
    have e1 := K46
    rw [rCame] at e1
    simp only [hq] at e1
    first | rw [if_pos h25] at e1 | rw [if_neg h25] at e1
    exact e1

/-- the first k weeks have rolled on -/
def rRl (q : Nat → Int) (k : Nat) : Nat → Int := fun j => if (12 ≤ j ∧ j < 12 + k) ∨ (24 ≤ j ∧ j < 24 + k) then q (j + 1) else q j
def rRoll (q : Nat → Int) : Nat → Int := fu (fu (rRl q 11) 35 0) 7 (-6)
theorem rRl_succ (q : Nat → Int) {k : Nat} (hk : k < 11) : fu (fu (rRl q k) (12 + k) (rRl q k (12 + k + 1))) (24 + k) (rRl q k (24 + k + 1)) = rRl q (k + 1) := by
  have e1 : rRl q k (12 + k + 1) = q (12 + k + 1) := if_neg (by omega)
  have e2 : rRl q k (24 + k + 1) = q (24 + k + 1) := if_neg (by omega)
  rw [e1, e2]
  funext j
  unfold fu rRl
  by_cases h1 : j = 24 + k
  · subst h1; rw [if_pos rfl, if_pos (by omega)]
  · rw [if_neg h1]
    by_cases h2 : j = 12 + k
    · subst h2; rw [if_pos rfl, if_pos (by omega)]
    · rw [if_neg h2]
      by_cases h3 : (12 ≤ j ∧ j < 12 + k) ∨ (24 ≤ j ∧ j < 24 + k)
      · rw [if_pos h3, if_pos (by omega)]
      · rw [if_neg h3, if_neg (by omega)]
set_option maxRecDepth 100000 in
set_option maxHeartbeats 4000000 in
theorem c_X5_rolls {z : Nat} (D : xD) (r : xR) (hr : xRM r) (p : Nat) (hp : p < 10) : MX 1 mX5_rolls [.ref 351, vi p] (356, z) D r (356, z) (xEn (fun D' => D' = xw D 352 (nUpd (D 352) p (rRoll (nRec (D 352) p)))) r) := by
  refine MX.of (by decide +kernel) [some (.ref 351), some (vi p), none] rfl (Nat.le_of_ble_eq_true rfl) ?_
  intro γ hX hRX
  have L : ∀ k, k ≤ 11 → xV γ 2 [some (.ref 351), some (vi p), some (vi (k : Nat))] [] (356, z) (xw D 352 (nUpd (D 352) p (rRl (nRec (D 352) p) k))) r := by
    refine xup 11 (fun k hk ih => ?_)
    refine v_iload_n (q := 3) hX dX5_rolls_2 rfl rfl rfl ?_
    refine v_bipush (q := 5) hX (by decide) dX5_rolls_3 rfl ?_
    refine v_icmp_ge (q := 8) (tgt := 54) hX ⟨by omega, by omega⟩ (by decide) dX5_rolls_5 (by decide) rfl (fun h5 => ?_) (fun h5 => ?_)
    · refine v_aload_n (q := 55) hX dX5_rolls_54 rfl rfl rfl ?_
      refine v_iload_n (q := 56) hX dX5_rolls_55 rfl rfl rfl ?_
      refine v_bipush (q := 58) hX (by decide) dX5_rolls_56 rfl ?_
      refine v_lconst (q := 59) (e := 0) hX (by decide) dX5_rolls_58 rfl ?_
      refine w_callVn (q := 62) hX (c_X5_becomes _ _ hr (p) (35) _ (by omega)) rfl kV_X5_becomes rfl (by decide) lk_X5_72 (by decide) rfl oX5 (Nat.le_of_ble_eq_true rfl) dX5_rolls_59 rfl (fun D1 hD1 => ?_)
      subst hD1
      try simp only [xw_at, xw_xw]
      refine v_aload_n (q := 63) hX dX5_rolls_62 rfl rfl rfl ?_
      refine v_iload_n (q := 64) hX dX5_rolls_63 rfl rfl rfl ?_
      refine v_bipush (q := 66) hX (by decide) dX5_rolls_64 rfl ?_
      refine v_ldc2 (q := 69) (e := -6) hX (by decide) kl_X5_76 dX5_rolls_66 rfl ?_
      refine w_callVn (q := 72) hX (c_X5_becomes _ _ hr (p) (7) _ (by omega)) rfl kV_X5_becomes rfl (by decide) lk_X5_72 (by decide) rfl oX5 (Nat.le_of_ble_eq_true rfl) dX5_rolls_69 rfl (fun D1 hD1 => ?_)
      subst hD1
      try simp only [xw_at, xw_xw]
      refine v_vreturn hX hRX rfl dX5_rolls_72 rfl ?_
      refine ⟨rfl, rfl, ?_⟩
      rw [show k = 11 by omega, nUpd_fu _ _ _ _ (show 35 < 36 by decide), nUpd_fu _ _ _ _ (show 7 < 36 by decide)]
      rfl
    · refine v_aload_n (q := 9) hX dX5_rolls_8 rfl rfl rfl ?_
      refine v_iload_n (q := 10) hX dX5_rolls_9 rfl rfl rfl ?_
      refine v_bipush (q := 12) hX (by decide) dX5_rolls_10 rfl ?_
      refine v_iload_n (q := 13) hX dX5_rolls_12 rfl rfl rfl ?_
      refine v_iadd (q := 14) hX dX5_rolls_13 rfl ?_
      refine v_aload_n (q := 15) hX dX5_rolls_14 rfl rfl rfl ?_
      refine v_iload_n (q := 16) hX dX5_rolls_15 rfl rfl rfl ?_
      refine v_bipush (q := 18) hX (by decide) dX5_rolls_16 rfl ?_
      refine v_iload_n (q := 19) hX dX5_rolls_18 rfl rfl rfl ?_
      refine v_iadd (q := 20) hX dX5_rolls_19 rfl ?_
      refine v_iconst (q := 21) hX dX5_rolls_20 rfl ?_
      refine v_iadd (q := 22) hX dX5_rolls_21 rfl ?_
      refine w_callV (q := 25) hX (c_X5_ofP _ _ hr (p) (((12 + k) + 1)) (by omega)) rfl kV_X5_ofP rfl (by decide) lk_X5_78 (by decide) rfl oX5 (Nat.le_of_ble_eq_true rfl) dX5_rolls_22 rfl ?_
      try simp only [xw_at, xw_xw]
      rw [nUpd_at _ _ _ (show 12 + k + 1 < 36 by omega)]
      refine w_callVn (q := 28) hX (c_X5_becomes _ _ hr (p) ((12 + k)) _ (by omega)) rfl kV_X5_becomes rfl (by decide) lk_X5_72 (by decide) rfl oX5 (Nat.le_of_ble_eq_true rfl) dX5_rolls_25 rfl (fun D1 hD1 => ?_)
      subst hD1
      try simp only [xw_at, xw_xw]
      refine v_aload_n (q := 29) hX dX5_rolls_28 rfl rfl rfl ?_
      refine v_iload_n (q := 30) hX dX5_rolls_29 rfl rfl rfl ?_
      refine v_bipush (q := 32) hX (by decide) dX5_rolls_30 rfl ?_
      refine v_iload_n (q := 33) hX dX5_rolls_32 rfl rfl rfl ?_
      refine v_iadd (q := 34) hX dX5_rolls_33 rfl ?_
      refine v_aload_n (q := 35) hX dX5_rolls_34 rfl rfl rfl ?_
      refine v_iload_n (q := 36) hX dX5_rolls_35 rfl rfl rfl ?_
      refine v_bipush (q := 38) hX (by decide) dX5_rolls_36 rfl ?_
      refine v_iload_n (q := 39) hX dX5_rolls_38 rfl rfl rfl ?_
      refine v_iadd (q := 40) hX dX5_rolls_39 rfl ?_
      refine v_iconst (q := 41) hX dX5_rolls_40 rfl ?_
      refine v_iadd (q := 42) hX dX5_rolls_41 rfl ?_
      refine w_callV (q := 45) hX (c_X5_ofP _ _ hr (p) (((24 + k) + 1)) (by omega)) rfl kV_X5_ofP rfl (by decide) lk_X5_78 (by decide) rfl oX5 (Nat.le_of_ble_eq_true rfl) dX5_rolls_42 rfl ?_
      try simp only [xw_at, xw_xw]
      rw [fu_rec_ne _ _ _ _ _ (by omega), nUpd_at _ _ _ (show 24 + k + 1 < 36 by omega)]
      refine w_callVn (q := 48) hX (c_X5_becomes _ _ hr (p) ((24 + k)) _ (by omega)) rfl kV_X5_becomes rfl (by decide) lk_X5_72 (by decide) rfl oX5 (Nat.le_of_ble_eq_true rfl) dX5_rolls_45 rfl (fun D1 hD1 => ?_)
      subst hD1
      try simp only [xw_at, xw_xw]
      refine v_iinc (q := 51) hX dX5_rolls_48 rfl (Nat.le_of_ble_eq_true rfl) (Nat.le_of_ble_eq_true rfl) rfl ?_
      dsimp only [xs1, xs2, xclr]
      refine v_goto (tgt := 2) hX dX5_rolls_51 (by decide) ?_
      rw [nUpd_fu _ _ _ _ (show 12 + k < 36 by omega), nUpd_fu _ _ _ _ (show 24 + k < 36 by omega), rRl_succ _ (by omega)]
      exact ih (by omega)
  have e0 : nUpd (D 352) p (rRl (nRec (D 352) p) 0) = D 352 := by
    rw [show rRl (nRec (D 352) p) 0 = nRec (D 352) p from funext fun j => if_neg (by omega), nUpd_self]
  refine v_iconst (q := 1) hX dX5_rolls_0 rfl ?_
  refine v_istore_n (q := 2) hX dX5_rolls_1 rfl (Nat.le_of_ble_eq_true rfl) (Nat.le_of_ble_eq_true rfl) rfl ?_
  dsimp only [xs1, xs2, xclr]
  have e1 := L 0 (Nat.zero_le _)
  rw [e0, xw_self] at e1
  exact e1

/-- the copy c of the kept rows becomes the state -/
def kPut (K : Nat → Int) (c : Nat) (N : Nat → Int) (k : Nat) : Nat → Int := fun i => if c * 378 ≤ i ∧ i < c * 378 + k then N (i - c * 378) else K i
def kGet (K : Nat → Int) (c : Nat) (N : Nat → Int) (k : Nat) : Nat → Int := fun i => if i < k then K (c * 378 + i) else N i
theorem kPut_succ (K N : Nat → Int) (c k : Nat) : fu (kPut K c N k) (c * 378 + k) (N k) = kPut K c N (k + 1) := by
  funext i
  unfold fu kPut
  by_cases h1 : i = c * 378 + k
  · subst h1; rw [if_pos rfl, if_pos (by omega), show c * 378 + k - c * 378 = k by omega]
  · rw [if_neg h1]
    by_cases h2 : c * 378 ≤ i ∧ i < c * 378 + k
    · rw [if_pos h2, if_pos (by omega)]
    · rw [if_neg h2, if_neg (by omega)]
theorem kPut_0 (K N : Nat → Int) (c : Nat) : kPut K c N 0 = K := by funext i; exact if_neg (by omega)
theorem kGet_succ (K N : Nat → Int) (c k : Nat) : fu (kGet K c N k) k (K (c * 378 + k)) = kGet K c N (k + 1) := by
  funext i
  unfold fu kGet
  by_cases h1 : i = k
  · subst h1; rw [if_pos rfl, if_pos (by omega)]
  · rw [if_neg h1]
    by_cases h2 : i < k
    · rw [if_pos h2, if_pos (by omega)]
    · rw [if_neg h2, if_neg (by omega)]
theorem kGet_0 (K N : Nat → Int) (c : Nat) : kGet K c N 0 = N := by funext i; exact if_neg (by omega)
/-- the kept rows move down by one copy -/
def kDown (K : Nat → Int) (k : Nat) : Nat → Int := fun i => if i < k then K (i + 378) else K i
theorem kDown_succ (K : Nat → Int) (k : Nat) : fu (kDown K k) k (kDown K k (k + 378)) = kDown K (k + 1) := by
  rw [show kDown K k (k + 378) = K (k + 378) from if_neg (by omega)]
  funext i
  unfold fu kDown
  by_cases h1 : i = k
  · subst h1; rw [if_pos rfl, if_pos (by omega)]
  · rw [if_neg h1]
    by_cases h2 : i < k
    · rw [if_pos h2, if_pos (by omega)]
    · rw [if_neg h2, if_neg (by omega)]
theorem kDown_0 (K : Nat → Int) : kDown K 0 = K := by funext i; exact if_neg (by omega)
theorem xw_comm (D : xD) {a b : Nat} (f g : Nat → Int) (h : a ≠ b) : xw (xw D a f) b g = xw (xw D b g) a f := by
  funext q; unfold xw
  by_cases h1 : q = b
  · rw [if_pos h1, if_neg (by omega), if_pos h1]
  · rw [if_neg h1]
    by_cases h2 : q = a
    · rw [if_pos h2, if_pos h2]
    · rw [if_neg h2, if_neg h2, if_neg h1]
set_option maxRecDepth 100000 in
set_option maxHeartbeats 4000000 in
theorem c_X5_keeps {z : Nat} (D : xD) (r : xR) (hr : xRM r) (c : Nat) (hc : c < 9) : MX 0 mX5_keeps [.ref 351, vi c] (356, z) D r (356, z) (xEn (fun D' => D' = xw D 353 (kPut (D 353) c (D 352) 378)) r) := by
  refine MX.of (by decide +kernel) [some (.ref 351), some (vi c), none] rfl (Nat.le_of_ble_eq_true rfl) ?_
  intro γ hX hRX
  have L : ∀ k, k ≤ 378 → xV γ 2 [some (.ref 351), some (vi c), some (vi (k : Nat))] [] (356, z) (xw D 353 (kPut (D 353) c (D 352) k)) r := by
    refine xup 378 (fun k hk ih => ?_)
    refine v_iload_n (q := 3) hX dX5_keeps_2 rfl rfl rfl ?_
    refine v_sipush (q := 6) hX (by decide) dX5_keeps_3 rfl ?_
    refine v_icmp_ge (q := 9) (tgt := 33) hX ⟨by omega, by omega⟩ (by decide) dX5_keeps_6 (by decide) rfl (fun h6 => ?_) (fun h6 => ?_)
    · refine v_vreturn hX hRX rfl dX5_keeps_33 rfl ?_
      rw [show k = 378 by omega]
      exact ⟨rfl, rfl, rfl⟩
    · refine v_aload_n (q := 10) hX dX5_keeps_9 rfl rfl rfl ?_
      refine w_getR (q := 13) hX fl_X5_13 rfl oX5 hr.2.1 dX5_keeps_10 rfl ?_
      refine v_iload_n (q := 14) hX dX5_keeps_13 rfl rfl rfl ?_
      refine v_sipush (q := 17) hX (by decide) dX5_keeps_14 rfl ?_
      refine v_imul (q := 18) hX dX5_keeps_17 rfl ?_
      refine v_iload_n (q := 19) hX dX5_keeps_18 rfl rfl rfl ?_
      refine v_iadd (q := 20) hX dX5_keeps_19 rfl ?_
      refine v_aload_n (q := 21) hX dX5_keeps_20 rfl rfl rfl ?_
      refine w_getR (q := 24) hX fl_X5_7 rfl oX5 hr.1 dX5_keeps_21 rfl ?_
      refine v_iload_n (q := 25) hX dX5_keeps_24 rfl rfl rfl ?_
      refine w_lld (q := 26) (kk := k) hX (by omega) (by omega) aNow dX5_keeps_25 rfl ?_
      refine w_lst (q := 27) (kk := ((c * 378) + k)) hX (by omega) (by omega) aKept dX5_keeps_26 rfl ?_
      refine v_iinc (q := 30) hX dX5_keeps_27 rfl (Nat.le_of_ble_eq_true rfl) (Nat.le_of_ble_eq_true rfl) rfl ?_
      dsimp only [xs1, xs2, xclr]
      refine v_goto (tgt := 2) hX dX5_keeps_30 (by decide) ?_
      rw [xu_xw']
      have e1 := ih (by omega)
      rw [← kPut_succ] at e1
      exact e1
  refine v_iconst (q := 1) hX dX5_keeps_0 rfl ?_
  refine v_istore_n (q := 2) hX dX5_keeps_1 rfl (Nat.le_of_ble_eq_true rfl) (Nat.le_of_ble_eq_true rfl) rfl ?_
  dsimp only [xs1, xs2, xclr]
  have e1 := L 0 (Nat.zero_le _)
  rw [kPut_0, xw_self] at e1
  exact e1

set_option maxRecDepth 100000 in
set_option maxHeartbeats 4000000 in
theorem c_X5_brings {z : Nat} (D : xD) (r : xR) (hr : xRM r) (c : Nat) (hc : c < 9) : MX 0 mX5_brings [.ref 351, vi c] (356, z) D r (356, z) (xEn (fun D' => D' = xw D 352 (kGet (D 353) c (D 352) 378)) r) := by
  refine MX.of (by decide +kernel) [some (.ref 351), some (vi c), none] rfl (Nat.le_of_ble_eq_true rfl) ?_
  intro γ hX hRX
  have L : ∀ k, k ≤ 378 → xV γ 2 [some (.ref 351), some (vi c), some (vi (k : Nat))] [] (356, z) (xw D 352 (kGet (D 353) c (D 352) k)) r := by
    refine xup 378 (fun k hk ih => ?_)
    refine v_iload_n (q := 3) hX dX5_brings_2 rfl rfl rfl ?_
    refine v_sipush (q := 6) hX (by decide) dX5_brings_3 rfl ?_
    refine v_icmp_ge (q := 9) (tgt := 33) hX ⟨by omega, by omega⟩ (by decide) dX5_brings_6 (by decide) rfl (fun h6 => ?_) (fun h6 => ?_)
    · refine v_vreturn hX hRX rfl dX5_brings_33 rfl ?_
      rw [show k = 378 by omega]
      exact ⟨rfl, rfl, rfl⟩
    · refine v_aload_n (q := 10) hX dX5_brings_9 rfl rfl rfl ?_
      refine w_getR (q := 13) hX fl_X5_7 rfl oX5 hr.1 dX5_brings_10 rfl ?_
      refine v_iload_n (q := 14) hX dX5_brings_13 rfl rfl rfl ?_
      refine v_aload_n (q := 15) hX dX5_brings_14 rfl rfl rfl ?_
      refine w_getR (q := 18) hX fl_X5_13 rfl oX5 hr.2.1 dX5_brings_15 rfl ?_
      refine v_iload_n (q := 19) hX dX5_brings_18 rfl rfl rfl ?_
      refine v_sipush (q := 22) hX (by decide) dX5_brings_19 rfl ?_
      refine v_imul (q := 23) hX dX5_brings_22 rfl ?_
      refine v_iload_n (q := 24) hX dX5_brings_23 rfl rfl rfl ?_
      refine v_iadd (q := 25) hX dX5_brings_24 rfl ?_
      refine w_lld (q := 26) (kk := ((c * 378) + k)) hX (by omega) (by omega) aKept dX5_brings_25 rfl ?_
      refine w_lst (q := 27) (kk := k) hX (by omega) (by omega) aNow dX5_brings_26 rfl ?_
      refine v_iinc (q := 30) hX dX5_brings_27 rfl (Nat.le_of_ble_eq_true rfl) (Nat.le_of_ble_eq_true rfl) rfl ?_
      dsimp only [xs1, xs2, xclr]
      refine v_goto (tgt := 2) hX dX5_brings_30 (by decide) ?_
      rw [xu_xw']
      have e1 := ih (by omega)
      rw [← kGet_succ] at e1
      exact e1
  refine v_iconst (q := 1) hX dX5_brings_0 rfl ?_
  refine v_istore_n (q := 2) hX dX5_brings_1 rfl (Nat.le_of_ble_eq_true rfl) (Nat.le_of_ble_eq_true rfl) rfl ?_
  dsimp only [xs1, xs2, xclr]
  have e1 := L 0 (Nat.zero_le _)
  rw [kGet_0, xw_self] at e1
  exact e1

