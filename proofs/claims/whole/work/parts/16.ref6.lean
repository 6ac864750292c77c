/-! ===== planning, in plain numbers ===== -/
theorem bit_at (x k : Nat) : x >>> k % 2 = (x.testBit k).toNat := by rw [Nat.toNat_testBit, Nat.shiftRight_eq_div_pow]
theorem bit_or (m b k : Nat) : (m ||| 2 ^ b) >>> k % 2 = if k = b then 1 else m >>> k % 2 := by
  rw [bit_at, bit_at, Nat.testBit_or, Nat.testBit_two_pow]
  by_cases h : k = b
  · subst h; simp
  · rw [if_neg h]; simp [Ne.symm h]
def nFree (asked : Nat) : Nat → Nat
  | 0 => 0
  | k + 1 => nFree asked k + (if asked >>> k % 2 = 0 then 1 else 0)
theorem nFree_hi (asked b : Nat) : ∀ k, k ≤ b → nFree (asked ||| 2 ^ b) k = nFree asked k := by
  intro k
  induction k with
  | zero => intro _; rfl
  | succ k ih => intro h; unfold nFree; rw [ih (by omega), bit_or, if_neg (show ¬ k = b by omega)]
theorem nFree_or (asked b : Nat) (h0 : asked >>> b % 2 = 0) : ∀ k, b < k → nFree (asked ||| 2 ^ b) k + 1 = nFree asked k := by
  intro k
  induction k with
  | zero => intro h; omega
  | succ k ih =>
    intro h
    unfold nFree
    by_cases hk : k = b
    · subst hk
      rw [nFree_hi _ _ _ (Nat.le_refl _), bit_or, if_pos rfl, if_pos h0]; simp
    · have := ih (by omega)
      rw [bit_or, if_neg hk]
      omega
theorem nFree_pos (asked b : Nat) (h0 : asked >>> b % 2 = 0) : ∀ k, b < k → 1 ≤ nFree asked k := fun k h => by have := nFree_or asked b h0 k h; omega
theorem nFree_0 : ∀ k, nFree 0 k = k := by
  intro k
  induction k with
  | zero => rfl
  | succ k ih => unfold nFree; rw [ih, Nat.zero_shiftRight]; rfl
/-- the lots that a product gets in a week -/
def nGive (N : Nat → Int) (np p w : Nat) : Int := if nWant N p w < nRoom N np p w then nWant N p w else nRoom N np p w
/-- a week is planned: m products are still to be asked at most -/
def nPW (np w : Nat) : Nat → Nat → (Nat → Int) → Nat → Int
  | 0, _, N => N
  | m + 1, asked, N => if nNext N w asked np = -6 then N else nPW np w m (asked ||| 2 ^ (nNext N w asked np).toNat) (fu N (18 + 36 * (nNext N w asked np).toNat + (24 + w)) (nGive N np (nNext N w asked np).toNat w))
theorem pF_fuP (N : Nat → Int) (p a : Nat) (e : Int) {q j : Nat} (ha : a < 36) (hj : j < 36) : pF (fu N (18 + 36 * p + a) e) q j = if q = p ∧ j = a then e else pF N q j := by
  show (if 18 + 36 * q + j = 18 + 36 * p + a then e else N (18 + 36 * q + j)) = _
  by_cases h : q = p ∧ j = a
  · rw [if_pos h, if_pos (by omega)]
  · rw [if_neg h, if_neg (by omega)]
theorem nOk.put {B : Int} {np : Nat} {N : Nat → Int} (h : nOk B np N) {p k : Nat} {v : Int} (hp : p < np) (hk : k < 12) (hv : 0 ≤ v ∧ v ≤ 1000) : nOk B np (fu N (18 + 36 * p + (24 + k)) v) := by
  obtain ⟨h1, h2, h3, h4, h5, h6⟩ := h
  have hd : ∀ i, i < 18 → fu N (18 + 36 * p + (24 + k)) v i = N i := fun i hi => fu_ne N _ v (by omega)
  refine ⟨h1, by rw [hd 1 (by decide)]; exact h2, h3, ?_, fun f hf => by rw [hd _ (by omega)]; exact h5 f hf, fun q hq => ?_⟩
  · rw [hd 5 (by decide), hd 6 (by decide), hd 7 (by decide), hd 8 (by decide), hd 9 (by decide), hd 10 (by decide), hd 11 (by decide), hd 12 (by decide), hd 13 (by decide)]
    exact h4
  · have hq0 := h6 q hq
    have e : ∀ j, j < 36 → pF (fu N (18 + 36 * p + (24 + k)) v) q j = if q = p ∧ j = 24 + k then v else pF N q j := fun j hj => pF_fuP N p _ v (by omega) hj
    unfold pOk
    rw [e 0 (by decide), e 1 (by decide), e 2 (by decide), e 3 (by decide), e 4 (by decide), e 5 (by decide), e 6 (by decide), e 7 (by decide)]
    simp only [show ¬ (q = p ∧ 0 = 24 + k) by omega, show ¬ (q = p ∧ 1 = 24 + k) by omega, show ¬ (q = p ∧ 2 = 24 + k) by omega, show ¬ (q = p ∧ 3 = 24 + k) by omega, show ¬ (q = p ∧ 4 = 24 + k) by omega, show ¬ (q = p ∧ 5 = 24 + k) by omega, show ¬ (q = p ∧ 6 = 24 + k) by omega, show ¬ (q = p ∧ 7 = 24 + k) by omega, if_false]
    obtain ⟨a1, a2, a3, a4, a5, a6, a7, a8, a9, a10⟩ := hq0
    refine ⟨a1, a2, a3, a4, a5, a6, a7, a8, fun i hi => ?_, fun i hi => ?_⟩
    · rw [e _ (by omega), if_neg (by omega)]; exact a9 i hi
    · rw [e _ (by omega)]
      split
      · exact hv
      · exact a10 i hi
theorem nRoom_le {B : Int} {np : Nat} {N : Nat → Int} (h : nOk B np N) {p w : Nat} (hp : p < np) (hw : w < 12) : 0 ≤ nRoom N np p w ∧ nRoom N np p w ≤ 1000 := by
  have hl := h.lots hp hw
  obtain ⟨-, -, h2, -⟩ := h.2.2.2.2.2 p hp
  have h0 : 0 ≤ (if 0 < nLeft N np p w then nLeft N np p w / pF N p 2 else 0) := by
    split
    · exact Int.ediv_nonneg (by omega) (by omega)
    · omega
  unfold nRoom
  split <;> omega
theorem nWant_le {B : Int} {np : Nat} {N : Nat → Int} (h : nOk B np N) {p w : Nat} (hp : p < np) (hw : w < 12) (hl : nPj N p (w + 1) < nCov N p) : 0 ≤ nWant N p w ∧ nWant N p w ≤ B + 40100 := by
  have h1 := nUnits_le h hp hw hl
  obtain ⟨-, h2, -⟩ := h.2.2.2.2.2 p hp
  have h3 := div_le_self' (a := nUnits N p w + pF N p 1 - 1) (b := pF N p 1) (by omega) h2.1
  unfold nWant
  omega
theorem nGive_le {B : Int} {np : Nat} {N : Nat → Int} (h : nOk B np N) {p w : Nat} (hp : p < np) (hw : w < 12) (hl : nPj N p (w + 1) < nCov N p) : 0 ≤ nGive N np p w ∧ nGive N np p w ≤ 1000 := by
  have h1 := nRoom_le h hp hw
  have h2 := nWant_le h hp hw hl
  unfold nGive
  split <;> omega
theorem nPW_ok {B : Int} {np w : Nat} (hw : w < 12) : ∀ m asked N, nOk B np N → nOk B np (nPW np w m asked N) := by
  intro m
  induction m with
  | zero => intro asked N h; exact h
  | succ m ih =>
    intro asked N h
    unfold nPW
    split
    · exact h
    · rename_i h6
      obtain ⟨b, h1, h2, h3, h4⟩ := (nNext_in N w asked np).resolve_left h6
      rw [h1]
      exact ih _ _ (h.put h2 hw (nGive_le h h2 hw h4))
/-- weeks f, f + 1 .. are planned, j of them -/
def nPlW (np f : Nat) : Nat → (Nat → Int) → Nat → Int
  | 0, N => N
  | j + 1, N => nPW np (f + j) np 0 (nPlW np f j N)
theorem nPlW_ok {B : Int} {np f : Nat} : ∀ j N, f + j ≤ 12 → nOk B np N → nOk B np (nPlW np f j N) := by
  intro j
  induction j with
  | zero => intro N _ h; exact h
  | succ j ih => intro N hj h; exact nPW_ok (by omega) _ _ _ (ih N (by omega) h)
def rZ (f k : Nat) (q : Nat → Int) : Nat → Int := fun j => if 24 + f ≤ j ∧ j < 24 + k then 0 else q j
theorem rZ_succ (q : Nat → Int) {f k : Nat} (h : f ≤ k) : fu (rZ f k q) (24 + k) 0 = rZ f (k + 1) q := by
  funext j
  unfold fu rZ
  by_cases h1 : j = 24 + k
  · rw [if_pos h1, if_pos (by omega)]
  · rw [if_neg h1]
    by_cases h2 : 24 + f ≤ j ∧ j < 24 + k
    · rw [if_pos h2, if_pos (by omega)]
    · rw [if_neg h2, if_neg (by omega)]
theorem rZ_0 (q : Nat → Int) (f : Nat) : rZ f f q = q := by funext j; exact if_neg (by omega)
def nPlan (np f : Nat) (N : Nat → Int) : Nat → Int := nPlW np f (12 - f) (nMap N np (rZ f 12))
/-- each product's record is in its ranges behind F where it was ahead of it -/
theorem nOk.map {B B' : Int} {np k : Nat} {N : Nat → Int} {F : (Nat → Int) → Nat → Int} (h : nOk B np N) (hB : 0 ≤ B' ∧ B' ≤ 2100000000) (hBB : B ≤ B') (hk : k ≤ np) (hF : ∀ p, p < k → pOk B' (nMap N k F) p) : nOk B' np (nMap N k F) := by
  obtain ⟨h1, h2, h3, h4, h5, h6⟩ := h
  have hd : ∀ i, i < 18 → nMap N k F i = N i := fun i hi => nMap_hd N k F hi
  refine ⟨hB, by rw [hd 1 (by decide)]; exact h2, h3, ?_, fun f hf => by rw [hd _ (by omega)]; exact h5 f hf, fun p hp => ?_⟩
  · rw [hd 5 (by decide), hd 6 (by decide), hd 7 (by decide), hd 8 (by decide), hd 9 (by decide), hd 10 (by decide), hd 11 (by decide), hd 12 (by decide), hd 13 (by decide)]
    exact h4
  · by_cases hpk : p < k
    · exact hF p hpk
    · have e : ∀ j, pF (nMap N k F) p j = pF N p j := fun j => nMap_ge N F (by omega)
      have q := h6 p hp
      unfold pOk at q ⊢
      simp only [e]
      obtain ⟨a1, a2, a3, a4, a5, a6, a7, a8, a9, a10⟩ := q
      exact ⟨a1, a2, a3, a4, ⟨a5.1, by omega⟩, ⟨a6.1, by omega⟩, a7, a8, a9, a10⟩
theorem nOk.zero {B : Int} {np : Nat} {N : Nat → Int} (h : nOk B np N) (f : Nat) {k : Nat} (hk : k ≤ np) : nOk B np (nMap N k (rZ f 12)) := by
  refine h.map h.1 (Int.le_refl _) hk fun p hp => ?_
  have q := h.2.2.2.2.2 p (by omega)
  have e : ∀ j, j < 24 → pF (nMap N k (rZ f 12)) p j = pF N p j := fun j hj => by rw [nMap_at N _ hp (by omega)]; exact if_neg (by omega)
  unfold pOk at q ⊢
  rw [e 0 (by decide), e 1 (by decide), e 2 (by decide), e 3 (by decide), e 4 (by decide), e 5 (by decide), e 6 (by decide), e 7 (by decide)]
  obtain ⟨a1, a2, a3, a4, a5, a6, a7, a8, a9, a10⟩ := q
  refine ⟨a1, a2, a3, a4, a5, a6, a7, a8, fun i hi => by rw [e _ (by omega)]; exact a9 i hi, fun i hi => ?_⟩
  rw [nMap_at N _ hp (by omega)]
  unfold rZ
  split
  · omega
  · exact a10 i hi
theorem nPlan_ok {B : Int} {np f : Nat} {N : Nat → Int} (h : nOk B np N) (hf : f ≤ 8) : nOk B np (nPlan np f N) := nPlW_ok _ _ (by omega) (h.zero f (Nat.le_refl _))
set_option maxRecDepth 100000 in
set_option maxHeartbeats 4000000 in
theorem c_X5_plansWeek {z : Nat} (D : xD) (r : xR) (hr : xRM r) {B : Int} {np : Nat} (hO : nOk B np (D 352)) (w : Nat) (hw : w < 12) : MX 5 mX5_plansWeek [.ref 351, vi w] (356, z) D r (356, z) (xEn (fun D' => D' = xw D 352 (nPW np w np 0 (D 352))) r) := by
  refine MX.of (by decide +kernel) [some (.ref 351), some (vi w), none, none, none, none, none, none] rfl (Nat.le_of_ble_eq_true rfl) ?_
  intro γ hX hRX
  have L : ∀ (m asked : Nat) (N : Nat → Int), asked < 1024 → nFree asked np = m → nOk B np N → nPW np w m asked N = nPW np w np 0 (D 352) →
      xV γ 9 [some (.ref 351), some (vi w), some (vi (asked : Nat)), some (vi (nNext N w asked np)), none, none, none, none] [] (356, z) (xw D 352 N) r := by
    intro m
    induction m with
    | zero =>
      intro asked N ha hm hN hE
      have hn := hN.np
      have hx : nNext N w asked np = -6 := (nNext_in N w asked np).resolve_right (fun ⟨b, h1, h2, h3, h4⟩ => by have := nFree_pos asked b h3 np h2; omega)
      rw [hx]
      refine v_iload_n (q := 10) hX dX5_plansWeek_9 rfl rfl rfl ?_
      refine v_bipush (q := 12) hX (by decide) dX5_plansWeek_10 rfl ?_
      refine v_icmp_eq (q := 15) (tgt := 71) hX (by decide) (by decide) dX5_plansWeek_12 (by decide) rfl (fun h12 => ?_) (fun h12 => ?_)
      · refine v_vreturn hX hRX rfl dX5_plansWeek_71 rfl ?_
        exact ⟨rfl, rfl, by rw [← hE]; rfl⟩
      · exact absurd rfl h12
    | succ m ih =>
      intro asked N ha hm hN hE
      have hn := hN.np
      have hB := hN.1
      have hx := nNext_in N w asked np
      have hx2 : -6 ≤ nNext N w asked np ∧ nNext N w asked np ≤ 10 := by rcases hx with h | ⟨b, h1, h2, -⟩ <;> omega
      refine v_iload_n (q := 10) hX dX5_plansWeek_9 rfl rfl rfl ?_
      refine v_bipush (q := 12) hX (by decide) dX5_plansWeek_10 rfl ?_
      refine v_icmp_eq (q := 15) (tgt := 71) hX ⟨by omega, by omega⟩ (by decide) dX5_plansWeek_12 (by decide) rfl (fun h12 => ?_) (fun h12 => ?_)
      · refine v_vreturn hX hRX rfl dX5_plansWeek_71 rfl ?_
        exact ⟨rfl, rfl, by rw [← hE, nPW, if_pos h12]⟩
      · obtain ⟨b, hb1, hb2, hb3, hb4⟩ := hx.resolve_left h12
        have hlt : asked ||| 2 ^ b < 1024 := Nat.or_lt_two_pow (n := 10) ha (Nat.pow_lt_pow_right (by decide) (show b < 10 by omega))
        have hfr := nFree_or asked b hb3 np hb2
        have q1 := nRoom_le hN hb2 hw
        have q2 := nWant_le hN hb2 hw hb4
        have q3 := nGive_le hN hb2 hw hb4
        rw [hb1]
        refine v_iload_n (q := 16) hX dX5_plansWeek_15 rfl rfl rfl ?_
        refine v_iconst (q := 17) hX dX5_plansWeek_16 rfl ?_
        refine v_iload_n (q := 18) hX dX5_plansWeek_17 rfl rfl rfl ?_
        refine v_ishl (q := 19) hX (_) (bshl10 b (by omega)) dX5_plansWeek_18 rfl ?_
        refine v_ior (q := 20) hX (((asked ||| 2 ^ b : Nat) : Int)) (bor1k asked ha b (by omega)) dX5_plansWeek_19 rfl ?_
        refine v_istore_n (q := 21) hX dX5_plansWeek_20 rfl (Nat.le_of_ble_eq_true rfl) (Nat.le_of_ble_eq_true rfl) rfl ?_
        dsimp only [xs1, xs2, xclr]
        refine v_aload_n (q := 22) hX dX5_plansWeek_21 rfl rfl rfl ?_
        refine v_iload_n (q := 23) hX dX5_plansWeek_22 rfl rfl rfl ?_
        refine v_iload_n (q := 24) hX dX5_plansWeek_23 rfl rfl rfl ?_
        refine w_callV (q := 27) hX (c_X5_wanted _ _ hr hN (b) (w) (by omega) (by omega) hb4) rfl kV_X5_wanted rfl (by decide) lk_X5_108 (by decide) rfl oX5 (Nat.le_of_ble_eq_true rfl) dX5_plansWeek_24 rfl ?_
        try simp only [xw_at, xw_xw]
        refine v_lstore (q := 29) hX dX5_plansWeek_27 (Nat.le_of_ble_eq_true rfl) (Nat.le_of_ble_eq_true rfl) rfl ?_
        dsimp only [xs1, xs2, xclr]
        refine v_aload_n (q := 30) hX dX5_plansWeek_29 rfl rfl rfl ?_
        refine v_iload_n (q := 31) hX dX5_plansWeek_30 rfl rfl rfl ?_
        refine v_iload_n (q := 32) hX dX5_plansWeek_31 rfl rfl rfl ?_
        refine w_callV (q := 35) hX (c_X5_room _ _ hr hN (b) (w) (by omega) (by omega)) rfl kV_X5_room rfl (by decide) lk_X5_111 (by decide) rfl oX5 (Nat.le_of_ble_eq_true rfl) dX5_plansWeek_32 rfl ?_
        try simp only [xw_at, xw_xw]
        refine v_lstore (q := 37) hX dX5_plansWeek_35 (Nat.le_of_ble_eq_true rfl) (Nat.le_of_ble_eq_true rfl) rfl ?_
        dsimp only [xs1, xs2, xclr]
        refine v_aload_n (q := 38) hX dX5_plansWeek_37 rfl rfl rfl ?_
        refine v_iload_n (q := 39) hX dX5_plansWeek_38 rfl rfl rfl ?_
        refine v_bipush (q := 41) hX (by decide) dX5_plansWeek_39 rfl ?_
        refine v_iload_n (q := 42) hX dX5_plansWeek_41 rfl rfl rfl ?_
        refine v_iadd (q := 43) hX dX5_plansWeek_42 rfl ?_
        refine v_lload (q := 45) hX dX5_plansWeek_43 rfl rfl ?_
        refine v_lload (q := 47) hX dX5_plansWeek_45 rfl rfl ?_
        refine v_lcmp_ge (q := 51) (tgt := 56) hX ⟨by omega, by omega⟩ ⟨by omega, by omega⟩ dX5_plansWeek_47 dX5_plansWeek_48 (by decide) rfl (fun h47 => ?_) (fun h47 => ?_)
        · refine v_lload (q := 58) hX dX5_plansWeek_56 rfl rfl ?_
          refine w_callVn (q := 61) hX (c_X5_becomes _ _ hr (b) ((24 + w)) _ (by omega)) rfl kV_X5_becomes rfl (by decide) lk_X5_72 (by decide) rfl oX5 (Nat.le_of_ble_eq_true rfl) dX5_plansWeek_58 rfl (fun D1 hD1 => ?_)
          subst hD1
          try simp only [xw_at, xw_xw]
          have hgv : nGive N np b w = (if nWant N b w < nRoom N np b w then nWant N b w else nRoom N np b w) := rfl
          first | rw [if_pos h47] at hgv | rw [if_neg (Int.not_lt.mpr h47)] at hgv
          rw [← hgv]
          have hN2 := hN.put hb2 hw q3
          refine v_aload_n (q := 62) hX dX5_plansWeek_61 rfl rfl rfl ?_
          refine v_iload_n (q := 63) hX dX5_plansWeek_62 rfl rfl rfl ?_
          refine v_iload_n (q := 64) hX dX5_plansWeek_63 rfl rfl rfl ?_
          refine w_callV (q := 67) hX (c_X5_nextOf _ _ hr hN2 w (asked ||| 2 ^ b) (by omega) hlt) rfl kV_X5_nextOf rfl (by decide) lk_X5_104 (by decide) rfl oX5 (Nat.le_of_ble_eq_true rfl) dX5_plansWeek_64 rfl ?_
          try simp only [xw_at, xw_xw]
          refine v_istore_n (q := 68) hX dX5_plansWeek_67 rfl (Nat.le_of_ble_eq_true rfl) (Nat.le_of_ble_eq_true rfl) rfl ?_
          dsimp only [xs1, xs2, xclr]
          refine v_goto (tgt := 9) hX dX5_plansWeek_68 (by decide) ?_
          have e1 := ih (asked ||| 2 ^ b) _ hlt (by omega) hN2 (by rw [← hE, nPW, if_neg h12, hb1]; rfl)
          exact xVw (by repeat' first | exact trivial | refine And.intro rfl ?_) e1
        · refine v_lload (q := 53) hX dX5_plansWeek_51 rfl rfl ?_
          refine v_goto (tgt := 58) hX dX5_plansWeek_53 (by decide) ?_
          refine w_callVn (q := 61) hX (c_X5_becomes _ _ hr (b) ((24 + w)) _ (by omega)) rfl kV_X5_becomes rfl (by decide) lk_X5_72 (by decide) rfl oX5 (Nat.le_of_ble_eq_true rfl) dX5_plansWeek_58 rfl (fun D1 hD1 => ?_)
          subst hD1
          try simp only [xw_at, xw_xw]
          have hgv : nGive N np b w = (if nWant N b w < nRoom N np b w then nWant N b w else nRoom N np b w) := rfl
          first | rw [if_pos h47] at hgv | rw [if_neg (Int.not_lt.mpr h47)] at hgv
          rw [← hgv]
          have hN2 := hN.put hb2 hw q3
          refine v_aload_n (q := 62) hX dX5_plansWeek_61 rfl rfl rfl ?_
          refine v_iload_n (q := 63) hX dX5_plansWeek_62 rfl rfl rfl ?_
          refine v_iload_n (q := 64) hX dX5_plansWeek_63 rfl rfl rfl ?_
          refine w_callV (q := 67) hX (c_X5_nextOf _ _ hr hN2 w (asked ||| 2 ^ b) (by omega) hlt) rfl kV_X5_nextOf rfl (by decide) lk_X5_104 (by decide) rfl oX5 (Nat.le_of_ble_eq_true rfl) dX5_plansWeek_64 rfl ?_
          try simp only [xw_at, xw_xw]
          refine v_istore_n (q := 68) hX dX5_plansWeek_67 rfl (Nat.le_of_ble_eq_true rfl) (Nat.le_of_ble_eq_true rfl) rfl ?_
          dsimp only [xs1, xs2, xclr]
          refine v_goto (tgt := 9) hX dX5_plansWeek_68 (by decide) ?_
          have e1 := ih (asked ||| 2 ^ b) _ hlt (by omega) hN2 (by rw [← hE, nPW, if_neg h12, hb1]; rfl)
          exact xVw (by repeat' first | exact trivial | refine And.intro rfl ?_) e1
  have hn := hO.np
  refine v_iconst (q := 1) hX dX5_plansWeek_0 rfl ?_
  refine v_istore_n (q := 2) hX dX5_plansWeek_1 rfl (Nat.le_of_ble_eq_true rfl) (Nat.le_of_ble_eq_true rfl) rfl ?_
  dsimp only [xs1, xs2, xclr]
  refine v_aload_n (q := 3) hX dX5_plansWeek_2 rfl rfl rfl ?_
  refine v_iload_n (q := 4) hX dX5_plansWeek_3 rfl rfl rfl ?_
  refine v_iload_n (q := 5) hX dX5_plansWeek_4 rfl rfl rfl ?_
  refine w_callV (q := 8) hX (c_X5_nextOf _ _ hr hO (w) (0) (by omega) (by omega)) rfl kV_X5_nextOf rfl (by decide) lk_X5_104 (by decide) rfl oX5 (Nat.le_of_ble_eq_true rfl) dX5_plansWeek_5 rfl ?_
  refine v_istore_n (q := 9) hX dX5_plansWeek_8 rfl (Nat.le_of_ble_eq_true rfl) (Nat.le_of_ble_eq_true rfl) rfl ?_
  dsimp only [xs1, xs2, xclr]
  have e1 := L np 0 (D 352) (by decide) (nFree_0 np) hO rfl
  rw [xw_self] at e1
  exact xVw (by repeat' first | exact trivial | refine And.intro rfl ?_) e1

set_option maxRecDepth 100000 in
set_option maxHeartbeats 4000000 in
theorem c_X5_plans {z : Nat} (D : xD) (r : xR) (hr : xRM r) {B : Int} {np : Nat} (hO : nOk B np (D 352)) (f : Nat) (hf1 : D 352 7 = (f : Int)) (hf2 : f ≤ 8) : MX 6 mX5_plans [.ref 351] (356, z) D r (356, z) (xEn (fun D' => D' = xw D 352 (nPlan np f (D 352))) r) := by
  refine MX.of (by decide +kernel) [some (.ref 351), none, none] rfl (Nat.le_of_ble_eq_true rfl) ?_
  intro γ hX hRX
  have hn := hO.np
  have W : ∀ j, j ≤ 12 - f → xV γ 52 [some (.ref 351), some (vi ((f + j : Nat) : Int)), none] [] (356, z) (xw D 352 (nPlW np f j (nMap (D 352) np (rZ f 12)))) r := by
    refine xup (12 - f) (fun j hj ih => ?_)
    have hN := nPlW_ok (f := f) j _ (by omega) (hO.zero f (Nat.le_refl np))
    refine v_iload_n (q := 53) hX dX5_plans_52 rfl rfl rfl ?_
    refine v_bipush (q := 55) hX (by decide) dX5_plans_53 rfl ?_
    refine v_icmp_ge (q := 58) (tgt := 69) hX ⟨by omega, by omega⟩ (by decide) dX5_plans_55 (by decide) rfl (fun h55 => ?_) (fun h55 => ?_)
    · refine v_vreturn hX hRX rfl dX5_plans_69 rfl ?_
      exact ⟨rfl, rfl, by rw [show j = 12 - f by omega]; rfl⟩
    · refine v_aload_n (q := 59) hX dX5_plans_58 rfl rfl rfl ?_
      refine v_iload_n (q := 60) hX dX5_plans_59 rfl rfl rfl ?_
      refine w_callVn (q := 63) hX (c_X5_plansWeek _ _ hr hN (f + j) (by omega)) rfl kV_X5_plansWeek rfl (by decide) lk_X5_118 (by decide) rfl oX5 (Nat.le_of_ble_eq_true rfl) dX5_plans_60 rfl (fun D1 hD1 => ?_)
      subst hD1
      try simp only [xw_at, xw_xw]
      refine v_iinc (q := 66) hX dX5_plans_63 rfl (Nat.le_of_ble_eq_true rfl) (Nat.le_of_ble_eq_true rfl) rfl ?_
      dsimp only [xs1, xs2, xclr]
      refine v_goto (tgt := 52) hX dX5_plans_66 (by decide) ?_
      exact ih (by omega)
  have L : ∀ p, p ≤ np → xV γ 2 [some (.ref 351), some (vi (p : Nat)), none] [] (356, z) (xw D 352 (nMap (D 352) p (rZ f 12))) r := by
    refine xup np (fun p hp ih => ?_)
    have hN1 : nMap (D 352) p (rZ f 12) 1 = (np : Int) := by rw [nMap_hd _ _ _ (by decide)]; exact hn.1
    have hN7 : nMap (D 352) p (rZ f 12) 7 = (f : Int) := by rw [nMap_hd _ _ _ (by decide)]; exact hf1
    have I : p < np → ∀ j, j ≤ 12 - f → xV γ 19 [some (.ref 351), some (vi (p : Nat)), some (vi ((f + j : Nat) : Int))] [] (356, z) (xw D 352 (nUpd (nMap (D 352) p (rZ f 12)) p (rZ f (f + j) (nRec (nMap (D 352) p (rZ f 12)) p)))) r := by
      intro hpn
      refine xup (12 - f) (fun j hj ih2 => ?_)
      refine v_iload_n (q := 20) hX dX5_plans_19 rfl rfl rfl ?_
      refine v_bipush (q := 22) hX (by decide) dX5_plans_20 rfl ?_
      refine v_icmp_ge (q := 25) (tgt := 41) hX ⟨by omega, by omega⟩ (by decide) dX5_plans_22 (by decide) rfl (fun h22 => ?_) (fun h22 => ?_)
      · rw [show f + j = 12 by omega, nMap_succ]
        refine v_iinc (q := 44) hX dX5_plans_41 rfl (Nat.le_of_ble_eq_true rfl) (Nat.le_of_ble_eq_true rfl) rfl ?_
        dsimp only [xs1, xs2, xclr]
        refine v_goto (tgt := 2) hX dX5_plans_44 (by decide) ?_
        exact xVw (by repeat' first | exact trivial | refine And.intro rfl ?_) (ih hpn)
      · refine v_aload_n (q := 26) hX dX5_plans_25 rfl rfl rfl ?_
        refine v_iload_n (q := 27) hX dX5_plans_26 rfl rfl rfl ?_
        refine v_bipush (q := 29) hX (by decide) dX5_plans_27 rfl ?_
        refine v_iload_n (q := 30) hX dX5_plans_29 rfl rfl rfl ?_
        refine v_iadd (q := 31) hX dX5_plans_30 rfl ?_
        refine v_lconst (q := 32) (e := 0) hX (by decide) dX5_plans_31 rfl ?_
        refine w_callVn (q := 35) hX (c_X5_becomes _ _ hr (p) ((24 + (f + j))) _ (by omega)) rfl kV_X5_becomes rfl (by decide) lk_X5_72 (by decide) rfl oX5 (Nat.le_of_ble_eq_true rfl) dX5_plans_32 rfl (fun D1 hD1 => ?_)
        subst hD1
        try simp only [xw_at, xw_xw]
        refine v_iinc (q := 38) hX dX5_plans_35 rfl (Nat.le_of_ble_eq_true rfl) (Nat.le_of_ble_eq_true rfl) rfl ?_
        dsimp only [xs1, xs2, xclr]
        refine v_goto (tgt := 19) hX dX5_plans_38 (by decide) ?_
        rw [nUpd_fu _ _ _ _ (show 24 + (f + j) < 36 by omega), rZ_succ _ (by omega)]
        exact ih2 (by omega)
    refine v_iload_n (q := 3) hX dX5_plans_2 rfl rfl rfl ?_
    refine v_i2l (q := 4) hX ⟨by omega, by omega⟩ dX5_plans_3 rfl ?_
    refine v_aload_n (q := 5) hX dX5_plans_4 rfl rfl rfl ?_
    refine w_getR (q := 8) hX fl_X5_7 rfl oX5 hr.1 dX5_plans_5 rfl ?_
    refine v_iconst (q := 9) hX dX5_plans_8 rfl ?_
    refine w_lld (q := 10) (kk := 1) hX (by omega) (by omega) aNow dX5_plans_9 rfl ?_
    try simp only [xw_at]
    rw [hN1]
    refine v_lcmp_ge (q := 14) (tgt := 47) hX ⟨by omega, by omega⟩ ⟨by omega, by omega⟩ dX5_plans_10 dX5_plans_11 (by decide) rfl (fun h10 => ?_) (fun h10 => ?_)
    · obtain rfl : p = np := by omega
      refine v_aload_n (q := 48) hX dX5_plans_47 rfl rfl rfl ?_
      refine w_callV (q := 51) hX (c_X5_fence _ _ hr) rfl kV_X5_fence rfl (by decide) lk_X5_114 (by decide) rfl oX5 (Nat.le_of_ble_eq_true rfl) dX5_plans_48 rfl ?_
      try simp only [xw_at, xw_xw]
      rw [hN7]
      refine v_istore_n (q := 52) hX dX5_plans_51 rfl (Nat.le_of_ble_eq_true rfl) (Nat.le_of_ble_eq_true rfl) rfl ?_
      dsimp only [xs1, xs2, xclr]
      exact W 0 (Nat.zero_le _)
    · refine v_aload_n (q := 15) hX dX5_plans_14 rfl rfl rfl ?_
      refine w_callV (q := 18) hX (c_X5_fence _ _ hr) rfl kV_X5_fence rfl (by decide) lk_X5_114 (by decide) rfl oX5 (Nat.le_of_ble_eq_true rfl) dX5_plans_15 rfl ?_
      try simp only [xw_at, xw_xw]
      rw [hN7]
      refine v_istore_n (q := 19) hX dX5_plans_18 rfl (Nat.le_of_ble_eq_true rfl) (Nat.le_of_ble_eq_true rfl) rfl ?_
      dsimp only [xs1, xs2, xclr]
      have e1 := I (by omega) 0 (Nat.zero_le _)
      rw [Nat.add_zero, rZ_0, nUpd_self] at e1
      exact e1
  refine v_iconst (q := 1) hX dX5_plans_0 rfl ?_
  refine v_istore_n (q := 2) hX dX5_plans_1 rfl (Nat.le_of_ble_eq_true rfl) (Nat.le_of_ble_eq_true rfl) rfl ?_
  dsimp only [xs1, xs2, xclr]
  have e1 := L 0 (Nat.zero_le _)
  rw [nMap_0, xw_self] at e1
  exact e1

