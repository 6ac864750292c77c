/-! ===== the law: a call, there and here ===== -/
def Jst (κ : Int → Value) (dc dm : Nat) (μc μm : xM) (as : List Value) (z : Nat) (D : xD) (r : xR) (B : Int) : Prop :=
  ∃ (e : Int) (P : Option Value → xD → xR → Prop), MX dc μc (.ref 4 :: as) (356, z) D r (356, z) P ∧ ∀ v D1 r1, P v D1 r1 → v = some (κ e) ∧ ∃ P2, MX dm μm (.ref 351 :: as) (356, z) D1 r1 (356, z) P2 ∧ ∀ v2 D2 r2, P2 v2 D2 r2 → v2 = some (κ e) ∧ JI D2 r2 (B + 4100000)
theorem JX.up {D : xD} {r : xR} {B : Int} {np n s : Nat} {π q : Nat → Nat} (h : JX D r B np n s π q) (hB : B + 4100000 ≤ 2100000000) : JI D r (B + 4100000) := ⟨np, n, s, π, q, h.mono (by omega) hB⟩
theorem Jst.pure {κ : Int → Value} {dc dm : Nat} {μc μm : xM} {as : List Value} {z : Nat} {D : xD} {r : xR} {B : Int} {np n s : Nat} {π q : Nat → Nat} (h : JX D r B np n s π q) (hB : B + 4100000 ≤ 2100000000) {e : Int}
    (h1 : MX dc μc (.ref 4 :: as) (356, z) D r (356, z) (xP (κ e) D r)) (h2 : MX dm μm (.ref 351 :: as) (356, z) D r (356, z) (xP (κ e) D r)) : Jst κ dc dm μc μm as z D r B :=
  ⟨e, _, h1, fun v D1 r1 g => by
    obtain ⟨g1, rfl, rfl⟩ := g
    exact ⟨g1, _, h2, fun v2 D2 r2 k => by obtain ⟨k1, rfl, rfl⟩ := k; exact ⟨k1, h.up hB⟩⟩⟩
/-- rows of the reference are as they were behind a change of the class -/
def jE (D D1 : xD) : Prop := D1 351 = D 351 ∧ D1 352 = D 352 ∧ D1 353 = D 353 ∧ D1 354 = D 354 ∧ D1 355 = D 355
theorem Jst.chg {κ : Int → Value} {dc dm : Nat} {μc μm : xM} {as : List Value} {z : Nat} {D : xD} {r : xR} {B B' : Int} {np n s np' : Nat} {π q : Nat → Nat} {N' : Nat → Int} (h : JX D r B np n s π q) (hB : B + 4100000 ≤ 2100000000) {e : Int}
    (h1 : MX dc μc (.ref 4 :: as) (356, z) D r (356, z) (xRs (κ e) (CX D r s (kS D) q (D 352) np N' np'))) (h2 : ∀ D1 r1, jE D D1 → xRM r1 → MX dm μm (.ref 351 :: as) (356, z) D1 r1 (356, z) (xEs (κ e) (fun D' => D' = xw (rcD D1) 352 N') r1))
    (hO : OKk B' N' np') (ht : tz N') (hBB : B ≤ B') (hB' : B' ≤ B + 4100000) : Jst κ dc dm μc μm as z D r B :=
  ⟨e, _, h1, fun v D1 r1 g => by
    obtain ⟨g1, g2⟩ := g
    refine ⟨g1, _, h2 D1 r1 ⟨g2.1 351 (by decide) (by omega) (by omega), g2.1 352 (by decide) (by omega) (by omega), g2.1 353 (by decide) (by omega) (by omega), g2.1 354 (by decide) (by omega) (by omega), g2.1 355 (by decide) (by omega) (by omega)⟩ (h.hF.mv g2.2.1).rm, fun v2 D2 r2 k => ?_⟩
    obtain ⟨k1, rfl, rfl⟩ := k
    exact ⟨k1, h.chg g2 (hO.mono hB' hB) ht (by omega) hB⟩⟩
theorem JX.same {D D' : xD} {r : xR} {B : Int} {np n n' s : Nat} {π q : Nat → Nat} (h : JX D r B np n s π q) (e : ∀ a, 5 ≤ a → a < 351 → a ≠ 73 → a ≠ 74 → (a < 39 ∨ 73 ≤ a) → D' a = D a) (e2 : D' 352 = D 352) (e3 : D' 351 3 = D 351 3) (e4 : ∀ c, c < 8 → kS D' c = kS D c) (e5 : D' 354 = D 354) (hp : JP D' n') : JX D' r B np n' s π q := by
  have hs := h.s6
  refine ⟨h.hF, by rw [e2]; exact h.ok, by rw [e2]; exact h.ht, ?_, ?_, fun c hc => by rw [e4 c (by omega)]; exact h.hK c hc, ?_, e3.trans h.h3, hp, ?_⟩
  · rw [e2]; exact h.hC.eq h.ok.np (fun a h1 h2 => e a (by omega) (by omega) (by omega) (by omega) (by omega))
  · exact (h.hI.cong (by rw [e 75 (by decide) (by decide) (by decide) (by decide) (by omega)]) (fun a h1 h2 => e a (by omega) (by omega) (by omega) (by omega) (by omega))).K (fun c hc => e4 c (by omega))
  · rw [e 75 (by decide) (by decide) (by decide) (by decide) (by omega)]; exact h.hz
  · exact h.hV.mv (e 282 (by decide) (by decide) (by decide) (by decide) (by omega)) e5 (fun a h1 h2 => e4 a h2) (fun a h1 h2 => e a (by omega) h2 (by omega) (by omega) (by omega))
theorem Jst.try {κ : Int → Value} {dc dm : Nat} {μc μm : xM} {as : List Value} {z : Nat} {D : xD} {r : xR} {B : Int} {np n s : Nat} {π q : Nat → Nat} (h : JX D r B np n s π q) (hB : B + 4100000 ≤ 2100000000) {e : Int}
    (h1 : MX dc μc (.ref 4 :: as) (356, z) D r (356, z) (xEs (κ e) (fun D' => frW 39 D D') r)) (h2 : ∀ D1, jE D D1 → MX dm μm (.ref 351 :: as) (356, z) D1 r (356, z) (xEs (κ e) (fun D' => D' = xw D1 353 (kPut (D1 353) 8 (D1 352) 378)) r)) : Jst κ dc dm μc μm as z D r B :=
  ⟨e, _, h1, fun v D1 r1 g => by
    obtain ⟨g1, rfl, g2⟩ := g
    have x : ∀ a, (a < 39 ∨ 73 ≤ a) → D1 a = D a := fun a ha => g2 a (by omega)
    refine ⟨g1, _, h2 D1 ⟨x 351 (by omega), x 352 (by omega), x 353 (by omega), x 354 (by omega), x 355 (by omega)⟩, fun v2 D2 r2 k => ?_⟩
    obtain ⟨k1, rfl, rfl⟩ := k
    have y : ∀ a, a ≠ 353 → (a < 39 ∨ 73 ≤ a) → xw D1 353 (kPut (D1 353) 8 (D1 352) 378) a = D a := fun a h1 h2 => (xw_ne _ _ _ h1).trans (x a h2)
    obtain ⟨p1, p2, p3, p4⟩ := h.hP
    refine ⟨k1, np, n, s, π, q, (h.same (fun a h1 h2 h3 h4 h5 => y a (by omega) h5) (y 352 (by decide) (by omega)) (by rw [y 351 (by decide) (by omega)]) (fun c hc => ?_) (y 354 (by decide) (by omega)) ⟨?_, ?_, ?_, ?_⟩).mono (by omega) hB⟩
    · exact kS_put (N := D1 352) (b := 8) (by rw [xw_at, x 353 (by omega)]) (by omega)
    · rw [y 73 (by decide) (by omega)]; exact p1
    · rw [y 351 (by decide) (by omega)]; exact p2
    · rw [y 355 (by decide) (by omega)]; exact p3
    · rw [y 74 (by decide) (by omega), y 355 (by decide) (by omega)]; exact p4⟩
/-! the calls that change the state -/
theorem j_set {z : Nat} {D : xD} {r : xR} {B : Int} {np n s : Nat} {π q : Nat → Nat} (h : JX D r B np n s π q) (hB : B + 4100000 ≤ 2100000000) (a b : Int) (ia : xI a) (ib : xI b) : Jst vi 4 2 mX4_set mX5_set [vi a, vi b] z D r B := by
  by_cases he : ∃ w : Nat, a = (w : Int) ∧ w < 9 ∧ leastOf w ≤ b ∧ b ≤ mostOf w
  · obtain ⟨w, rfl, hw, hb⟩ := he
    refine Jst.chg h hB (c_X4_set D r h.hF h.hC h.ok.np w b hw ib hb h.hI h.hz) (fun D1 r1 hE hr => ?_) ⟨h.ok.1.set hw hb, ?_⟩ (h.ht.fu (by omega)) (Int.le_refl _) (by omega)
    · have g := c_X5_set (z := z) D1 r1 hr (by rw [hE.1]; exact h.s0) w b hw ib hb
      unfold stD at g
      rw [hE.2.1] at g
      exact g
    · rw [fu_ne _ _ _ (by omega)]; exact h.ok.2
  · have he2 : ∀ w : Nat, a = (w : Int) → w < 9 → b < leastOf w ∨ mostOf w < b := fun w h1 h2 => Classical.byContradiction fun h3 => he ⟨w, h1, h2, by omega, by omega⟩
    exact Jst.pure h hB (c_X4_set_err D r a b ia ib he2) (c_X5_set_err D r h.hF.rm a b ia ib he2)
theorem j_product {z : Nat} {D : xD} {r : xR} {B : Int} {np n s : Nat} {π q : Nat → Nat} (h : JX D r B np n s π q) (hB : B + 4100000 ≤ 2100000000) (h50 : 50000 ≤ B) (fa sz lh sh st : Int) (i1 : xI fa) (i2 : xI sz) (i3 : xI lh) (i4 : xI sh) (i5 : xI st) : Jst vi 4 2 mX4_product mX5_product [vi fa, vi sz, vi lh, vi sh, vi st] z D r B := by
  have hn := h.ok.1.1.np
  by_cases hP : nPar fa sz lh sh st
  · by_cases hlt : np < 10
    · refine Jst.chg h hB (c_X4_product D r h.hF h.hC h.ok.np fa sz lh sh st i1 i2 i3 i4 i5 hP hlt h.hI h.hz) (fun D1 r1 hE hr => ?_) ⟨h.ok.1.new h50 hlt hP, ?_⟩ (fun i hi => ?_) (Int.le_refl _) (by omega)
      · have g := c_X5_product (z := z) D1 r1 hr (by rw [hE.2.1]; exact hn) fa sz lh sh st i1 i2 i3 i4 i5 hP (by rw [hE.1]; exact h.s0) hlt
        rw [hE.2.1] at g
        exact g
      · rw [nNew_old _ _ _ _ _ _ _ (Or.inl (by omega)) (by decide)]; exact h.ok.2
      · rw [nNew_old _ _ _ _ _ _ _ (Or.inr (by omega)) (by omega)]; exact h.ht i hi
    · have hm : D 352 1 = 10 := by omega
      exact Jst.pure h hB (c_X4_product_many D r h.hF fa sz lh sh st i1 i2 i3 i4 i5 hP (by rw [h.hC.np]; omega)) (c_X5_product_many D r h.hF.rm hn fa sz lh sh st i1 i2 i3 i4 i5 hP hm)
  · exact Jst.pure h hB (c_X4_product_bad D r fa sz lh sh st i1 i2 i3 i4 i5 hP) (c_X5_product_bad D r h.hF.rm hn fa sz lh sh st i1 i2 i3 i4 i5 hP)
theorem j_family {z : Nat} {D : xD} {r : xR} {B : Int} {np n s : Nat} {π q : Nat → Nat} (h : JX D r B np n s π q) (hB : B + 4100000 ≤ 2100000000) (a b : Int) (ia : xI a) (ib : xI b) : Jst vi 4 2 mX4_family mX5_family [vi a, vi b] z D r B := by
  by_cases ha : 0 ≤ a ∧ a ≤ 3
  · by_cases hb : 0 ≤ b ∧ b ≤ 50
    · obtain ⟨f, rfl⟩ := Int.eq_ofNat_of_zero_le ha.1
      have hf : f < 4 := by omega
      refine Jst.chg h hB (c_X4_family D r h.hF h.hC h.ok.np f b hf hb h.hI h.hz) (fun D1 r1 hE hr => ?_) ⟨h.ok.1.fam hf hb, ?_⟩ (h.ht.fu (by omega)) (Int.le_refl _) (by omega)
      · have g := c_X5_family (z := z) D1 r1 hr (by rw [hE.1]; exact h.s0) f b hf hb
        unfold fmD at g
        rw [hE.2.1] at g
        exact g
      · rw [fu_ne _ _ _ (by omega)]; exact h.ok.2
    · exact Jst.pure h hB (c_X4_family_bad D r a b ia ib ha (by omega)) (c_X5_family_bad D r h.hF.rm a b ia ib ha (by omega))
  · exact Jst.pure h hB (c_X4_family_no D r a b ia (by omega)) (c_X5_family_no D r h.hF.rm a b ia ib (by omega))
theorem j_forecast {z : Nat} {D : xD} {r : xR} {B : Int} {np n s : Nat} {π q : Nat → Nat} (h : JX D r B np n s π q) (hB : B + 4100000 ≤ 2100000000) (p w u : Int) (ip : xI p) (iw : xI w) (iu : xI u) : Jst vi 4 3 mX4_forecast mX5_forecast [vi p, vi w, vi u] z D r B := by
  have hn := h.ok.1.1.np
  by_cases he : eF np p w u = 0
  · obtain ⟨a1, a2, a3⟩ := eF_0 he
    obtain ⟨p, rfl⟩ := Int.eq_ofNat_of_zero_le a1.1
    obtain ⟨w, rfl⟩ := Int.eq_ofNat_of_zero_le a2.1
    have hp : p < np := by omega
    have hw : w < 12 := by omega
    refine Jst.chg h hB (c_X4_forecast D r h.hF h.hC h.ok.np p w u hp hw a3 h.hI h.hz) (fun D1 r1 hE hr => ?_) ⟨h.ok.1.fcs hp hw a3, ?_⟩ (h.ht.fu (by have := hn.2; omega)) (Int.le_refl _) (by omega)
    · have g := c_X5_forecast (z := z) D1 r1 hr (by rw [hE.2.1]; exact hn) (by rw [hE.1]; exact h.s0) p w u hp hw iu he
      unfold fcD at g
      rw [hE.2.1] at g
      exact g
    · rw [fu_ne _ _ _ (by omega)]; exact h.ok.2
  · exact Jst.pure h hB (c_X4_forecast_err D r h.hF h.hC h.ok.np p w u ip iw iu he) (c_X5_forecast_err D r h.hF.rm hn p w u ip iw iu he)
theorem j_actual {z : Nat} {D : xD} {r : xR} {B : Int} {np n s : Nat} {π q : Nat → Nat} (h : JX D r B np n s π q) (hB : B + 4100000 ≤ 2100000000) (p u : Int) (ip : xI p) (iu : xI u) : Jst vi 4 3 mX4_actual mX5_actual [vi p, vi u] z D r B := by
  have hn := h.ok.1.1.np
  by_cases he : eA np p u = 0
  · obtain ⟨a1, a3⟩ := eA_0 he
    obtain ⟨p, rfl⟩ := Int.eq_ofNat_of_zero_le a1.1
    have hp : p < np := by omega
    refine Jst.chg h hB (c_X4_actual D r h.hF h.hC h.ok.np p u hp iu a3 h.hI h.hz) (fun D1 r1 hE hr => ?_) ⟨h.ok.1.told hp a3, ?_⟩ (h.ht.fu (by have := hn.2; omega)) (Int.le_refl _) (by omega)
    · have g := c_X5_actual (z := z) D1 r1 hr (by rw [hE.2.1]; exact hn) (by rw [hE.1]; exact h.s0) p u hp iu he
      unfold acD at g
      rw [hE.2.1] at g
      exact g
    · rw [fu_ne _ _ _ (by omega)]; exact h.ok.2
  · exact Jst.pure h hB (c_X4_actual_err D r h.hF h.hC h.ok.np p u ip iu he) (c_X5_actual_err D r h.hF.rm hn p u ip iu he)
theorem j_lots {z : Nat} {D : xD} {r : xR} {B : Int} {np n s : Nat} {π q : Nat → Nat} (h : JX D r B np n s π q) (hB : B + 4100000 ≤ 2100000000) (p w u : Int) (ip : xI p) (iw : xI w) (iu : xI u) : Jst vi 4 5 mX4_lots mX5_lots [vi p, vi w, vi u] z D r B := by
  have hn := h.ok.1.1.np
  by_cases he : eL (D 352) np p w u = 0
  · obtain ⟨a1, a2, a3⟩ := eL_0 he
    obtain ⟨p, rfl⟩ := Int.eq_ofNat_of_zero_le a1.1
    obtain ⟨w, rfl⟩ := Int.eq_ofNat_of_zero_le a2.1
    have hp : p < np := by omega
    have hw : w < 12 := by omega
    have hq : ¬ ((w : Int) < D 352 7 ∨ (D 352 5 + D 352 6 < nHours (fu (D 352) (18 + 36 * p + (24 + w)) u) np w ∧ nHours (D 352) np w < nHours (fu (D 352) (18 + 36 * p + (24 + w)) u) np w)) := by
      intro h9
      have he2 := he
      unfold eL at he2
      rw [if_pos ⟨a1, a2⟩, if_pos a3] at he2
      have : (-5 : Int) = 0 := (if_pos h9).symm.trans he2
      exact absurd this (by decide)
    refine Jst.chg (B' := B + 100000) (N' := fu (D 352) (18 + 36 * p + (24 + w)) u) h hB (c_X4_lots D r h.hF h.hC h.ok.1 p w u hp hw a3 hq h.hI h.hz) (fun D1 r1 hE hr => ?_) ⟨h.ok.1.lots (by omega) hp hw a3, ?_⟩ (h.ht.fu (by have := hn.2; omega)) (by omega) (by omega)
    · have g := c_X5_lots (z := z) D1 r1 hr (by rw [hE.2.1]; exact h.ok.1.1) (by rw [hE.1]; exact h.s0) p w u hp hw iu (by rw [hE.2.1]; exact he)
      unfold loD at g
      rw [hE.2.1] at g
      exact g
    · rw [fu_ne _ _ _ (by omega)]; exact ⟨h.ok.2.1, by have := h.ok.2.2; omega⟩
  · exact Jst.pure h hB (c_X4_lots_err D r h.hF h.hC h.ok.1 p w u ip iw iu he) (c_X5_lots_err D r h.hF.rm h.ok.1.1 p w u ip iw iu he)
theorem j_plan {z : Nat} {D : xD} {r : xR} {B : Int} {np n s : Nat} {π q : Nat → Nat} (h : JX D r B np n s π q) (hB : B + 4100000 ≤ 2100000000) : Jst vi 4 7 mX4_plan mX5_plan [] z D r B := by
  obtain ⟨f, h7, hf8⟩ := h.ok.f
  refine Jst.chg h hB (c_X4_plan D r h.hF h.hC h.ok.1 f h7 hf8 h.hI h.hz) (fun D1 r1 hE hr => ?_) ⟨nPlan_I h.ok.1 hf8, ?_⟩ (h.ht.plan h.ok.np hf8) (Int.le_refl _) (by omega)
  · have g := c_X5_plan (z := z) D1 r1 hr (by rw [hE.2.1]; exact h.ok.1) (by rw [hE.1]; exact h.s0) f (by rw [hE.2.1]; exact h7) hf8
    unfold plD at g
    rw [hE.2.1] at g
    exact g
  · rw [nPlan_hd _ _ _ (by decide)]; exact h.ok.2
theorem j_weeks {z : Nat} {D : xD} {r : xR} {B : Int} {np n s : Nat} {π q : Nat → Nat} (h : JX D r B np n s π q) (hB : B + 4100000 ≤ 2100000000) (w : Int) (iw : xI w) : Jst vi 4 9 mX4_weeks mX5_weeks [vi w] z D r B := by
  obtain ⟨f, h7, hf8⟩ := h.ok.f
  by_cases hw : 1 ≤ w ∧ w ≤ 30
  · obtain ⟨m, rfl⟩ := Int.eq_ofNat_of_zero_le (show 0 ≤ w by omega)
    have hm : 1 ≤ m ∧ m ≤ 30 := by omega
    refine Jst.chg (B' := B + 2000 * (m : Int)) h hB (c_X4_weeks D r h.hF h.hC h.ok.1 f h7 hf8 m hm (by omega) h.hI h.hz) (fun D1 r1 hE hr => ?_) ⟨nPs_I hf8 m _ h.ok.1 (by omega), ?_⟩ (h.ht.ps h.ok.np hf8 m) (by omega) (by omega)
    · have g := c_X5_weeks (z := z) D1 r1 hr (by rw [hE.2.1]; exact h.ok.1) (by rw [hE.1]; exact h.s0) f m (by rw [hE.2.1]; exact h7) hf8 hm (by omega)
      unfold wkD at g
      rw [hE.2.1] at g
      exact g
    · rw [nPs_0]; have := h.ok.2; omega
  · exact Jst.pure h hB (c_X4_weeks_bad D r w iw hw) (c_X5_weeks_bad D r h.hF.rm w iw hw)
