/-! ===== the law: the other calls ===== -/
theorem JX.cg2 {D D1 D2 : xD} {r r1 : xR} {B B' : Int} {np n n' s np' : Nat} {π q : Nat → Nat} {N' : Nat → Int} (h : JX D r B np n s π q) (x1 : ∀ a, a ≠ 73 → a ≠ 75 → (a < 5 ∨ 39 ≤ a) → (a < 77 ∨ 281 ≤ a) → D1 a = D a) (x2 : frR r r1) (x3 : D1 75 2 = 0) (x4 : CR D1 5 N' np') {π' : Nat → Nat} (x5 : HI D1 r1 (hS s + 1) π' (hPu s (kS D) (D 352)) (hPu s q np))
    (wo : ∀ a, a < 351 → D2 a = D1 a) (w352 : D2 352 = N') (w353 : D2 353 = rcK (D 351) (D 353) (D 352)) (w3 : D2 351 3 = rcS (D 351) + 1) (w354 : D2 354 = D1 354) (hp : JP D2 n') (hO : OKk B' N' np') (ht : tz N') (hB : B ≤ B') (hB' : B' ≤ 2100000000) : JI D2 r1 B' := by
  have hs := h.s6
  have hk : ∀ c, c < hS s + 1 → kS D2 c = hPu s (kS D) (D 352) c := fun c hc => kS_rc h.h3 hs w353 h.ht hc
  have h5 : hS s ≤ 5 := by unfold hS; split <;> omega
  refine ⟨np', n', hS s + 1, π', hPu s q np, h.hF.mv x2, by rw [w352]; exact hO, by rw [w352]; exact ht, ?_, ?_, fun c hc => ?_, ?_, ?_, hp, ?_⟩
  · rw [w352]; exact x4.eq hO.np (fun a h1 h2 => wo a (by omega))
  · exact (x5.cong (by rw [wo 75 (by decide)]) (fun a h1 h2 => wo a (by omega))).K hk
  · rw [hk c hc]
    unfold hPu
    by_cases hc1 : c = hS s
    · rw [if_pos hc1, if_pos hc1]; exact h.ok.mono hB hB'
    · rw [if_neg hc1, if_neg hc1]
      by_cases h6 : s = 6
      · have : hS s = 5 := if_pos h6
        rw [if_pos h6, if_pos h6]; exact (h.hK (c + 1) (by omega)).mono hB hB'
      · have : hS s = s := if_neg h6
        rw [if_neg h6, if_neg h6]; exact (h.hK c (by omega)).mono hB hB'
  · rw [wo 75 (by decide)]; exact x3
  · rw [w3]
    have := rcS_n h.h3
    have h0 : 0 ≤ rcS (D 351) := by unfold rcS; have := h.s0; split <;> omega
    omega
  · refine (h.hV.mono hB hB').mv ?_ ?_ (fun a h1 _ => kS_rc6 h.h3 hs w353 h1) (fun a h1 h2 => ?_)
    · rw [wo 282 (by decide), x1 282 (by decide) (by decide) (by omega) (by omega)]
    · rw [w354, x1 354 (by decide) (by decide) (by omega) (by omega)]
    · rw [wo a h2, x1 a (by omega) (by omega) (by omega) (by omega)]
theorem j_restore {z : Nat} {D : xD} {r : xR} {B : Int} {np n s : Nat} {π q : Nat → Nat} (h : JX D r B np n s π q) (hB : B + 4100000 ≤ 2100000000) (a : Int) (ia : xI a) : Jst vi 4 2 mX4_restore mX5_restore [vi a] z D r B := by
  by_cases ha : 0 ≤ a ∧ a ≤ 1
  · obtain ⟨a, rfl⟩ := Int.eq_ofNat_of_zero_le ha.1
    have ha2 : a < 2 := by omega
    rcases h.hV a ha2 with ⟨g1, g2⟩ | ⟨g1, g2, mp, g3, g4⟩
    · exact Jst.pure h hB (c_X4_restore0 D r h.hF a ha2 g1) (c_X5_restore0 D r h.hF.rm a ha2 g2)
    · have ek : kGet (rcK (D 351) (D 353) (D 352)) (6 + a) (D 352) 378 = kS D (6 + a) := by
        rw [kG_tz h.ht]
        exact kS_rc6 (D' := xw D 353 (rcK (D 351) (D 353) (D 352))) h.h3 h.s6 (xw_at _ _ _) (by omega)
      refine Jst.chg h hB (c_X4_restore D r h.hF h.hC h.ok.np a ha2 g1 g4 g3.np h.hI h.hz) (fun D1 r1 hE hr => ?_) g3 (kS_tz _ _) (Int.le_refl _) (by omega)
      have g := c_X5_restore (z := z) D1 r1 hr (by rw [hE.1]; exact h.s0) a ha2 (by rw [hE.2.2.2.1]; exact g2)
      unfold rsD at g
      rw [hE.1, hE.2.1, hE.2.2.1, ek] at g
      exact g
  · exact Jst.pure h hB (c_X4_restore_err D r a ia (by omega)) (c_X5_restore_err D r h.hF.rm a ia (by omega))
theorem j_undo {z : Nat} {D : xD} {r : xR} {B : Int} {np n s : Nat} {π q : Nat → Nat} (h : JX D r B np n s π q) (hB : B + 4100000 ≤ 2100000000) : Jst vi 4 1 mX4_undo mX5_undo [] z D r B := by
  cases s with
  | zero => exact Jst.pure h hB (c_X4_undo0 D r h.hF h.hI.2.1) (c_X5_undo0 D r h.hF.rm h.h3)
  | succ t =>
    have h6 := h.s6
    refine ⟨((t : Nat) : Int), _, c_X4_undo D r h.hF h.hI, fun v D1 r1 g => ?_⟩
    obtain ⟨g1, rfl, x4, x5, x3, x1⟩ := g
    have e351 : D1 351 = D 351 := x1 351 (by decide) (by omega)
    have e352 : D1 352 = D 352 := x1 352 (by decide) (by omega)
    have e353 : D1 353 = D 353 := x1 353 (by decide) (by omega)
    refine ⟨g1, _, c_X5_undo D1 r1 h.hF.rm t (by rw [e351]; exact h.h3) (by omega), fun v2 D2 r2 k => ?_⟩
    obtain ⟨k1, rfl, k2⟩ := k
    unfold unD at k2
    have w352 : D2 352 = kS D t := by rw [k2, xw_at, e353, e352, kG_tz h.ht]; rfl
    have w351 : D2 351 = fu (D 351) 3 (t : Int) := by rw [k2, xw_ne _ _ _ (by decide), xw_at, e351]
    have wo : ∀ a, a ≠ 351 → a ≠ 352 → D2 a = D1 a := fun a h1 h2 => by rw [k2, xw_ne _ _ _ h2, xw_ne _ _ _ h1]
    have w353 : D2 353 = D 353 := by rw [wo 353 (by decide) (by decide), e353]
    obtain ⟨p1, p2, p3, p4⟩ := h.hP
    refine ⟨k1, q t, n, t, π, q, JX.mono (B := B) ⟨h.hF, by rw [w352]; exact h.hK t (by omega), by rw [w352]; exact kS_tz _ _, ?_, ?_, fun c hc => by rw [kS_eq w353]; exact h.hK c (by omega), ?_, by rw [w351]; exact fu_at _ _ _, ⟨?_, ?_, ?_, ?_⟩, ?_⟩ (by omega) hB⟩
    · rw [w352]; exact x4.eq (h.hK t (by omega)).np (fun a h1 h2 => wo a (by omega) (by omega))
    · exact (x5.cong (by rw [wo 75 (by decide) (by decide)]) (fun a h1 h2 => wo a (by omega) (by omega))).K (fun c _ => kS_eq w353 c)
    · rw [wo 75 (by decide) (by decide), x3]; exact h.hz
    · rw [wo 73 (by decide) (by decide), x1 73 (by decide) (by omega)]; exact p1
    · rw [w351, fu_ne _ _ _ (by decide)]; exact p2
    · rw [wo 355 (by decide) (by decide), x1 355 (by decide) (by omega)]; exact p3
    · rw [wo 355 (by decide) (by decide), wo 74 (by decide) (by decide), x1 355 (by decide) (by omega), x1 74 (by decide) (by omega)]; exact p4
    · refine h.hV.mv ?_ ?_ (fun a _ _ => kS_eq w353 a) (fun a h1 h2 => ?_)
      · rw [wo 282 (by decide) (by decide), x1 282 (by decide) (by omega)]
      · rw [wo 354 (by decide) (by decide), x1 354 (by decide) (by omega)]
      · rw [wo a (by omega) (by omega), x1 a (by omega) (by omega)]
theorem j_save {z : Nat} {D : xD} {r : xR} {B : Int} {np n s : Nat} {π q : Nat → Nat} (h : JX D r B np n s π q) (hB : B + 4100000 ≤ 2100000000) (a : Int) (ia : xI a) : Jst vi 3 1 mX4_save mX5_save [vi a] z D r B := by
  by_cases ha : 0 ≤ a ∧ a ≤ 1
  · obtain ⟨a, rfl⟩ := Int.eq_ofNat_of_zero_le ha.1
    have ha2 : a < 2 := by omega
    refine ⟨D 352 0, _, c_X4_save D r h.hF h.hC h.ok.np a ha2, fun v D1 r1 g => ?_⟩
    obtain ⟨g1, rfl, x4, x5, x1⟩ := g
    have e351 : D1 351 = D 351 := x1 351 (by decide) (by omega)
    have e352 : D1 352 = D 352 := x1 352 (by decide) (by omega)
    have e353 : D1 353 = D 353 := x1 353 (by decide) (by omega)
    have e354 : D1 354 = D 354 := x1 354 (by decide) (by omega)
    refine ⟨g1, _, c_X5_save D1 r1 h.hF.rm a ha2, fun v2 D2 r2 k => ?_⟩
    obtain ⟨k1, rfl, k2⟩ := k
    unfold svD at k2
    rw [e352] at k1
    have w353 : D2 353 = kPut (D 353) (6 + a) (D 352) 378 := by rw [k2, xw_ne _ _ _ (by decide), xw_at, e353, e352]
    have w354 : D2 354 = fu (D 354) a 1 := by rw [k2, xw_at, e354]
    have wo : ∀ b, b ≠ 353 → b ≠ 354 → D2 b = D1 b := fun b h1 h2 => by rw [k2, xw_ne _ _ _ h2, xw_ne _ _ _ h1]
    have hk : ∀ c, c ≠ 6 + a → kS D2 c = kS D c := fun c hc => kS_put w353 hc
    have hka : kS D2 (6 + a) = D 352 := kS_at w353 h.ht
    obtain ⟨p1, p2, p3, p4⟩ := h.hP
    have hs := h.s6
    have w352 : D2 352 = D 352 := by rw [wo 352 (by decide) (by decide), e352]
    refine ⟨k1, np, n, s, π, q, JX.mono (B := B) ⟨h.hF, by rw [w352]; exact h.ok, by rw [w352]; exact h.ht, ?_, ?_, fun c hc => by rw [hk c (by omega)]; exact h.hK c hc, ?_, ?_, ⟨?_, ?_, ?_, ?_⟩, fun b hb => ?_⟩ (by omega) hB⟩
    · rw [w352]; exact h.hC.eq h.ok.np (fun b h1 h2 => (wo b (by omega) (by omega)).trans (x1 b (by omega) (by omega)))
    · exact (h.hI.cong (by rw [wo 75 (by decide) (by decide), x1 75 (by decide) (by omega)]) (fun b h1 h2 => (wo b (by omega) (by omega)).trans (x1 b (by omega) (by omega)))).K (fun c hc => hk c (by omega))
    · rw [wo 75 (by decide) (by decide), x1 75 (by decide) (by omega)]; exact h.hz
    · rw [wo 351 (by decide) (by decide), e351]; exact h.h3
    · rw [wo 73 (by decide) (by decide), x1 73 (by decide) (by omega)]; exact p1
    · rw [wo 351 (by decide) (by decide), e351]; exact p2
    · rw [wo 355 (by decide) (by decide), x1 355 (by decide) (by omega)]; exact p3
    · rw [wo 355 (by decide) (by decide), wo 74 (by decide) (by decide), x1 355 (by decide) (by omega), x1 74 (by decide) (by omega)]; exact p4
    · rw [wo 282 (by decide) (by decide), x5, w354]
      by_cases hba : b = a
      · subst hba
        rw [fu_at, fu_at, hka]
        exact Or.inr ⟨rfl, rfl, np, h.ok, x4.eq h.ok.np (fun c h1 h2 => wo c (by omega) (by omega))⟩
      · rw [fu_ne _ _ _ hba, fu_ne _ _ _ hba, hk (6 + b) (by omega)]
        rcases h.hV b hb with g | ⟨g1, g2, mp, g3, g4⟩
        · exact Or.inl g
        · exact Or.inr ⟨g1, g2, mp, g3, g4.eq g3.np (fun c h1 h2 => (wo c (by omega) (by omega)).trans (x1 c (by omega) (by omega)))⟩
  · exact Jst.pure h hB (c_X4_save_err D r a ia (by omega)) (c_X5_save_err D r h.hF.rm a ia (by omega))
/-! the questions -/
theorem j_ofProduct {z : Nat} {D : xD} {r : xR} {B : Int} {np n s : Nat} {π q : Nat → Nat} (h : JX D r B np n s π q) (hB : B + 4100000 ≤ 2100000000) (p w : Int) (ip : xI p) (iw : xI w) : Jst vi 1 2 mX4_ofProduct mX5_ofProduct [vi p, vi w] z D r B := by
  have hn := h.ok.1.1.np
  by_cases hp : 0 ≤ p ∧ p < (np : Int)
  · obtain ⟨p, rfl⟩ := Int.eq_ofNat_of_zero_le hp.1
    by_cases hw : 0 ≤ w ∧ w ≤ 12
    · obtain ⟨w, rfl⟩ := Int.eq_ofNat_of_zero_le hw.1
      exact Jst.pure h hB (c_X4_ofProduct D r h.hF h.hC h.ok.np h.ok.1.1 p w (by omega) (by omega)) (c_X5_ofProduct D r h.hF.rm h.ok.1.1 p w (by omega) (by omega))
    · exact Jst.pure h hB (c_X4_ofProduct_bad D r h.hF h.hC h.ok.np p w (by omega) iw (by omega)) (c_X5_ofProduct_bad D r h.hF.rm hn p w ip iw hp (by omega))
  · exact Jst.pure h hB (c_X4_ofProduct_no D r h.hF h.hC h.ok.np p w ip iw hp) (c_X5_ofProduct_no D r h.hF.rm hn p w ip iw hp)
theorem j_at {z : Nat} {D : xD} {r : xR} {B : Int} {np n s : Nat} {π q : Nat → Nat} (h : JX D r B np n s π q) (hB : B + 4100000 ≤ 2100000000) (p w u : Int) (ip : xI p) (iw : xI w) (iu : xI u) : Jst vi 1 2 mX4_at mX5_at [vi p, vi w, vi u] z D r B := by
  have hn := h.ok.1.1.np
  by_cases hp : (0 ≤ p ∧ p < (np : Int)) ∧ 0 ≤ w ∧ w < 12
  · obtain ⟨p, rfl⟩ := Int.eq_ofNat_of_zero_le hp.1.1
    obtain ⟨w, rfl⟩ := Int.eq_ofNat_of_zero_le hp.2.1
    by_cases hu : 0 ≤ u ∧ u ≤ 1
    · obtain ⟨u, rfl⟩ := Int.eq_ofNat_of_zero_le hu.1
      exact Jst.pure h hB (c_X4_at D r h.hF h.hC h.ok.np p w u (by omega) (by omega) (by omega)) (c_X5_at D r h.hF.rm hn p w u (by omega) (by omega) (by omega))
    · exact Jst.pure h hB (c_X4_at_bad D r h.hF h.hC h.ok.np p w u (by omega) (by omega) iu (by omega)) (c_X5_at_bad D r h.hF.rm hn p w u ip iw iu hp (by omega))
  · exact Jst.pure h hB (c_X4_at_no D r h.hF h.hC h.ok.np p w u ip iw iu hp) (c_X5_at_no D r h.hF.rm hn p w u ip iw iu hp)
theorem j_projection {z : Nat} {D : xD} {r : xR} {B : Int} {np n s : Nat} {π q : Nat → Nat} (h : JX D r B np n s π q) (hB : B + 4100000 ≤ 2100000000) (p w : Int) (ip : xI p) (iw : xI w) : Jst vl 1 2 mX4_projection mX5_projection [vi p, vi w] z D r B := by
  have hn := h.ok.1.1.np
  by_cases hp : (0 ≤ p ∧ p < (np : Int)) ∧ 0 ≤ w ∧ w < 12
  · obtain ⟨p, rfl⟩ := Int.eq_ofNat_of_zero_le hp.1.1
    obtain ⟨w, rfl⟩ := Int.eq_ofNat_of_zero_le hp.2.1
    exact Jst.pure h hB (c_X4_projection D r h.hF h.hC h.ok.np h.ok.1.1 p w (by omega) (by omega)) (c_X5_projection D r h.hF.rm h.ok.1.1 p w (by omega) (by omega))
  · exact Jst.pure h hB (c_X4_projection_no D r h.hF h.hC h.ok.np p w ip iw hp) (c_X5_projection_no D r h.hF.rm hn p w ip iw hp)
theorem j_ofWeek {z : Nat} {D : xD} {r : xR} {B : Int} {np n s : Nat} {π q : Nat → Nat} (h : JX D r B np n s π q) (hB : B + 4100000 ≤ 2100000000) (w u : Int) (iw : xI w) (iu : xI u) : Jst vi 3 5 mX4_ofWeek mX5_ofWeek [vi w, vi u] z D r B := by
  by_cases hw : 0 ≤ w ∧ w < 12
  · obtain ⟨w, rfl⟩ := Int.eq_ofNat_of_zero_le hw.1
    by_cases hu : 0 ≤ u ∧ u ≤ 4
    · obtain ⟨u, rfl⟩ := Int.eq_ofNat_of_zero_le hu.1
      exact Jst.pure h hB (c_X4_ofWeek D r h.hF h.hC h.ok.np h.ok.1.1 w u (by omega) (by omega)) (c_X5_ofWeek D r h.hF.rm h.ok.1.1 w u (by omega) (by omega))
    · exact Jst.pure h hB (c_X4_ofWeek_bad D r w u iw iu hw (by omega)) (c_X5_ofWeek_bad D r h.hF.rm w u iw iu hw (by omega))
  · exact Jst.pure h hB (c_X4_ofWeek_no D r w u iw iu hw) (c_X5_ofWeek_no D r h.hF.rm w u iw iu hw)
theorem j_count {z : Nat} {D : xD} {r : xR} {B : Int} {np n s : Nat} {π q : Nat → Nat} (h : JX D r B np n s π q) (hB : B + 4100000 ≤ 2100000000) (u : Int) (iu : xI u) : Jst vl 2 2 mX4_count mX5_count [vi u] z D r B := by
  have hP := h.hP
  have h80 := hP.2.2.1.1
  have hW := h.ok.2
  have hG : (0 ≤ D 351 3 ∧ D 351 3 ≤ 6) ∧ 0 ≤ D 351 5 ∧ D 351 5 ≤ 80 := ⟨h.s0, by rw [hP.2.1]; omega⟩
  by_cases hu : 0 ≤ u ∧ u ≤ 22
  · obtain ⟨u, rfl⟩ := Int.eq_ofNat_of_zero_le hu.1
    exact Jst.pure h hB (c_X4_count D r h.hF h.hC h.ok.np h.ok.1.1 ⟨hW.1, by omega⟩ (G := D 351) (by rw [hP.1, hP.2.1]) (by rw [h.hI.2.1, h.h3]) hG u (by omega)) (c_X5_count D r h.hF.rm h.ok.1.1 hG u (by omega))
  · exact Jst.pure h hB (c_X4_count_bad D r u iu (by omega)) (c_X5_count_bad D r h.hF.rm u iu (by omega))
theorem j_firstShort {z : Nat} {D : xD} {r : xR} {B : Int} {np n s : Nat} {π q : Nat → Nat} (h : JX D r B np n s π q) (hB : B + 4100000 ≤ 2100000000) (p : Int) (ip : xI p) : Jst vi 1 2 mX4_firstShort mX5_firstShort [vi p] z D r B := by
  have hn := h.ok.1.1.np
  by_cases hp : 0 ≤ p ∧ p < (np : Int)
  · obtain ⟨p, rfl⟩ := Int.eq_ofNat_of_zero_le hp.1
    exact Jst.pure h hB (c_X4_firstShort D r h.hF h.hC h.ok.np h.ok.1.1 p (by omega)) (c_X5_firstShort D r h.hF.rm h.ok.1.1 p (by omega))
  · exact Jst.pure h hB (c_X4_firstShort_no D r h.hF h.hC h.ok.np p ip hp) (c_X5_firstShort_no D r h.hF.rm hn p ip hp)
theorem j_lasts {z : Nat} {D : xD} {r : xR} {B : Int} {np n s : Nat} {π q : Nat → Nat} (h : JX D r B np n s π q) (hB : B + 4100000 ≤ 2100000000) (p : Int) (ip : xI p) : Jst vi 1 2 mX4_lasts mX5_lasts [vi p] z D r B := by
  have hn := h.ok.1.1.np
  by_cases hp : 0 ≤ p ∧ p < (np : Int)
  · obtain ⟨p, rfl⟩ := Int.eq_ofNat_of_zero_le hp.1
    exact Jst.pure h hB (c_X4_lasts D r h.hF h.hC h.ok.np h.ok.1.1 p (by omega)) (c_X5_lasts D r h.hF.rm h.ok.1.1 p (by omega))
  · exact Jst.pure h hB (c_X4_lasts_no D r h.hF h.hC h.ok.np p ip hp) (c_X5_lasts_no D r h.hF.rm hn p ip hp)
theorem j_roomFor {z : Nat} {D : xD} {r : xR} {B : Int} {np n s : Nat} {π q : Nat → Nat} (h : JX D r B np n s π q) (hB : B + 4100000 ≤ 2100000000) (p w : Int) (ip : xI p) (iw : xI w) : Jst vi 2 5 mX4_roomFor mX5_roomFor [vi p, vi w] z D r B := by
  have hn := h.ok.1.1.np
  by_cases hp : (0 ≤ p ∧ p < (np : Int)) ∧ 0 ≤ w ∧ w < 12
  · obtain ⟨p, rfl⟩ := Int.eq_ofNat_of_zero_le hp.1.1
    obtain ⟨w, rfl⟩ := Int.eq_ofNat_of_zero_le hp.2.1
    exact Jst.pure h hB (c_X4_roomFor D r h.hF h.hC h.ok.np h.ok.1.1 p w (by omega) (by omega)) (c_X5_roomFor D r h.hF.rm h.ok.1.1 p w (by omega) (by omega))
  · exact Jst.pure h hB (c_X4_roomFor_no D r h.hF h.hC h.ok.np p w ip iw hp) (c_X5_roomFor_no D r h.hF.rm hn p w ip iw hp)
/-! what if -/
theorem j_leastHours {z : Nat} {D : xD} {r : xR} {B : Int} {np n s : Nat} {π q : Nat → Nat} (h : JX D r B np n s π q) (hB : B + 4100000 ≤ 2100000000) : Jst vi 4 7 mX4_leastHours mX5_leastHours [] z D r B := by
  obtain ⟨f, h7, hf8⟩ := h.ok.f
  refine Jst.try h hB (c_X4_leastHours D r h.hF h.hC h.ok.1 f h7 hf8) (fun D1 hE => ?_)
  have g := c_X5_leastHours (z := z) D1 r h.hF.rm (by rw [hE.2.1]; exact h.ok.1) f (by rw [hE.2.1]; exact h7) hf8
  rw [hE.2.1] at g ⊢
  exact g
theorem j_costs {z : Nat} {D : xD} {r : xR} {B : Int} {np n s : Nat} {π q : Nat → Nat} (h : JX D r B np n s π q) (hB : B + 4100000 ≤ 2100000000) (f w : Int) (iff_ : xI f) (iw : xI w) : Jst vl 4 10 mX4_costs mX5_costs [vi f, vi w] z D r B := by
  have hW := h.ok.2
  by_cases hp : (0 ≤ f ∧ f ≤ 8) ∧ 1 ≤ w ∧ w ≤ 12
  · obtain ⟨f, rfl⟩ := Int.eq_ofNat_of_zero_le hp.1.1
    obtain ⟨w, rfl⟩ := Int.eq_ofNat_of_zero_le (show 0 ≤ w by omega)
    refine Jst.try h hB (c_X4_costs D r h.hF h.hC h.ok.1 (by omega) f w (by omega) (by omega)) (fun D1 hE => ?_)
    have g := c_X5_costs (z := z) D1 r h.hF.rm (B := B) (np := np) (by rw [hE.2.1]; exact h.ok.1) (by rw [hE.2.1]; omega) (by omega) f w (by omega) (by omega)
    rw [hE.2.1] at g ⊢
    exact g
  · exact Jst.pure h hB (c_X4_costs_bad D r f w iff_ iw hp) (c_X5_costs_bad D r h.hF.rm f w iff_ iw hp)
theorem j_bestFence {z : Nat} {D : xD} {r : xR} {B : Int} {np n s : Nat} {π q : Nat → Nat} (h : JX D r B np n s π q) (hB : B + 4100000 ≤ 2100000000) (w : Int) (iw : xI w) : Jst vi 5 10 mX4_bestFence mX5_bestFence [vi w] z D r B := by
  have hW := h.ok.2
  by_cases hp : 1 ≤ w ∧ w ≤ 12
  · obtain ⟨w, rfl⟩ := Int.eq_ofNat_of_zero_le (show 0 ≤ w by omega)
    refine Jst.try h hB (c_X4_bestFence D r h.hF h.hC h.ok.1 (by omega) w (by omega)) (fun D1 hE => ?_)
    have g := c_X5_bestFence (z := z) D1 r h.hF.rm (B := B) (np := np) (by rw [hE.2.1]; exact h.ok.1) (by rw [hE.2.1]; omega) (by omega) w (by omega)
    rw [hE.2.1] at g ⊢
    exact g
  · exact Jst.pure h hB (c_X4_bestFence_bad D r w iw hp) (c_X5_bestFence_bad D r h.hF.rm w iw hp)
/-! texts -/
theorem j_put {z : Nat} {D : xD} {r : xR} {B : Int} {np n s : Nat} {π q : Nat → Nat} (h : JX D r B np n s π q) (hB : B + 4100000 ≤ 2100000000) (c : Int) (hc : xJ c) : Jst vi 2 1 mX4_put mX5_put [vl c] z D r B := by
  obtain ⟨p1, p2, p3, p4⟩ := h.hP
  refine ⟨pAns c n, _, c_X4_put D r h.hF c hc n p1 (by rw [p4]; exact p3), fun v D1 r1 g => ?_⟩
  obtain ⟨g1, rfl, g2⟩ := g
  have x : ∀ a, a ≠ 73 → a ≠ 74 → D1 a = D a := fun a h1 h2 => by
    rw [g2]; unfold cpD
    split
    · rfl
    · split
      · rw [xw_ne _ _ _ h1, xw_ne _ _ _ h2]
      · rfl
  refine ⟨g1, _, c_X5_put D1 r1 h.hF.rm c hc n (by rw [x 351 (by decide) (by decide)]; exact p2) p3.1, fun v2 D2 r2 k => ?_⟩
  obtain ⟨k1, rfl, k2⟩ := k
  refine ⟨k1, ?_⟩
  by_cases h0 : pSig c 8 0 = 0
  · have e1 : D1 = D := by rw [g2]; exact if_pos h0
    have e2 : D2 = D1 := by rw [k2]; exact if_pos h0
    rw [e2, e1]; exact h.up hB
  · by_cases hn : n + pSig c 8 0 ≤ 80
    · have e1 : D1 = xw (xw D 74 (pPut (D 74) n c (pSig c 8 0) (pSig c 8 0))) 73 (fu (D 73) 1 ((n + pSig c 8 0 : Nat) : Int)) := by rw [g2]; unfold cpD; rw [if_neg h0, if_pos hn]
      have e2 : D2 = xw (xw D1 355 (pPut (D1 355) n c (pSig c 8 0) (pSig c 8 0))) 351 (fu (D1 351) 5 ((n + pSig c 8 0 : Nat) : Int)) := by rw [k2]; unfold pD; rw [if_neg h0, if_pos hn]
      have y : ∀ a, a ≠ 73 → a ≠ 74 → a ≠ 351 → a ≠ 355 → D2 a = D a := fun a h1 h2 h3 h4 => by rw [e2, xw_ne _ _ _ h3, xw_ne _ _ _ h4, x a h1 h2]
      have w351 : D2 351 = fu (D 351) 5 ((n + pSig c 8 0 : Nat) : Int) := by rw [e2, xw_at, x 351 (by decide) (by decide)]
      have w355 : D2 355 = pPut (D 355) n c (pSig c 8 0) (pSig c 8 0) := by rw [e2, xw_ne _ _ _ (by decide), xw_at, x 355 (by decide) (by decide)]
      have w74 : D2 74 = pPut (D 74) n c (pSig c 8 0) (pSig c 8 0) := by rw [e2, xw_ne _ _ _ (by decide), xw_ne _ _ _ (by decide), e1, xw_ne _ _ _ (by decide), xw_at]
      have w73 : D2 73 = fu (D 73) 1 ((n + pSig c 8 0 : Nat) : Int) := by rw [e2, xw_ne _ _ _ (by decide), xw_ne _ _ _ (by decide), e1, xw_at]
      exact ⟨np, n + pSig c 8 0, s, π, q, (h.same (fun a h1 h2 h3 h4 h5 => y a h3 h4 (by omega) (by omega)) (y 352 (by decide) (by decide) (by decide) (by decide)) (by rw [w351, fu_ne _ _ _ (by decide)]) (fun c9 _ => kS_eq (y 353 (by decide) (by decide) (by decide) (by decide)) c9) (y 354 (by decide) (by decide) (by decide) (by decide))
        ⟨by rw [w73, fu_at], by rw [w351, fu_at], by rw [w355]; exact pPut_ok p3 rfl h0 hn, by rw [w74, w355, p4]⟩).mono (by omega) hB⟩
    · have e1 : D1 = D := by rw [g2]; unfold cpD; rw [if_neg h0, if_neg hn]
      have e2 : D2 = D1 := by rw [k2]; unfold pD; rw [if_neg h0, if_neg hn]
      rw [e2, e1]; exact h.up hB
theorem j_wipe {z : Nat} {D : xD} {r : xR} {B : Int} {np n s : Nat} {π q : Nat → Nat} (h : JX D r B np n s π q) (hB : B + 4100000 ≤ 2100000000) : Jst vi 0 0 mX4_wipe mX5_wipe [] z D r B := by
  obtain ⟨p1, p2, p3, p4⟩ := h.hP
  refine ⟨D 73 1, _, c_X4_wipe D r h.hF, fun v D1 r1 g => ?_⟩
  obtain ⟨g1, rfl, g2⟩ := g
  have x : ∀ a, a ≠ 73 → D1 a = D a := fun a h1 => by rw [g2, xw_ne _ _ _ h1]
  refine ⟨g1, _, c_X5_wipe D1 r1 h.hF.rm, fun v2 D2 r2 k => ?_⟩
  obtain ⟨k1, rfl, k2⟩ := k
  have y : ∀ a, a ≠ 73 → a ≠ 351 → D2 a = D a := fun a h1 h2 => by rw [k2, xw_ne _ _ _ h2, x a h1]
  have w351 : D2 351 = fu (D 351) 5 0 := by rw [k2, xw_at, x 351 (by decide)]
  have w73 : D2 73 = fu (D 73) 1 0 := by rw [k2, xw_ne _ _ _ (by decide), g2, xw_at]
  refine ⟨by rw [k1, x 351 (by decide), p2, p1], np, 0, s, π, q, (h.same (fun a h1 h2 h3 h4 h5 => y a h3 (by omega)) (y 352 (by decide) (by decide)) (by rw [w351, fu_ne _ _ _ (by decide)]) (fun c9 _ => kS_eq (y 353 (by decide) (by decide)) c9) (y 354 (by decide) (by decide)) ⟨by rw [w73, fu_at]; rfl, by rw [w351, fu_at]; rfl, ⟨by omega, fun i hi => absurd hi (by omega)⟩, by rw [y 74 (by decide) (by decide), y 355 (by decide) (by decide)]; exact p4⟩).mono (by omega) hB⟩
/-- behind a text's reading, there and here -/
theorem JX.read {D D1 D2 : xD} {r : xR} {B : Int} {np n s q0 : Nat} {π q : Nat → Nat} (h : JX D r B np n s π q) (p0 : pS D D1 n q0) {F' : Nat → Int} (k2 : D2 = xw D1 351 F') (k3 : scz (D1 351) F') : JX D2 r B np n s π q := by
  obtain ⟨p1, p2, p3, p4⟩ := h.hP
  have y : ∀ a, a ≠ 73 → a ≠ 351 → D2 a = D a := fun a h1 h2 => by rw [k2, xw_ne _ _ _ h2, p0.1 a h1]
  have w351 : ∀ j, j < 6 → D2 351 j = D 351 j := fun j hj => by rw [k2, xw_at, k3 j hj, p0.1 351 (by decide)]
  exact h.same (fun a h1 h2 h3 h4 h5 => y a h3 (by omega)) (y 352 (by decide) (by decide)) (w351 3 (by decide)) (fun c9 _ => kS_eq (y 353 (by decide) (by decide)) c9) (y 354 (by decide) (by decide)) ⟨by rw [k2, xw_ne _ _ _ (by decide)]; exact p0.2.1, by rw [w351 5 (by decide)]; exact p2, by rw [y 355 (by decide) (by decide)]; exact p3, by rw [y 74 (by decide) (by decide), y 355 (by decide) (by decide)]; exact p4⟩
theorem j_fault {z : Nat} {D : xD} {r : xR} {B : Int} {np n s : Nat} {π q : Nat → Nat} (h : JX D r B np n s π q) (hB : B + 4100000 ≤ 2100000000) : Jst vi 5 6 mX4_fault mX5_fault [] z D r B := by
  obtain ⟨p1, p2, p3, p4⟩ := h.hP
  refine ⟨tFault (D 74) n, _, c_X4_fault D r h.hF n (by rw [p4]; exact p3) p1, fun v D1 r1 g => ?_⟩
  obtain ⟨g1, rfl, q0, p0⟩ := g
  have e355 : D1 355 = D 355 := p0.1 355 (by decide)
  refine ⟨g1, _, c_X5_fault D1 r1 h.hF.rm n (by rw [p0.1 351 (by decide)]; exact p2) (by rw [e355]; exact p3), fun v2 D2 r2 k => ?_⟩
  obtain ⟨k1, rfl, F', k2, k3⟩ := k
  exact ⟨by rw [k1, e355, p4], (h.read p0 k2 k3).up hB⟩
theorem j_carryOut {z : Nat} {D : xD} {r : xR} {B : Int} {np n s : Nat} {π q : Nat → Nat} (h : JX D r B np n s π q) (hB : B + 4100000 ≤ 2100000000) : Jst vi 6 10 mX4_carryOut mX5_carryOut [] z D r B := by
  obtain ⟨p1, p2, p3, p4⟩ := h.hP
  have h74 : tOk (D 74) n := by rw [p4]; exact p3
  obtain ⟨f, h7, hf8⟩ := h.ok.f
  by_cases hno : tFault (D 74) n = -6
  · refine ⟨(((tRun (D 74) n np f n 0 (D 352) 0).1 : Nat) : Int), _, c_X4_carryOut D r h.hF n h74 p1 h.hC h.ok.1 hB h.ok.2 f h7 hf8 h.hI h.hz hno, fun v D1 r1 g => ?_⟩
    obtain ⟨g1, x1, x2, x3, x6, x4, π', x5⟩ := g
    have e351 : D1 351 = D 351 := x1 351 (by decide) (by decide) (by omega) (by omega)
    have e352 : D1 352 = D 352 := x1 352 (by decide) (by decide) (by omega) (by omega)
    have e353 : D1 353 = D 353 := x1 353 (by decide) (by decide) (by omega) (by omega)
    have e355 : D1 355 = D 355 := x1 355 (by decide) (by decide) (by omega) (by omega)
    have e74 : D1 74 = D 74 := x1 74 (by decide) (by decide) (by omega) (by omega)
    refine ⟨g1, _, c_X5_carryOut (B := B) (np := np) D1 r1 (h.hF.mv x2).rm (by rw [e352]; exact h.ok.1) hB f (by rw [e352]; exact h7) hf8 (by rw [e351]; exact h.s0) n (by rw [e351]; exact p2) (by rw [e355]; exact p3) (by rw [e355, ← p4]; exact hno), fun v2 D2 r2 k => ?_⟩
    obtain ⟨k1, rfl, F', k2, k3, k4⟩ := k
    rw [e355, e352, ← p4] at k1
    have w351 : D2 351 = F' := by rw [k2, xw_at]
    have w352 : D2 352 = (tRun (D 74) n np f n 0 (D 352) 0).2 := by rw [k2, xw_ne _ _ _ (by decide), xw_at, e355, e352, p4]
    have w353 : D2 353 = rcK (D 351) (D 353) (D 352) := by rw [k2, xw_ne _ _ _ (by decide), xw_ne _ _ _ (by decide), xw_at, e351, e352, e353]
    have wo : ∀ a, a ≠ 351 → a ≠ 352 → a ≠ 353 → D2 a = D1 a := fun a h1 h2 h3 => by rw [k2, xw_ne _ _ _ h1, xw_ne _ _ _ h2, xw_ne _ _ _ h3]
    have h80 := p3.1
    have hV := tRun_V (D 74) n np f hf8 n 0 (D 352) 0 B (Nat.zero_le _) h.ok.1 h.ok.2 h7 (by omega)
    refine ⟨k1, h.cg2 (n' := 0) (B' := B + 4100000) x1 x2 x3 x4 x5 (fun a ha => wo a (by omega) (by omega) (by omega)) w352 w353 ?_ (wo 354 (by decide) (by decide) (by decide)) ⟨?_, ?_, ⟨by omega, fun i hi => absurd hi (by omega)⟩, ?_⟩ ?_ (tz.run _ _ _ _ h.ok.np hf8 _ _ _ _ h.ht) (by omega) hB⟩
    · rw [w351, k4 3 (by decide), fu_at, e351]
    · rw [wo 73 (by decide) (by decide) (by decide), x6]; rfl
    · rw [w351, k3]; rfl
    · rw [wo 74 (by decide) (by decide) (by decide), wo 355 (by decide) (by decide) (by decide), e74, e355]; exact p4
    · exact ⟨hV.1.mono (by omega) hB, hV.2.1.1, Int.le_trans hV.2.1.2 (by omega)⟩
  · refine ⟨-3, _, c_X4_carryOut_no D r h.hF n h74 p1 hno, fun v D1 r1 g => ?_⟩
    obtain ⟨g1, rfl, q0, p0⟩ := g
    have e355 : D1 355 = D 355 := p0.1 355 (by decide)
    refine ⟨g1, _, c_X5_carryOut_no D1 r1 h.hF.rm n (by rw [p0.1 351 (by decide)]; exact p2) (by rw [e355]; exact p3) (by rw [e355, ← p4]; exact hno) (by rw [e355]; exact tFault_I p3), fun v2 D2 r2 k => ?_⟩
    obtain ⟨k1, rfl, F', k2, k3⟩ := k
    exact ⟨k1, (h.read p0 k2 k3).up hB⟩
