/-! ===== the law: what its turns answer is an int ===== -/
theorem xm1 : xI (-1) := by decide
theorem xm2 : xI (-2) := by decide
theorem xm4 : xI (-4) := by decide
theorem xm5 : xI (-5) := by decide
section XANS
variable {N : Nat → Int} {np : Nat} {B : Int}
theorem x_set (hG : GS B N np) (a b : Int) : xI (tSet N np a b).1 := by
  have h5 := hG.1.1.1.2.2.2.1
  unfold tSet
  split
  · rename_i hk
    obtain ⟨w, rfl⟩ := Int.eq_ofNat_of_zero_le hk.1.1
    have h9 : w = 0 ∨ w = 1 ∨ w = 2 ∨ w = 3 ∨ w = 4 ∨ w = 5 ∨ w = 6 ∨ w = 7 ∨ w = 8 := by omega
    rcases h9 with rfl | rfl | rfl | rfl | rfl | rfl | rfl | rfl | rfl
    · exact (show xI (N 5) from ⟨by omega, by omega⟩)
    · exact (show xI (N 6) from ⟨by omega, by omega⟩)
    · exact (show xI (N 7) from ⟨by omega, by omega⟩)
    · exact (show xI (N 8) from ⟨by omega, by omega⟩)
    · exact (show xI (N 9) from ⟨by omega, by omega⟩)
    · exact (show xI (N 10) from ⟨by omega, by omega⟩)
    · exact (show xI (N 11) from ⟨by omega, by omega⟩)
    · exact (show xI (N 12) from ⟨by omega, by omega⟩)
    · exact (show xI (N 13) from ⟨by omega, by omega⟩)
  · first | exact xm1 | exact xm2 | exact xm4 | exact xm5
theorem x_pro (hG : GS B N np) (fa sz lh sh st : Int) : xI (tPro N np fa sz lh sh st).1 := by
  have := hG.np
  unfold tPro
  split
  · split
    · exact (show xI (np : Int) from ⟨by omega, by omega⟩)
    · first | exact xm1 | exact xm2 | exact xm4 | exact xm5
  · first | exact xm1 | exact xm2 | exact xm4 | exact xm5
theorem x_fam (hG : GS B N np) (f b : Int) : xI (tFam N np f b).1 := by
  unfold tFam
  split
  · rename_i hk
    split
    · obtain ⟨w, rfl⟩ := Int.eq_ofNat_of_zero_le hk.1
      have := hG.1.1.1.2.2.2.2.1 w (by omega)
      exact (show xI (N (14 + w)) from ⟨by omega, by omega⟩)
    · first | exact xm1 | exact xm2 | exact xm4 | exact xm5
  · first | exact xm1 | exact xm2 | exact xm4 | exact xm5
theorem x_for (hG : GS B N np) (p w u : Int) : xI (tFor N np p w u).1 := by
  unfold tFor
  split
  · rename_i he
    obtain ⟨h1, h2, h3⟩ := eF_0 he
    obtain ⟨p, rfl⟩ := Int.eq_ofNat_of_zero_le h1.1
    obtain ⟨w, rfl⟩ := Int.eq_ofNat_of_zero_le h2.1
    have := hG.1.1.1.fc (p := p) (k := w) (by omega) (by omega)
    exact (show xI (pF N p (12 + w)) from ⟨by omega, by omega⟩)
  · have := eF_le np p w u
    exact ⟨by show _ ≤ eF np p w u; omega, by show eF np p w u < _; omega⟩
theorem x_act (hG : GS B N np) (p u : Int) : xI (tAct N np p u).1 := by
  unfold tAct
  split
  · rename_i he
    obtain ⟨h1, h3⟩ := eA_0 he
    obtain ⟨p, rfl⟩ := Int.eq_ofNat_of_zero_le h1.1
    have := (hG.1.1.1.2.2.2.2.2 p (by omega)).2.2.2.2.2.2.2.1
    exact (show xI (pF N p 7) from ⟨by omega, by omega⟩)
  · have := eA_le np p u
    exact ⟨by show _ ≤ eA np p u; omega, by show eA np p u < _; omega⟩
theorem x_lot (hG : GS B N np) (p w u : Int) : xI (tLot N np p w u).1 := by
  unfold tLot
  split
  · rename_i he
    obtain ⟨h1, h2, h3⟩ := eL_0 he
    obtain ⟨p, rfl⟩ := Int.eq_ofNat_of_zero_le h1.1
    obtain ⟨w, rfl⟩ := Int.eq_ofNat_of_zero_le h2.1
    have := hG.1.1.1.lots (p := p) (k := w) (by omega) (by omega)
    exact (show xI (pF N p (24 + w)) from ⟨by omega, by omega⟩)
  · have := eL_le N np p w u
    exact ⟨by show _ ≤ eL N np p w u; omega, by show eL N np p w u < _; omega⟩
theorem x_pla (hG : GS B N np) : xI (tPla N np).1 := by
  obtain ⟨f, h7, hf⟩ := hG.1.f
  have e : (N 7).toNat = f := by rw [h7]; rfl
  have hnp := hG.np
  unfold tPla
  rw [e]
  have := nLots_le (nPlan_I hG.1.1 hf).1 np (Nat.le_refl _)
  exact (show xI (nLots (nPlan np f N) np) from ⟨by omega, by omega⟩)
theorem x_wee (hG : GS B N np) (hB : B + 200000 ≤ 2100000000) (m : Int) : xI (tWee N np m).1 := by
  have h0 := hG.1.2
  unfold tWee
  split
  · obtain ⟨m, rfl⟩ := Int.eq_ofNat_of_zero_le (show 0 ≤ m by omega)
    have e : nPs np (N 7).toNat ((m : Nat) : Int).toNat N 0 = N 0 + (m : Int) := nPs_0 _ _ _ _
    exact ⟨by show _ ≤ nPs np (N 7).toNat ((m : Nat) : Int).toNat N 0; omega, by show nPs np (N 7).toNat ((m : Nat) : Int).toNat N 0 < _; omega⟩
  · first | exact xm1 | exact xm2 | exact xm4 | exact xm5
theorem x_res {sv : Nat → Int} {M : Nat → Nat → Int} {mp : Nat → Nat} {D : xD} (hB : B + 200000 ≤ 2100000000) (hS : SL D B sv M mp) (a : Int) : xI (tRes N np sv M mp a).1 := by
  unfold tRes
  split
  · rename_i ha
    split
    · rename_i h1
      obtain ⟨a, rfl⟩ := Int.eq_ofNat_of_zero_le ha.1
      have e : ((a : Nat) : Int).toNat = a := rfl
      rw [e] at h1 ⊢
      rcases (hS a (by omega)).2 with g | ⟨-, g, -⟩
      · omega
      · have h0 := g.1.2
        exact (show xI (M a 0) from ⟨by omega, by omega⟩)
    · first | exact xm1 | exact xm2 | exact xm4 | exact xm5
  · first | exact xm1 | exact xm2 | exact xm4 | exact xm5
theorem x_tur {sv : Nat → Int} {M : Nat → Nat → Int} {mp : Nat → Nat} {D : xD} (hG : GS B N np) (hB : B + 200000 ≤ 2100000000) (hS : SL D B sv M mp) (w a b : Int) : xI (tTur N np sv M mp w a b).1 := by
  unfold tTur
  split
  · exact x_pro hG _ _ _ _ _
  split
  · exact x_set hG _ _
  split
  · exact x_fam hG _ _
  split
  · exact x_for hG _ _ _
  split
  · exact x_act hG _ _
  split
  · exact x_lot hG _ _ _
  split
  · exact x_pla hG
  split
  · exact x_wee hG hB _
  unfold tAny
  split
  · exact x_set hG _ _
  split
  · exact x_pro hG _ _ _ _ _
  split
  · exact x_fam hG _ _
  split
  · exact x_for hG _ _ _
  split
  · exact x_act hG _ _
  split
  · exact x_lot hG _ _ _
  split
  · exact x_wee hG hB _
  exact x_res hB hS _
end XANS
/-! ===== the law: a turn ===== -/
def JE (D : xD) (r : xR) (B : Int) : Prop := ∃ (N : Nat → Int) (np s : Nat) (K : Nat → Nat → Int) (q : Nat → Nat) (sv : Nat → Int) (M : Nat → Nat → Int) (mp : Nat → Nat), Js D r B N np s K q sv M mp

set_option maxRecDepth 100000 in
set_option maxHeartbeats 4000000 in
theorem law_232 {γ : xC} {nm ds : String} (hX : xX γ cL_law 20 ⟨RL, nm, ds⟩ 8) {k T : Nat} {B : Int} (hB : B + 1000000 ≤ 2100000000) {N : Nat → Int} {np s : Nat} {x a b w v : Int} (hG : GS B N np) (iw : xI w) (ia : xI a) (ib : xI b)
    (kont : ∀ D r, JE D r (B + 600000) → xV γ 327 [some (.ref 0), some (.ref 4), some (vi T), some (vi k), none, none, none, none, none, none, none, none, none, none, none, none, none, none, none, none] [] (351, 4536) D r) :
    ∀ (D : xD) (r : xR) (N1 : Nat → Int) (np1 s1 : Nat) (K1 : Nat → Nat → Int) (q1 : Nat → Nat) (sv1 : Nat → Int) (M1 : Nat → Nat → Int) (mp1 : Nat → Nat) (nv : Option Value), Js D r (B + 400000) N1 np1 s1 K1 q1 sv1 M1 mp1 → (isW w b = 0 → N1 7 = N 7 → np1 = np → frz N1 np1 = frz N np) → xV γ 232 [some (.ref 0), some (.ref 4), some (vi T), some (vi k), some (vi x), some (vi a), some (vi b), some (vi w), some (vl (vw N np)), none, some (vl (frz N np)), none, some (vl (cn N np s 12)), none, some (vl (cn N np s 1)), none, some (vl (cn N np s 9)), none, some (vi v), nv] [] (351, 4536) D r := by
  have K318 : ∀ (D : xD) (r : xR) (N1 : Nat → Int) (np1 s1 : Nat) (K1 : Nat → Nat → Int) (q1 : Nat → Nat) (sv1 : Nat → Int) (M1 : Nat → Nat → Int) (mp1 : Nat → Nat) (nv : Option Value), Js D r (B + 600000) N1 np1 s1 K1 q1 sv1 M1 mp1 → xV γ 318 [some (.ref 0), some (.ref 4), some (vi T), some (vi k), some (vi x), some (vi a), some (vi b), some (vi w), some (vl (vw N np)), none, some (vl (frz N np)), none, some (vl (cn N np s 12)), none, some (vl (cn N np s 1)), none, some (vl (cn N np s 9)), none, some (vi v), nv] [] (351, 4536) D r := by
    intro D r N1 np1 s1 K1 q1 sv1 M1 mp1 nv hJ
    refine v_aload_n (q := 319) hX dL_law_318 rfl rfl rfl ?_
    refine w_callS (q := 322) hX (c_L_areRight hJ.1 hJ.2.1) rfl kS_L_areRight rfl (by decide) lk_L_120 (Nat.le_of_ble_eq_true rfl) dL_law_319 rfl ?_
    refine v_if_ne (q := 325) (tgt := 327) hX ⟨by omega, by omega⟩ dL_law_322 (by decide) rfl (fun hx_322 => ?_) (fun hx_322 => ?_)
    · exact xVw (by repeat' first | exact trivial | refine And.intro rfl ?_) (kont D r ⟨_, _, _, _, _, _, _, _, hJ⟩)
    · exact absurd hx_322 (by decide)
  have K296 : ∀ (D : xD) (r : xR) (N1 : Nat → Int) (np1 s1 : Nat) (K1 : Nat → Nat → Int) (q1 : Nat → Nat) (sv1 : Nat → Int) (M1 : Nat → Nat → Int) (mp1 : Nat → Nat) (nv : Option Value), Js D r (B + 600000) N1 np1 s1 K1 q1 sv1 M1 mp1 → xV γ 296 [some (.ref 0), some (.ref 4), some (vi T), some (vi k), some (vi x), some (vi a), some (vi b), some (vi w), some (vl (vw N np)), none, some (vl (frz N np)), none, some (vl (cn N np s 12)), none, some (vl (cn N np s 1)), none, some (vl (cn N np s 9)), none, some (vi v), nv] [] (351, 4536) D r := by
    intro D r N1 np1 s1 K1 q1 sv1 M1 mp1 nv hJ
    refine v_iload (q := 298) hX dL_law_296 rfl rfl ?_
    refine v_sipush (q := 301) hX (by decide) dL_law_298 rfl ?_
    refine v_iand (q := 302) hX ((Int32.ofInt x &&& Int32.ofInt 224).toInt) ((Int32.ofInt_toInt _).symm) dL_law_301 rfl ?_
    refine v_bipush (q := 304) hX (by decide) dL_law_302 rfl ?_
    refine v_icmp_ne (q := 307) (tgt := 318) hX (x32 _) ⟨by decide, by decide⟩ dL_law_304 (by decide) rfl (fun hx_304 => ?_) (fun hx_304 => ?_)
    · first | exact K318 _ _ _ _ _ _ _ _ _ _ _ hJ2 | exact K318 _ _ _ _ _ _ _ _ _ _ _ hJ
    · refine v_aload_n (q := 308) hX dL_law_307 rfl rfl rfl ?_
      refine v_iload (q := 310) hX dL_law_308 rfl rfl ?_
      refine v_iload (q := 312) hX dL_law_310 rfl rfl ?_
      refine w_callSr (q := 315) hX (c_L_asks hJ (by omega) a b ia ib) rfl kS_L_asks rfl (by decide) lk_L_117 (Nat.le_of_ble_eq_true rfl) dL_law_312 rfl (fun D2 r2 h2_ => ?_)
      obtain ⟨rfl, hJ2⟩ := h2_
      refine v_if_eq (q := 318) (tgt := 325) hX ⟨by omega, by omega⟩ dL_law_315 (by decide) rfl (fun hx_315 => ?_) (fun hx_315 => ?_)
      · exact absurd hx_315 (by decide)
      · first | exact K318 _ _ _ _ _ _ _ _ _ _ _ hJ2 | exact K318 _ _ _ _ _ _ _ _ _ _ _ hJ
  have K277 : ∀ (D : xD) (r : xR) (N1 : Nat → Int) (np1 s1 : Nat) (K1 : Nat → Nat → Int) (q1 : Nat → Nat) (sv1 : Nat → Int) (M1 : Nat → Nat → Int) (mp1 : Nat → Nat) (nv : Option Value), Js D r (B + 400000) N1 np1 s1 K1 q1 sv1 M1 mp1 → xV γ 277 [some (.ref 0), some (.ref 4), some (vi T), some (vi k), some (vi x), some (vi a), some (vi b), some (vi w), some (vl (vw N np)), none, some (vl (frz N np)), none, some (vl (cn N np s 12)), none, some (vl (cn N np s 1)), none, some (vl (cn N np s 9)), none, some (vi v), nv] [] (351, 4536) D r := by
    intro D r N1 np1 s1 K1 q1 sv1 M1 mp1 nv hJ
    refine v_iload (q := 279) hX dL_law_277 rfl rfl ?_
    refine v_bipush (q := 281) hX (by decide) dL_law_279 rfl ?_
    refine v_iand (q := 282) hX ((Int32.ofInt x &&& Int32.ofInt 96).toInt) ((Int32.ofInt_toInt _).symm) dL_law_281 rfl ?_
    refine v_if_ne (q := 285) (tgt := 296) hX (x32 _) dL_law_282 (by decide) rfl (fun hx_282 => ?_) (fun hx_282 => ?_)
    · first | exact K296 _ _ _ _ _ _ _ _ _ _ _ hJ2 | exact K296 _ _ _ _ _ _ _ _ _ _ _ (hJ.mono (by omega) (by omega))
    · refine v_aload_n (q := 286) hX dL_law_285 rfl rfl rfl ?_
      refine v_iload (q := 288) hX dL_law_286 rfl rfl ?_
      refine v_iload (q := 290) hX dL_law_288 rfl rfl ?_
      refine w_callSr (q := 293) hX (c_L_isSaved hJ (by omega) a b ia ib) rfl kS_L_isSaved rfl (by decide) lk_L_113 (Nat.le_of_ble_eq_true rfl) dL_law_290 rfl (fun D2 r2 h2_ => ?_)
      obtain ⟨s2, K2, q2, sv2, M2, mp2, hJ2⟩ := h2_
      rw [show B + 400000 + 200000 = B + 600000 by omega] at hJ2
      refine v_if_eq (q := 296) (tgt := 325) hX ⟨by omega, by omega⟩ dL_law_293 (by decide) rfl (fun hx_293 => ?_) (fun hx_293 => ?_)
      · exact absurd hx_293 (by decide)
      · first | exact K296 _ _ _ _ _ _ _ _ _ _ _ hJ2 | exact K296 _ _ _ _ _ _ _ _ _ _ _ (hJ.mono (by omega) (by omega))
  have K232 : ∀ (D : xD) (r : xR) (N1 : Nat → Int) (np1 s1 : Nat) (K1 : Nat → Nat → Int) (q1 : Nat → Nat) (sv1 : Nat → Int) (M1 : Nat → Nat → Int) (mp1 : Nat → Nat) (nv : Option Value), Js D r (B + 400000) N1 np1 s1 K1 q1 sv1 M1 mp1 → (isW w b = 0 → N1 7 = N 7 → np1 = np → frz N1 np1 = frz N np) → xV γ 232 [some (.ref 0), some (.ref 4), some (vi T), some (vi k), some (vi x), some (vi a), some (vi b), some (vi w), some (vl (vw N np)), none, some (vl (frz N np)), none, some (vl (cn N np s 12)), none, some (vl (cn N np s 1)), none, some (vl (cn N np s 9)), none, some (vi v), nv] [] (351, 4536) D r := by
    intro D r N1 np1 s1 K1 q1 sv1 M1 mp1 nv hJ hfz
    have i12 : 0 ≤ cn N np s 12 ∧ cn N np s 12 ≤ 8 := hG.1.1.1.2.2.2.1.2.2.1
    have j12 : 0 ≤ cn N1 np1 s1 12 ∧ cn N1 np1 s1 12 ≤ 8 := hJ.2.1.1.1.1.2.2.2.1.2.2.1
    have i1 : cn N np s 1 = (np : Int) := hG.1.1.1.2.1
    have j1 : cn N1 np1 s1 1 = (np1 : Int) := hJ.2.1.1.1.1.2.1
    have hn1 := hG.np
    have hn2 := hJ.2.1.np
    refine v_iload (q := 234) hX dL_law_232 rfl rfl ?_
    refine v_iload (q := 236) hX dL_law_234 rfl rfl ?_
    refine w_callS (q := 239) hX (c_L_isWeeks _ _ w b iw ib) rfl kS_L_isWeeks rfl (by decide) lk_L_109 (Nat.le_of_ble_eq_true rfl) dL_law_236 rfl ?_
    refine v_if_ne (q := 242) (tgt := 277) hX (isW_x w b) dL_law_239 (by decide) rfl (fun hx_239 => ?_) (fun hx_239 => ?_)
    · exact K277 _ _ _ _ _ _ _ _ _ _ _ hJ
    · refine v_lload (q := 244) hX dL_law_242 rfl rfl ?_
      refine v_aload_n (q := 245) hX dL_law_244 rfl rfl rfl ?_
      refine v_bipush (q := 247) hX (by decide) dL_law_245 rfl ?_
      refine w_callV (q := 250) hX (c_cnt hJ.1 hJ.2.1 12 (by decide)) rfl kV_X4_count rfl (by decide) lk_L_13 (by decide) rfl oLF (Nat.le_of_ble_eq_true rfl) dL_law_247 rfl ?_
      refine v_lcmp_ne (q := 254) (tgt := 277) hX ⟨by omega, by omega⟩ ⟨by omega, by omega⟩ dL_law_250 dL_law_251 (by decide) rfl (fun hx_250 => ?_) (fun hx_250 => ?_)
      · exact K277 _ _ _ _ _ _ _ _ _ _ _ hJ
      · refine v_lload (q := 256) hX dL_law_254 rfl rfl ?_
        refine v_aload_n (q := 257) hX dL_law_256 rfl rfl rfl ?_
        refine v_iconst (q := 258) hX dL_law_257 rfl ?_
        refine w_callV (q := 261) hX (c_cnt hJ.1 hJ.2.1 1 (by decide)) rfl kV_X4_count rfl (by decide) lk_L_13 (by decide) rfl oLF (Nat.le_of_ble_eq_true rfl) dL_law_258 rfl ?_
        refine v_lcmp_ne (q := 265) (tgt := 277) hX ⟨by omega, by omega⟩ ⟨by omega, by omega⟩ dL_law_261 dL_law_262 (by decide) rfl (fun hx_261 => ?_) (fun hx_261 => ?_)
        · exact K277 _ _ _ _ _ _ _ _ _ _ _ hJ
        · refine v_aload_n (q := 266) hX dL_law_265 rfl rfl rfl ?_
          refine w_callS (q := 269) hX (c_L_frozen hJ.1 hJ.2.1) rfl kS_L_frozen rfl (by decide) lk_L_100 (Nat.le_of_ble_eq_true rfl) dL_law_266 rfl ?_
          refine v_lload (q := 271) hX dL_law_269 rfl rfl ?_
          rw [hfz hx_239 hx_250.symm (by omega)]
          refine v_lcmpT (tgt := 277) hX dL_law_271 dL_law_272 (by decide) ?_
          exact K277 _ _ _ _ _ _ _ _ _ _ _ hJ
  exact K232
set_option maxRecDepth 100000 in
set_option maxHeartbeats 4000000 in
theorem law_79 {γ : xC} {nm ds : String} (hX : xX γ cL_law 20 ⟨RL, nm, ds⟩ 8) {k T : Nat} {B : Int} (hB : B + 1000000 ≤ 2100000000) {x a b w : Int} (iw : xI w) (ia : xI a) (ib : xI b) (hw : 0 ≤ w ∧ w ≤ 15)
    (kont : ∀ D r, JE D r (B + 600000) → xV γ 327 [some (.ref 0), some (.ref 4), some (vi T), some (vi k), none, none, none, none, none, none, none, none, none, none, none, none, none, none, none, none] [] (351, 4536) D r) {D : xD} {r : xR} (hJ : JE D r B) : xV γ 79 [some (.ref 0), some (.ref 4), some (vi T), some (vi k), some (vi x), some (vi a), some (vi b), none, none, none, none, none, none, none, none, none, none, none, none, none] [vi w] (351, 4536) D r := by
  obtain ⟨N, np, s, K, q, sv, M, mp, h⟩ := hJ
  have h6 := h.s6
  have hG := h.2.1
  obtain ⟨t, ht⟩ : ∃ t, t = tTur N np sv M mp w a b := ⟨_, rfl⟩
  have hT := c_L_turn (z := 4536) h.1 hG (by omega) h.2.2.2 w a b iw ia ib
  have hg := g_tur hG (by omega) h.2.2.2 w a b
  have hz := f_tur hG sv M mp w a b hw
  have hxt := x_tur hG (by omega) h.2.2.2 w a b
  rw [← ht] at hT hg hxt
  have hz : isW w b = 0 → t.2.1 7 = N 7 → t.2.2 = np → frz t.2.1 t.2.2 = frz N np := fun e1 => by rw [ht]; exact hz e1
  have OK : ∀ (D1 : xD) (r1 : xR), ¬ isE t.1 → Js D1 r1 (B + 200000) t.2.1 t.2.2 (hS s + 1) (hPu s K N) (hPu s q np) sv M mp → xV γ 128 [some (.ref 0), some (.ref 4), some (vi T), some (vi k), some (vi x), some (vi a), some (vi b), some (vi w), some (vl (vw N np)), none, some (vl (frz N np)), none, some (vl (cn N np s 12)), none, some (vl (cn N np s 1)), none, some (vl (cn N np s 9)), none, some (vi t.1), none] [] (351, 4536) D1 r1 := by
    intro D1 r1 hok hJ
    have h5 := hS5 s h6
    have K201 : ∀ (nv : Option Value) (e : Int), e = ((hS s + 1 : Nat) : Int) → xV γ 201 [some (.ref 0), some (.ref 4), some (vi T), some (vi k), some (vi x), some (vi a), some (vi b), some (vi w), some (vl (vw N np)), none, some (vl (frz N np)), none, some (vl (cn N np s 12)), none, some (vl (cn N np s 1)), none, some (vl (cn N np s 9)), none, some (vi t.1), nv] [vl e, vl ((hS s + 1 : Nat) : Int)] (351, 4536) D1 r1 := by
      intro nv e he
      subst he
      refine v_lcmpS (q := 205) (tgt := 230) hX dL_law_201 dL_law_202 (by decide) rfl ?_
      refine v_iload (q := 207) hX dL_law_205 rfl rfl ?_
      refine v_bipush (q := 209) hX (by decide) dL_law_207 rfl ?_
      refine v_iand (q := 210) hX ((Int32.ofInt x &&& Int32.ofInt 16).toInt) ((Int32.ofInt_toInt _).symm) dL_law_209 rfl ?_
      refine v_if_ne (q := 213) (tgt := 232) hX (x32 _) dL_law_210 (by decide) rfl (fun hx_210 => ?_) (fun hx_210 => ?_)
      · first | exact law_232 hX (s := s) (x := x) (v := t.1) hB hG iw ia ib kont _ _ _ _ _ _ _ _ _ _ _ hJ2 hz | exact law_232 hX (s := s) (x := x) (v := t.1) hB hG iw ia ib kont _ _ _ _ _ _ _ _ _ _ _ (hJ.mono (by omega) (by omega)) hz
      · refine v_aload_n (q := 214) hX dL_law_213 rfl rfl rfl ?_
        refine v_iload (q := 216) hX dL_law_214 rfl rfl ?_
        refine v_iload (q := 218) hX dL_law_216 rfl rfl ?_
        refine v_iload (q := 220) hX dL_law_218 rfl rfl ?_
        refine v_iload (q := 222) hX dL_law_220 rfl rfl ?_
        refine v_lload (q := 224) hX dL_law_222 rfl rfl ?_
        refine w_callSr (q := 227) hX (c_L_isUndone hJ (by omega) w a b iw ia ib (hPu_at s K N) (hPu_at s q np) ht hok) rfl kS_L_isUndone rfl (by decide) lk_L_105 (Nat.le_of_ble_eq_true rfl) dL_law_224 rfl (fun D2 r2 h2_ => ?_)
        obtain ⟨K2, q2, hJ2⟩ := h2_
        rw [show B + 200000 + 200000 = B + 400000 by omega] at hJ2
        refine v_if_ne (q := 230) (tgt := 232) hX ⟨by omega, by omega⟩ dL_law_227 (by decide) rfl (fun hx_227 => ?_) (fun hx_227 => ?_)
        · first | exact law_232 hX (s := s) (x := x) (v := t.1) hB hG iw ia ib kont _ _ _ _ _ _ _ _ _ _ _ hJ2 hz | exact law_232 hX (s := s) (x := x) (v := t.1) hB hG iw ia ib kont _ _ _ _ _ _ _ _ _ _ _ (hJ.mono (by omega) (by omega)) hz
        · exact absurd hx_227 (by decide)
    have K176 : ∀ (nv : Option Value), xV γ 176 [some (.ref 0), some (.ref 4), some (vi T), some (vi k), some (vi x), some (vi a), some (vi b), some (vi w), some (vl (vw N np)), none, some (vl (frz N np)), none, some (vl (cn N np s 12)), none, some (vl (cn N np s 1)), none, some (vl (cn N np s 9)), none, some (vi t.1), nv] [] (351, 4536) D1 r1 := by
      intro nv
      refine v_aload_n (q := 177) hX dL_law_176 rfl rfl rfl ?_
      refine v_bipush (q := 179) hX (by decide) dL_law_177 rfl ?_
      refine w_callV (q := 182) hX (c_cnt hJ.1 hJ.2.1 9 (by decide)) rfl kV_X4_count rfl (by decide) lk_L_13 (by decide) rfl oLF (Nat.le_of_ble_eq_true rfl) dL_law_179 rfl ?_
      rw [cn_9, cn_9]
      refine v_lload (q := 184) hX dL_law_182 rfl rfl ?_
      refine v_ldc2 (q := 187) (e := 6) hX (by decide) kl_L_103 dL_law_184 rfl ?_
      refine v_lcmp_ge (q := 191) (tgt := 198) hX ⟨by omega, by omega⟩ ⟨by decide, by decide⟩ dL_law_187 dL_law_188 (by decide) rfl (fun hx_187 => ?_) (fun hx_187 => ?_)
      · refine v_ldc2 (q := 201) (e := 6) hX (by decide) kl_L_103 dL_law_198 rfl ?_
        exact K201 _ _ (by unfold hS; split <;> omega)
      · refine v_lload (q := 193) hX dL_law_191 rfl rfl ?_
        refine v_lconst (q := 194) (e := 1) hX (by decide) dL_law_193 rfl ?_
        refine v_ladd (q := 195) hX dL_law_194 rfl ?_
        refine v_goto (tgt := 201) hX dL_law_195 (by decide) ?_
        exact K201 _ _ (by unfold hS; split <;> omega)
    have K140 : ∀ v : Int, xI v → (t.1 = -6 → v ≠ 0) → xV γ 140 [some (.ref 0), some (.ref 4), some (vi T), some (vi k), some (vi x), some (vi a), some (vi b), some (vi w), some (vl (vw N np)), none, some (vl (frz N np)), none, some (vl (cn N np s 12)), none, some (vl (cn N np s 1)), none, some (vl (cn N np s 9)), none, some (vi t.1), none] [vi v] (351, 4536) D1 r1 := by
      intro v iv hv
      refine v_istore (q := 142) hX dL_law_140 (Nat.le_of_ble_eq_true rfl) (Nat.le_of_ble_eq_true rfl) rfl ?_
      dsimp only [xs1, xs2, xclr]
      refine v_iload (q := 144) hX dL_law_142 rfl rfl ?_
      refine v_if_ge (q := 147) (tgt := 176) hX hxt dL_law_144 (by decide) rfl (fun hx_144 => ?_) (fun hx_144 => ?_)
      · exact K176 _
      · refine v_iload (q := 149) hX dL_law_147 rfl rfl ?_
        refine v_if_ne (q := 152) (tgt := 176) hX iv dL_law_149 (by decide) rfl (fun hx_149 => ?_) (fun hx_149 => ?_)
        · exact K176 _
        · exact absurd hx_149 (hv (by omega))
    refine v_iload (q := 130) hX dL_law_128 rfl rfl ?_
    refine v_bipush (q := 132) hX (by decide) dL_law_130 rfl ?_
    refine v_icmp_ne (q := 135) (tgt := 139) hX hxt ⟨by decide, by decide⟩ dL_law_132 (by decide) rfl (fun hx_132 => ?_) (fun hx_132 => ?_)
    · refine v_iconst (q := 140) hX dL_law_139 rfl ?_
      exact K140 _ ⟨by decide, by decide⟩ (fun h9 => by first | decide | exact absurd h9 hx_132)
    · refine v_iconst (q := 136) hX dL_law_135 rfl ?_
      refine v_goto (tgt := 140) hX dL_law_136 (by decide) ?_
      exact K140 _ ⟨by decide, by decide⟩ (fun h9 => by first | decide | exact absurd h9 hx_132)
  have ER : ∀ (D1 : xD) (r1 : xR), isE t.1 → t.2.1 = N → t.2.2 = np → Js D1 r1 B N np s K q sv M mp → xV γ 128 [some (.ref 0), some (.ref 4), some (vi T), some (vi k), some (vi x), some (vi a), some (vi b), some (vi w), some (vl (vw N np)), none, some (vl (frz N np)), none, some (vl (cn N np s 12)), none, some (vl (cn N np s 1)), none, some (vl (cn N np s 9)), none, some (vi t.1), none] [] (351, 4536) D1 r1 := by
    intro D1 r1 hE e1 e2 hJ
    refine v_iload (q := 130) hX dL_law_128 rfl rfl ?_
    refine v_bipush (q := 132) hX (by decide) dL_law_130 rfl ?_
    refine v_icmp_ne (q := 135) (tgt := 139) hX hxt ⟨by decide, by decide⟩ dL_law_132 (by decide) rfl (fun hx_132 => ?_) (fun hx_132 => ?_)
    · refine v_iconst (q := 140) hX dL_law_139 rfl ?_
      refine v_istore (q := 142) hX dL_law_140 (Nat.le_of_ble_eq_true rfl) (Nat.le_of_ble_eq_true rfl) rfl ?_
      dsimp only [xs1, xs2, xclr]
      refine v_iload (q := 144) hX dL_law_142 rfl rfl ?_
      refine v_if_ge (q := 147) (tgt := 176) hX hxt dL_law_144 (by decide) rfl (fun hx_144 => ?_) (fun hx_144 => ?_)
      · exact absurd hx_144 (by omega)
      · refine v_iload (q := 149) hX dL_law_147 rfl rfl ?_
        refine v_if_ne (q := 152) (tgt := 176) hX ⟨by omega, by omega⟩ dL_law_149 (by decide) rfl (fun hx_149 => ?_) (fun hx_149 => ?_)
        · exact absurd hx_149 (by decide)
        · refine v_aload_n (q := 153) hX dL_law_152 rfl rfl rfl ?_
          refine w_callS (q := 156) hX (c_L_view hJ.1 hJ.2.1) rfl kS_L_view rfl (by decide) lk_L_74 (Nat.le_of_ble_eq_true rfl) dL_law_153 rfl ?_
          refine v_lload (q := 158) hX dL_law_156 rfl rfl ?_
          refine v_lcmpS (q := 162) (tgt := 174) hX dL_law_158 dL_law_159 (by decide) rfl ?_
          refine v_aload_n (q := 163) hX dL_law_162 rfl rfl rfl ?_
          refine v_bipush (q := 165) hX (by decide) dL_law_163 rfl ?_
          refine w_callV (q := 168) hX (c_cnt hJ.1 hJ.2.1 9 (by decide)) rfl kV_X4_count rfl (by decide) lk_L_13 (by decide) rfl oLF (Nat.le_of_ble_eq_true rfl) dL_law_165 rfl ?_
          refine v_lload (q := 170) hX dL_law_168 rfl rfl ?_
          refine v_lcmpT (tgt := 232) hX dL_law_170 dL_law_171 (by decide) ?_
          exact law_232 hX (s := s) (x := x) (v := t.1) hB hG iw ia ib kont _ _ _ _ _ _ _ _ _ _ _ (hJ.mono (by omega) (by omega)) (fun _ _ _ => rfl)
    · exact absurd hx_132 hE.2
  refine v_istore (q := 81) hX dL_law_79 (Nat.le_of_ble_eq_true rfl) (Nat.le_of_ble_eq_true rfl) rfl ?_
  dsimp only [xs1, xs2, xclr]
  refine v_aload_n (q := 82) hX dL_law_81 rfl rfl rfl ?_
  refine w_callS (q := 85) hX (c_L_view h.1 h.2.1) rfl kS_L_view rfl (by decide) lk_L_74 (Nat.le_of_ble_eq_true rfl) dL_law_82 rfl ?_
  refine v_lstore (q := 87) hX dL_law_85 (Nat.le_of_ble_eq_true rfl) (Nat.le_of_ble_eq_true rfl) rfl ?_
  dsimp only [xs1, xs2, xclr]
  refine v_aload_n (q := 88) hX dL_law_87 rfl rfl rfl ?_
  refine w_callS (q := 91) hX (c_L_frozen h.1 h.2.1) rfl kS_L_frozen rfl (by decide) lk_L_100 (Nat.le_of_ble_eq_true rfl) dL_law_88 rfl ?_
  refine v_lstore (q := 93) hX dL_law_91 (Nat.le_of_ble_eq_true rfl) (Nat.le_of_ble_eq_true rfl) rfl ?_
  dsimp only [xs1, xs2, xclr]
  refine v_aload_n (q := 94) hX dL_law_93 rfl rfl rfl ?_
  refine v_bipush (q := 96) hX (by decide) dL_law_94 rfl ?_
  refine w_callV (q := 99) hX (c_cnt h.1 h.2.1 12 (by decide)) rfl kV_X4_count rfl (by decide) lk_L_13 (by decide) rfl oLF (Nat.le_of_ble_eq_true rfl) dL_law_96 rfl ?_
  refine v_lstore (q := 101) hX dL_law_99 (Nat.le_of_ble_eq_true rfl) (Nat.le_of_ble_eq_true rfl) rfl ?_
  dsimp only [xs1, xs2, xclr]
  refine v_aload_n (q := 102) hX dL_law_101 rfl rfl rfl ?_
  refine v_iconst (q := 103) hX dL_law_102 rfl ?_
  refine w_callV (q := 106) hX (c_cnt h.1 h.2.1 1 (by decide)) rfl kV_X4_count rfl (by decide) lk_L_13 (by decide) rfl oLF (Nat.le_of_ble_eq_true rfl) dL_law_103 rfl ?_
  refine v_lstore (q := 108) hX dL_law_106 (Nat.le_of_ble_eq_true rfl) (Nat.le_of_ble_eq_true rfl) rfl ?_
  dsimp only [xs1, xs2, xclr]
  refine v_aload_n (q := 109) hX dL_law_108 rfl rfl rfl ?_
  refine v_bipush (q := 111) hX (by decide) dL_law_109 rfl ?_
  refine w_callV (q := 114) hX (c_cnt h.1 h.2.1 9 (by decide)) rfl kV_X4_count rfl (by decide) lk_L_13 (by decide) rfl oLF (Nat.le_of_ble_eq_true rfl) dL_law_111 rfl ?_
  refine v_lstore (q := 116) hX dL_law_114 (Nat.le_of_ble_eq_true rfl) (Nat.le_of_ble_eq_true rfl) rfl ?_
  dsimp only [xs1, xs2, xclr]
  refine v_aload_n (q := 117) hX dL_law_116 rfl rfl rfl ?_
  refine v_iload (q := 119) hX dL_law_117 rfl rfl ?_
  refine v_iload (q := 121) hX dL_law_119 rfl rfl ?_
  refine v_iload (q := 123) hX dL_law_121 rfl rfl ?_
  refine w_callSr (q := 126) hX (hT) rfl kS_L_turn rfl (by decide) lk_L_78 (Nat.le_of_ble_eq_true rfl) dL_law_123 rfl (fun D1 r1 h1_ => ?_)
  refine v_istore (q := 128) hX dL_law_126 (Nat.le_of_ble_eq_true rfl) (Nat.le_of_ble_eq_true rfl) rfl ?_
  dsimp only [xs1, xs2, xclr]
  rcases h1_ with ⟨hE, e1, e2, rfl, rfl⟩ | ⟨hE, hx⟩
  · exact ER _ _ hE e1 e2 h
  · exact OK _ _ hE (h.chg hx hg (by omega) (by omega))
set_option maxRecDepth 100000 in
set_option maxHeartbeats 4000000 in
theorem law_34 {γ : xC} {nm ds : String} (hX : xX γ cL_law 20 ⟨RL, nm, ds⟩ 8) {L : Nat} {xs : Nat → Int32} (hL : L ≤ 260) (hsc : xSc γ L xs) {k T : Nat} (hk : 3 * k + 3 ≤ L) {B : Int} (hB : B + 1000000 ≤ 2100000000)
    (kont : ∀ D r, JE D r (B + 600000) → xV γ 327 [some (.ref 0), some (.ref 4), some (vi T), some (vi k), none, none, none, none, none, none, none, none, none, none, none, none, none, none, none, none] [] (351, 4536) D r) {D : xD} {r : xR} (hJ : JE D r B) : xV γ 34 [some (.ref 0), some (.ref 4), some (vi T), some (vi k), none, none, none, none, none, none, none, none, none, none, none, none, none, none, none, none] [] (351, 4536) D r := by
  refine v_aload_n (q := 35) hX dL_law_34 rfl rfl rfl ?_
  refine v_iconst (q := 36) hX dL_law_35 rfl ?_
  refine v_iload_n (q := 37) hX dL_law_36 rfl rfl rfl ?_
  refine v_imul (q := 38) hX dL_law_37 rfl ?_
  rw [show (3 : Int) * (k : Int) = ((3 * k : Nat) : Int) by omega]
  refine v_callSs (q := 41) hX hsc (c_L_cell (z := 4536) _ _ (3 * k) (by omega) (by omega)) rfl kS_L_cell rfl (by decide) lk_L_96 (Nat.le_of_ble_eq_true rfl) dL_law_38 rfl (fun v_ D1 r1 h1_ => ?_)
  obtain ⟨rfl, rfl, rfl⟩ := h1_
  simp only [Option.toList, List.cons_append, List.nil_append]
  refine v_istore (q := 43) hX dL_law_41 (Nat.le_of_ble_eq_true rfl) (Nat.le_of_ble_eq_true rfl) rfl ?_
  dsimp only [xs1, xs2, xclr]
  refine v_aload_n (q := 44) hX dL_law_43 rfl rfl rfl ?_
  refine v_iconst (q := 45) hX dL_law_44 rfl ?_
  refine v_iload_n (q := 46) hX dL_law_45 rfl rfl rfl ?_
  refine v_imul (q := 47) hX dL_law_46 rfl ?_
  refine v_iconst (q := 48) hX dL_law_47 rfl ?_
  refine v_iadd (q := 49) hX dL_law_48 rfl ?_
  rw [show (3 : Int) * (k : Int) + 1 = ((3 * k + 1 : Nat) : Int) by omega]
  refine v_callSs (q := 52) hX hsc (c_L_cell (z := 4536) _ _ (3 * k + 1) (by omega) (by omega)) rfl kS_L_cell rfl (by decide) lk_L_96 (Nat.le_of_ble_eq_true rfl) dL_law_49 rfl (fun v_ D1 r1 h1_ => ?_)
  obtain ⟨rfl, rfl, rfl⟩ := h1_
  simp only [Option.toList, List.cons_append, List.nil_append]
  refine v_istore (q := 54) hX dL_law_52 (Nat.le_of_ble_eq_true rfl) (Nat.le_of_ble_eq_true rfl) rfl ?_
  dsimp only [xs1, xs2, xclr]
  refine v_aload_n (q := 55) hX dL_law_54 rfl rfl rfl ?_
  refine v_iconst (q := 56) hX dL_law_55 rfl ?_
  refine v_iload_n (q := 57) hX dL_law_56 rfl rfl rfl ?_
  refine v_imul (q := 58) hX dL_law_57 rfl ?_
  refine v_iconst (q := 59) hX dL_law_58 rfl ?_
  refine v_iadd (q := 60) hX dL_law_59 rfl ?_
  rw [show (3 : Int) * (k : Int) + 2 = ((3 * k + 2 : Nat) : Int) by omega]
  refine v_callSs (q := 63) hX hsc (c_L_cell (z := 4536) _ _ (3 * k + 2) (by omega) (by omega)) rfl kS_L_cell rfl (by decide) lk_L_96 (Nat.le_of_ble_eq_true rfl) dL_law_60 rfl (fun v_ D1 r1 h1_ => ?_)
  obtain ⟨rfl, rfl, rfl⟩ := h1_
  simp only [Option.toList, List.cons_append, List.nil_append]
  refine v_istore (q := 65) hX dL_law_63 (Nat.le_of_ble_eq_true rfl) (Nat.le_of_ble_eq_true rfl) rfl ?_
  dsimp only [xs1, xs2, xclr]
  refine v_iload_n (q := 66) hX dL_law_65 rfl rfl rfl ?_
  refine v_iconst (q := 67) hX dL_law_66 rfl ?_
  refine v_icmp_ge (q := 70) (tgt := 74) hX ⟨by omega, by omega⟩ ⟨by decide, by decide⟩ dL_law_67 (by decide) rfl (fun hx_67 => ?_) (fun hx_67 => ?_)
  · refine v_iload (q := 76) hX dL_law_74 rfl rfl ?_
    refine v_bipush (q := 78) hX (by decide) dL_law_76 rfl ?_
    refine v_iand (q := 79) hX ((xs (3 * k)).toInt % 16) (sand15 (xs (3 * k)).toInt) dL_law_78 rfl ?_
    exact law_79 hX hB (by first | exact ⟨by decide, by decide⟩ | exact ⟨by omega, by omega⟩) (x32 _) (x32 _) (by omega) kont hJ
  · refine v_iconst (q := 71) hX dL_law_70 rfl ?_
    refine v_goto (tgt := 79) hX dL_law_71 (by decide) ?_
    exact law_79 hX hB (by first | exact ⟨by decide, by decide⟩ | exact ⟨by omega, by omega⟩) (x32 _) (x32 _) (by omega) kont hJ
set_option maxRecDepth 100000 in
set_option maxHeartbeats 4000000 in
theorem law_loop {γ : xC} {nm ds : String} (hX : xX γ cL_law 20 ⟨RL, nm, ds⟩ 8) {L : Nat} {xs : Nat → Int32} (hL : L ≤ 260) (hsc : xSc γ L xs) {T : Nat} (hT : T ≤ 36) (hTL : 3 * T ≤ L) (hend : ∀ (pl : List (Option Value)) (D : xD) (r : xR), xV γ 333 pl [] (351, 4536) D r) :
    ∀ k : Nat, k ≤ T → ∀ (D : xD) (r : xR), JE D r (50000 + 600000 * (k : Int)) → xV γ 29 [some (.ref 0), some (.ref 4), some (vi T), some (vi k), none, none, none, none, none, none, none, none, none, none, none, none, none, none, none, none] [] (351, 4536) D r := by
  refine xup T (fun k hk ih D r hJ => ?_)
  refine v_iload_n (q := 30) hX dL_law_29 rfl rfl rfl ?_
  refine v_iload_n (q := 31) hX dL_law_30 rfl rfl rfl ?_
  refine v_icmp_ge (q := 34) (tgt := 333) hX ⟨by omega, by omega⟩ ⟨by omega, by omega⟩ dL_law_31 (by decide) rfl (fun hx_31 => ?_) (fun hx_31 => ?_)
  · exact hend _ _ _
  · refine law_34 hX hL hsc (by omega) (by omega) (fun D2 r2 hJ2 => ?_) hJ
    refine v_iinc (q := 330) hX dL_law_327 rfl (Nat.le_of_ble_eq_true rfl) (Nat.le_of_ble_eq_true rfl) rfl ?_
    dsimp only [xs1, xs2, xclr]
    refine v_goto (tgt := 29) hX dL_law_330 (by decide) ?_
    exact ih (by omega) D2 r2 (by rw [show (50000 : Int) + 600000 * ((k + 1 : Nat) : Int) = 50000 + 600000 * (k : Int) + 600000 by omega]; exact hJ2)
set_option maxRecDepth 100000 in
set_option maxHeartbeats 4000000 in
theorem law_8 {γ : xC} {nm ds : String} (hX : xX γ cL_law 20 ⟨RL, nm, ds⟩ 8) {L : Nat} {xs : Nat → Int32} (hL : L ≤ 260) (hsc : xSc γ L xs) (hend : ∀ (pl : List (Option Value)) (D : xD) (r : xR), xV γ 333 pl [] (351, 4536) D r)
    (D : xD) (r : xR) (hJ : JE D r (50000 + 600000 * ((0 : Nat) : Int))) : xV γ 8 [some (.ref 0), some (.ref 4), none, none, none, none, none, none, none, none, none, none, none, none, none, none, none, none, none, none] [] (351, 4536) D r := by
  have K26 : ∀ T : Nat, T ≤ 36 → 3 * T ≤ L → xV γ 26 [some (.ref 0), some (.ref 4), none, none, none, none, none, none, none, none, none, none, none, none, none, none, none, none, none, none] [vi (T : Nat)] (351, 4536) D r := by
    intro T hT hTL
    refine v_istore_n (q := 27) hX dL_law_26 rfl (Nat.le_of_ble_eq_true rfl) (Nat.le_of_ble_eq_true rfl) rfl ?_
    dsimp only [xs1, xs2, xclr]
    refine v_iconst (q := 28) hX dL_law_27 rfl ?_
    refine v_istore_n (q := 29) hX dL_law_28 rfl (Nat.le_of_ble_eq_true rfl) (Nat.le_of_ble_eq_true rfl) rfl ?_
    dsimp only [xs1, xs2, xclr]
    exact law_loop hX hL hsc hT hTL hend 0 (Nat.zero_le _) D r hJ
  refine v_aload_n (q := 9) hX dL_law_8 rfl rfl rfl ?_
  refine v_sclen (q := 10) hX hsc dL_law_9 rfl ?_
  refine v_iconst (q := 11) hX dL_law_10 rfl ?_
  refine v_idiv (q := 12) hX (by omega) ⟨by omega, by omega⟩ (by decide) ⟨by decide, by decide⟩ dL_law_11 rfl ?_
  refine v_bipush (q := 14) hX (by decide) dL_law_12 rfl ?_
  refine v_icmp_ge (q := 17) (tgt := 24) hX ⟨by omega, by omega⟩ ⟨by decide, by decide⟩ dL_law_14 (by decide) rfl (fun hx_14 => ?_) (fun hx_14 => ?_)
  · refine v_bipush (q := 26) hX (by decide) dL_law_24 rfl ?_
    first | exact K26 36 (by decide) (by omega) | (rw [show (L : Int) / 3 = ((L / 3 : Nat) : Int) by omega]; exact K26 (L / 3) (by omega) (by omega))
  · refine v_aload_n (q := 18) hX dL_law_17 rfl rfl rfl ?_
    refine v_sclen (q := 19) hX hsc dL_law_18 rfl ?_
    refine v_iconst (q := 20) hX dL_law_19 rfl ?_
    refine v_idiv (q := 21) hX (by omega) ⟨by omega, by omega⟩ (by decide) ⟨by decide, by decide⟩ dL_law_20 rfl ?_
    refine v_goto (tgt := 26) hX dL_law_21 (by decide) ?_
    first | exact K26 36 (by decide) (by omega) | (rw [show (L : Int) / 3 = ((L / 3 : Nat) : Int) by omega]; exact K26 (L / 3) (by omega) (by omega))
