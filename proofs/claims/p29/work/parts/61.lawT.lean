/-! ===== the law: undo, saving, what if ===== -/
theorem hPu_at {α : Type} (s : Nat) (K : Nat → α) (N : α) : hPu s K N (hS s) = N := if_pos rfl
/-- where fence and products stay, the lots ahead of the fence stay -/
def FZ (N : Nat → Int) (np : Nat) (t : xT) : Prop := t.2.1 7 = N 7 → t.2.2 = np → frz t.2.1 t.2.2 = frz N np
theorem FZ.id (N : Nat → Int) (np : Nat) (e : Int) : FZ N np (e, N, np) := fun _ _ => rfl
theorem FZ.fux {N : Nat → Int} {np j : Nat} {x e : Int} (h : ∀ p w : Nat, p < np → (w : Int) < N 7 → 18 + 36 * p + (24 + w) ≠ j) : FZ N np (e, fu N j x, np) := fun h7 _ => frz_eq h7 (fun p w hp hw => fu_ne _ _ _ (h p w hp (by omega)))
section FRZ
variable {N : Nat → Int} {np : Nat} {B : Int}
theorem f_set (hG : GS B N np) (a b : Int) : FZ N np (tSet N np a b) := by
  unfold tSet
  split
  · exact FZ.fux (fun p w hp hw => by omega)
  · exact FZ.id _ _ _
theorem f_pro (fa sz lh sh st : Int) : FZ N np (tPro N np fa sz lh sh st) := by
  unfold tPro
  split
  · split
    · intro _ h2; exact absurd h2 (by show np + 1 ≠ np; omega)
    · exact FZ.id _ _ _
  · exact FZ.id _ _ _
theorem f_fam (f b : Int) : FZ N np (tFam N np f b) := by
  unfold tFam
  split
  · split
    · exact FZ.fux (fun p w hp hw => by omega)
    · exact FZ.id _ _ _
  · exact FZ.id _ _ _
theorem f_for (hG : GS B N np) (p w u : Int) : FZ N np (tFor N np p w u) := by
  have h7 := hG.1.1.1.2.2.2.1.2.2.1
  unfold tFor
  split
  · rename_i he
    obtain ⟨h1, h2, h3⟩ := eF_0 he
    obtain ⟨p, rfl⟩ := Int.eq_ofNat_of_zero_le h1.1
    obtain ⟨w, rfl⟩ := Int.eq_ofNat_of_zero_le h2.1
    have e : ((w : Nat) : Int).toNat = w := rfl
    have e2 : ((p : Nat) : Int).toNat = p := rfl
    exact FZ.fux (fun p' w' hp hw => by omega)
  · exact FZ.id _ _ _
theorem f_act (hG : GS B N np) (p u : Int) : FZ N np (tAct N np p u) := by
  have h7 := hG.1.1.1.2.2.2.1.2.2.1
  unfold tAct
  split
  · rename_i he
    obtain ⟨h1, h3⟩ := eA_0 he
    obtain ⟨p, rfl⟩ := Int.eq_ofNat_of_zero_le h1.1
    have e2 : ((p : Nat) : Int).toNat = p := rfl
    exact FZ.fux (fun p' w' hp hw => by omega)
  · exact FZ.id _ _ _
theorem f_lot (hG : GS B N np) (p w u : Int) : FZ N np (tLot N np p w u) := by
  have h7 := hG.1.1.1.2.2.2.1.2.2.1
  unfold tLot
  split
  · rename_i he
    obtain ⟨h1, h2, h3⟩ := eL_0 he
    obtain ⟨p, rfl⟩ := Int.eq_ofNat_of_zero_le h1.1
    obtain ⟨w, rfl⟩ := Int.eq_ofNat_of_zero_le h2.1
    have e : ((w : Nat) : Int).toNat = w := rfl
    have e2 : ((p : Nat) : Int).toNat = p := rfl
    have hE : ¬ ((w : Int) < N 7) := by
      intro hh
      unfold eL at he
      rw [if_pos ⟨h1, h2⟩, if_pos h3] at he
      split at he
      · exact absurd he (by decide)
      · rename_i hn
        exact hn (Or.inl hh)
    exact FZ.fux (fun p' w' hp hw => by omega)
  · exact FZ.id _ _ _
theorem f_pla (hG : GS B N np) : FZ N np (tPla N np) := by
  obtain ⟨f, h7, hf⟩ := hG.1.f
  have e : (N 7).toNat = f := by rw [h7]; rfl
  unfold tPla
  rw [e]
  exact fun h _ => frz_eq h (fun p w hp hw => nPlan_keep np f N (by omega) hf)
theorem f_tur (hG : GS B N np) (sv : Nat → Int) (M : Nat → Nat → Int) (mp : Nat → Nat) (w a b : Int) (hw : 0 ≤ w ∧ w ≤ 15) (hi : isW w b = 0) : FZ N np (tTur N np sv M mp w a b) := by
  have hn : ¬ (w = 12 ∨ w = 13 ∨ (13 < w ∧ 5 < b % 8)) := fun hh => by
    unfold isW at hi
    rw [if_pos hh] at hi
    exact absurd hi (by decide)
  unfold tTur
  split
  · exact f_pro _ _ _ _ _
  split
  · exact f_set hG _ _
  split
  · exact f_fam _ _
  split
  · exact f_for hG _ _ _
  split
  · exact f_act hG _ _
  split
  · exact f_lot hG _ _ _
  split
  · exact f_pla hG
  split
  · rename_i h12; exact absurd h12 (by omega)
  unfold tAny
  split
  · exact f_set hG _ _
  split
  · exact f_pro _ _ _ _ _
  split
  · exact f_fam _ _
  split
  · exact f_for hG _ _ _
  split
  · exact f_act hG _ _
  split
  · exact f_lot hG _ _ _
  exact absurd (show 13 < w ∧ 5 < b % 8 by omega) (fun hh => hn (Or.inr (Or.inr hh)))
end FRZ
section RSAME
variable {γ : xC} {cc : ByteArray} {nL d : Nat} {y : MethodName} {pc q : Nat} {pl : List (Option Value)} {st : List Value} {σ : Nat × Nat} {D : xD} {r : xR}
theorem v_lcmpS (hX : xX γ cc nL y d) {a : Int} {off : Int} {tgt : Nat} (hd : decode cc pc = .ok (.lcmp, 1)) (hd2 : decode cc (pc + 1) = .ok (.ifCond .ne off, 3)) (ht : ((pc + 1 : Nat) : Int) + off = (tgt : Int)) (hq : pc + 1 + 3 = q) (k : xV γ q pl st σ D r) : xV γ pc pl (vl a :: vl a :: st) σ D r := by
  rw [vl_nm a]
  exact v_lcmp_ne hX (x64 _) (x64 _) hd hd2 ht hq (fun h => absurd rfl h) (fun _ => k)
theorem v_lcmpT (hX : xX γ cc nL y d) {a : Int} {off : Int} {tgt : Nat} (hd : decode cc pc = .ok (.lcmp, 1)) (hd2 : decode cc (pc + 1) = .ok (.ifCond .eq off, 3)) (ht : ((pc + 1 : Nat) : Int) + off = (tgt : Int)) (k : xV γ tgt pl st σ D r) : xV γ pc pl (vl a :: vl a :: st) σ D r := by
  rw [vl_nm a]
  exact v_lcmp_eq (q := pc + 1 + 3) hX (x64 _) (x64 _) hd hd2 ht rfl (fun _ => k) (fun h => absurd rfl h)
theorem v_icmpS (hX : xX γ cc nL y d) {a : Int} {off : Int} {tgt : Nat} (hd : decode cc pc = .ok (.if_icmp .ne off, 3)) (ht : (pc : Int) + off = (tgt : Int)) (hq : pc + 3 = q) (k : xV γ q pl st σ D r) : xV γ pc pl (vi a :: vi a :: st) σ D r := by
  rw [vi_nm a]
  exact v_icmp_ne hX (x32 _) (x32 _) hd ht hq (fun h => absurd rfl h) (fun _ => k)
end RSAME
theorem cn_9 (N : Nat → Int) (np s : Nat) : cn N np s 9 = (s : Int) := rfl
theorem cn_0 (N : Nat → Int) (np s : Nat) : cn N np s 0 = N 0 := rfl
theorem Js.tur {D D' : xD} {r r' : xR} {N : Nat → Int} {np s : Nat} {K : Nat → Nat → Int} {q : Nat → Nat} {B : Int} {sv : Nat → Int} {M : Nat → Nat → Int} {mp : Nat → Nat} {t : xT} (h : Js D r B N np s K q sv M mp) (hB : B + 200000 ≤ 2100000000) (hx : TX D r s K q N np t D' r') (hg : TG B t) : ∃ (s' : Nat) (K' : Nat → Nat → Int) (q' : Nat → Nat), Js D' r' (B + 200000) t.2.1 t.2.2 s' K' q' sv M mp := by
  rcases hx with ⟨h1, h2, h3, rfl, rfl⟩ | ⟨h1, h2⟩
  · rw [h2, h3]; exact ⟨s, K, q, h.mono (by omega) hB⟩
  · exact ⟨_, _, _, h.chg h2 hg (by omega) hB⟩
theorem c_rm {z : Nat} {D : xD} {r : xR} {N : Nat → Int} {np s : Nat} {K : Nat → Nat → Int} {q : Nat → Nat} {B : Int} (h : Jc D r N np s K q) (hG : GS B N np) (p w : Int) (i1 : xI p) (i2 : xI w) : ∃ e : Int, MX 2 mX4_roomFor [.ref 4, vi p, vi w] (351, z) D r (351, z) (xP (vi e) D r) := by
  by_cases he : (0 ≤ p ∧ p < (np : Int)) ∧ 0 ≤ w ∧ w < 12
  · obtain ⟨p, rfl⟩ := Int.eq_ofNat_of_zero_le he.1.1
    obtain ⟨w, rfl⟩ := Int.eq_ofNat_of_zero_le he.2.1
    exact ⟨_, c_X4_roomFor D r h.1 h.2.1 hG.np hG.1.1.1 p w (by omega) (by omega)⟩
  · exact ⟨_, c_X4_roomFor_no D r h.1 h.2.1 hG.np p w i1 i2 he⟩

set_option maxRecDepth 100000 in
set_option maxHeartbeats 4000000 in
theorem c_L_isUndone {z : Nat} {D : xD} {r : xR} {B : Int} {N : Nat → Int} {np s : Nat} {K : Nat → Nat → Int} {q : Nat → Nat} {sv : Nat → Int} {M : Nat → Nat → Int} {mp : Nat → Nat} {N0 : Nat → Int} {np0 : Nat} {t : xT} (h : Js D r B N np (s + 1) K q sv M mp) (hB : B + 200000 ≤ 2100000000) (w a b : Int) (iw : xI w) (ia : xI a) (ib : xI b) (hK : K s = N0) (hq : q s = np0) (ht : t = tTur N0 np0 sv M mp w a b) (hok : ¬ isE t.1) : MX 7 mL_isUndone [.ref 4, vi w, vi a, vi b, vi t.1, vl (vw N0 np0)] (351, z) D r (351, z) (xRs (vi 1) (fun D' r' => ∃ (K' : Nat → Nat → Int) (q' : Nat → Nat), Js D' r' (B + 200000) t.2.1 t.2.2 (s + 1) K' q' sv M mp)) := by
  refine MX.of (by decide +kernel) [some (.ref 4), some (vi w), some (vi a), some (vi b), some (vi t.1), some (vl (vw N0 np0)), none, none, none] rfl (Nat.le_of_ble_eq_true rfl) ?_
  intro γ hX hRX
  have h6 := h.s6
  obtain ⟨π, hI⟩ := h.1.2.2.1
  have hU := c_X4_undo (z := z) D r h.1.1 hI
  refine v_aload_n (q := 1) hX dL_isUndone_0 rfl rfl rfl ?_
  refine v_bipush (q := 3) hX (by decide) dL_isUndone_1 rfl ?_
  refine w_callV (q := 6) hX (c_cnt h.1 h.2.1 9 (by decide)) rfl kV_X4_count rfl (by decide) lk_L_13 (by decide) rfl oLF (Nat.le_of_ble_eq_true rfl) dL_isUndone_3 rfl ?_
  rw [cn_9]
  refine v_lstore (q := 8) hX dL_isUndone_6 (Nat.le_of_ble_eq_true rfl) (Nat.le_of_ble_eq_true rfl) rfl ?_
  dsimp only [xs1, xs2, xclr]
  refine v_aload_n (q := 9) hX dL_isUndone_8 rfl rfl rfl ?_
  refine w_callVe (q := 12) hX (hU) rfl kV_X4_undo rfl (by decide) lk_L_71 (by decide) rfl oLF (Nat.le_of_ble_eq_true rfl) dL_isUndone_9 rfl (fun D1 h1_ => ?_)
  obtain ⟨u1, u2, u3, u4⟩ := h1_
  have hJ1 := h.back u1 u2 u3 u4
  have hT := c_L_turn (z := z) hJ1.1 hJ1.2.1 (by omega) hJ1.2.2.2 w a b iw ia ib
  have hg := g_tur hJ1.2.1 hB hJ1.2.2.2 w a b
  rw [hK, hq] at hJ1
  rw [hK, hq, ← ht] at hT
  rw [hK, hq, ← ht] at hg
  refine v_i2l (q := 13) hX ⟨by omega, by omega⟩ dL_isUndone_12 rfl ?_
  refine v_lload (q := 15) hX dL_isUndone_13 rfl rfl ?_
  refine v_lconst (q := 16) (e := 1) hX (by decide) dL_isUndone_15 rfl ?_
  refine v_lsub (q := 17) hX dL_isUndone_16 rfl ?_
  refine v_lcmp_ne (q := 21) (tgt := 73) hX ⟨by omega, by omega⟩ ⟨by omega, by omega⟩ dL_isUndone_17 dL_isUndone_18 (by decide) rfl (fun hx_17 => ?_) (fun hx_17 => ?_)
  · exact absurd (by omega) hx_17
  · refine v_aload_n (q := 22) hX dL_isUndone_21 rfl rfl rfl ?_
    refine v_bipush (q := 24) hX (by decide) dL_isUndone_22 rfl ?_
    refine w_callV (q := 27) hX (c_cnt hJ1.1 hJ1.2.1 9 (by decide)) rfl kV_X4_count rfl (by decide) lk_L_13 (by decide) rfl oLF (Nat.le_of_ble_eq_true rfl) dL_isUndone_24 rfl ?_
    rw [cn_9]
    refine v_lload (q := 29) hX dL_isUndone_27 rfl rfl ?_
    refine v_lconst (q := 30) (e := 1) hX (by decide) dL_isUndone_29 rfl ?_
    refine v_lsub (q := 31) hX dL_isUndone_30 rfl ?_
    refine v_lcmp_ne (q := 35) (tgt := 73) hX ⟨by omega, by omega⟩ ⟨by omega, by omega⟩ dL_isUndone_31 dL_isUndone_32 (by decide) rfl (fun hx_31 => ?_) (fun hx_31 => ?_)
    · exact absurd (by omega) hx_31
    · refine v_aload_n (q := 36) hX dL_isUndone_35 rfl rfl rfl ?_
      refine w_callS (q := 39) hX (c_L_view hJ1.1 hJ1.2.1) rfl kS_L_view rfl (by decide) lk_L_74 (Nat.le_of_ble_eq_true rfl) dL_isUndone_36 rfl ?_
      refine v_lload (q := 41) hX dL_isUndone_39 rfl rfl ?_
      refine v_lcmpS (q := 45) (tgt := 73) hX dL_isUndone_41 dL_isUndone_42 (by decide) rfl ?_
      refine v_aload_n (q := 46) hX dL_isUndone_45 rfl rfl rfl ?_
      refine v_iload_n (q := 47) hX dL_isUndone_46 rfl rfl rfl ?_
      refine v_iload_n (q := 48) hX dL_isUndone_47 rfl rfl rfl ?_
      refine v_iload_n (q := 49) hX dL_isUndone_48 rfl rfl rfl ?_
      refine w_callSr (q := 52) hX (hT) rfl kS_L_turn rfl (by decide) lk_L_78 (Nat.le_of_ble_eq_true rfl) dL_isUndone_49 rfl (fun D2 r2 h2_ => ?_)
      have hx := h2_.resolve_left (fun hh => hok hh.1)
      have hJ2 := hJ1.chg hx.2 hg (by omega) hB
      rw [show hS s + 1 = s + 1 by unfold hS; rw [if_neg (by omega)]] at hJ2
      refine v_iload (q := 54) hX dL_isUndone_52 rfl rfl ?_
      refine v_icmpS (q := 57) (tgt := 73) hX dL_isUndone_54 (by decide) rfl ?_
      refine v_aload_n (q := 58) hX dL_isUndone_57 rfl rfl rfl ?_
      refine v_bipush (q := 60) hX (by decide) dL_isUndone_58 rfl ?_
      refine w_callV (q := 63) hX (c_cnt hJ2.1 hJ2.2.1 9 (by decide)) rfl kV_X4_count rfl (by decide) lk_L_13 (by decide) rfl oLF (Nat.le_of_ble_eq_true rfl) dL_isUndone_60 rfl ?_
      refine v_lload (q := 65) hX dL_isUndone_63 rfl rfl ?_
      rw [cn_9]
      refine v_lcmp_ne (q := 69) (tgt := 73) hX ⟨by omega, by omega⟩ ⟨by omega, by omega⟩ dL_isUndone_65 dL_isUndone_66 (by decide) rfl (fun hx_65 => ?_) (fun hx_65 => ?_)
      · exact absurd rfl hx_65
      · refine v_iconst (q := 70) hX dL_isUndone_69 rfl ?_
        refine v_goto (tgt := 74) hX dL_isUndone_70 (by decide) ?_
        refine v_ireturn hX hRX rfl (by first | rfl | exact bi_nar _) dL_isUndone_74 rfl ?_
        exact ⟨rfl, _, _, hJ2⟩

set_option maxRecDepth 100000 in
set_option maxHeartbeats 4000000 in
theorem c_L_isSaved {z : Nat} {D : xD} {r : xR} {B : Int} {N : Nat → Int} {np s : Nat} {K : Nat → Nat → Int} {q : Nat → Nat} {sv : Nat → Int} {M : Nat → Nat → Int} {mp : Nat → Nat} (h : Js D r B N np s K q sv M mp) (hB : B + 200000 ≤ 2100000000) (a b : Int) (ia : xI a) (ib : xI b) : MX 7 mL_isSaved [.ref 4, vi a, vi b] (351, z) D r (351, z) (xRs (vi 1) (fun D' r' => ∃ (s' : Nat) (K' : Nat → Nat → Int) (q' : Nat → Nat) (sv' : Nat → Int) (M' : Nat → Nat → Int) (mp' : Nat → Nat), Js D' r' (B + 200000) N np s' K' q' sv' M' mp')) := by
  refine MX.of (by decide +kernel) [some (.ref 4), some (vi a), some (vi b), none, none, none, none] rfl (Nat.le_of_ble_eq_true rfl) ?_
  intro γ hX hRX
  have h6 := h.s6
  have h0 := h.2.1.1.2
  have hB1 := h.2.1.1.1.1.1.2
  have hB2 : B + 200000 ≤ 2100000000 := hB
  obtain ⟨j, hj⟩ := Int.eq_ofNat_of_zero_le (show 0 ≤ a % 2 by omega)
  have hj2 : j < 2 := by omega
  refine v_aload_n (q := 1) hX dL_isSaved_0 rfl rfl rfl ?_
  refine w_callS (q := 4) hX (c_L_view h.1 h.2.1) rfl kS_L_view rfl (by decide) lk_L_74 (Nat.le_of_ble_eq_true rfl) dL_isSaved_1 rfl ?_
  refine v_lstore_n (q := 5) hX dL_isSaved_4 rfl (Nat.le_of_ble_eq_true rfl) (Nat.le_of_ble_eq_true rfl) rfl ?_
  dsimp only [xs1, xs2, xclr]
  refine v_aload_n (q := 6) hX dL_isSaved_5 rfl rfl rfl ?_
  refine v_bipush (q := 8) hX (by decide) dL_isSaved_6 rfl ?_
  refine w_callV (q := 11) hX (c_cnt h.1 h.2.1 9 (by decide)) rfl kV_X4_count rfl (by decide) lk_L_13 (by decide) rfl oLF (Nat.le_of_ble_eq_true rfl) dL_isSaved_8 rfl ?_
  rw [cn_9]
  refine v_lstore (q := 13) hX dL_isSaved_11 (Nat.le_of_ble_eq_true rfl) (Nat.le_of_ble_eq_true rfl) rfl ?_
  dsimp only [xs1, xs2, xclr]
  refine v_aload_n (q := 14) hX dL_isSaved_13 rfl rfl rfl ?_
  refine v_iload_n (q := 15) hX dL_isSaved_14 rfl rfl rfl ?_
  refine v_iconst (q := 16) hX dL_isSaved_15 rfl ?_
  refine v_iand (q := 17) hX ((j : Int)) (by rw [sand1, hj]) dL_isSaved_16 rfl ?_
  refine w_callVe (q := 20) hX (c_X4_save D r h.1.1 h.1.2.1 h.2.1.np j hj2) rfl kV_X4_save rfl (by decide) lk_L_82 (by decide) rfl oLF (Nat.le_of_ble_eq_true rfl) dL_isSaved_17 rfl (fun D1 h1_ => ?_)
  obtain ⟨u1, u2, u3⟩ := h1_
  have hJ1 := h.sav hj2 u1 u2 u3
  refine v_i2l (q := 21) hX ⟨by omega, by omega⟩ dL_isSaved_20 rfl ?_
  refine v_aload_n (q := 22) hX dL_isSaved_21 rfl rfl rfl ?_
  refine v_iconst (q := 23) hX dL_isSaved_22 rfl ?_
  refine w_callV (q := 26) hX (c_cnt hJ1.1 hJ1.2.1 0 (by decide)) rfl kV_X4_count rfl (by decide) lk_L_13 (by decide) rfl oLF (Nat.le_of_ble_eq_true rfl) dL_isSaved_23 rfl ?_
  rw [cn_0]
  refine v_lcmp_ne (q := 30) (tgt := 42) hX ⟨by omega, by omega⟩ ⟨by omega, by omega⟩ dL_isSaved_26 dL_isSaved_27 (by decide) rfl (fun hx_26 => ?_) (fun hx_26 => ?_)
  · exact absurd rfl hx_26
  · refine v_aload_n (q := 31) hX dL_isSaved_30 rfl rfl rfl ?_
    refine v_bipush (q := 33) hX (by decide) dL_isSaved_31 rfl ?_
    refine w_callV (q := 36) hX (c_cnt hJ1.1 hJ1.2.1 9 (by decide)) rfl kV_X4_count rfl (by decide) lk_L_13 (by decide) rfl oLF (Nat.le_of_ble_eq_true rfl) dL_isSaved_33 rfl ?_
    rw [cn_9]
    refine v_lload (q := 38) hX dL_isSaved_36 rfl rfl ?_
    refine v_lcmp_eq (q := 42) (tgt := 44) hX ⟨by omega, by omega⟩ ⟨by omega, by omega⟩ dL_isSaved_38 dL_isSaved_39 (by decide) rfl (fun hx_38 => ?_) (fun hx_38 => ?_)
    · refine v_aload_n (q := 45) hX dL_isSaved_44 rfl rfl rfl ?_
      refine v_iload_n (q := 46) hX dL_isSaved_45 rfl rfl rfl ?_
      refine v_bipush (q := 48) hX (by decide) dL_isSaved_46 rfl ?_
      refine w_callS (q := 51) hX (c_L_up _ _ _ _ ib (by decide)) rfl kS_L_up rfl (by decide) lk_L_53 (Nat.le_of_ble_eq_true rfl) dL_isSaved_48 rfl ?_
      refine v_iload_n (q := 52) hX dL_isSaved_51 rfl rfl rfl ?_
      refine v_iload_n (q := 53) hX dL_isSaved_52 rfl rfl rfl ?_
      refine w_callSr (q := 56) hX (c_L_turn hJ1.1 hJ1.2.1 (by omega) hJ1.2.2.2 _ b a (uv_x _ _ (by decide)) ib ia) rfl kS_L_turn rfl (by decide) lk_L_78 (Nat.le_of_ble_eq_true rfl) dL_isSaved_53 rfl (fun D2 r2 h2_ => ?_)
      obtain ⟨s2, K2, q2, hJ2⟩ := hJ1.tur (by omega) h2_ (g_tur hJ1.2.1 (by omega) hJ1.2.2.2 _ b a)
      have hR := tt_res (z := z) hJ2.1 hJ2.2.1 hJ2.2.2.2 (j : Int) ⟨by omega, by omega⟩
      generalize (tTur N np (fu sv j 1) (fun b => if b = j then N else M b) (fun b => if b = j then np else mp b) (uv b 14) b a).2.1 = N2 at hJ2 hR
      generalize (tTur N np (fu sv j 1) (fun b => if b = j then N else M b) (fun b => if b = j then np else mp b) (uv b 14) b a).2.2 = np2 at hJ2 hR
      have er : tRes N2 np2 (fu sv j 1) (fun b => if b = j then N else M b) (fun b => if b = j then np else mp b) (j : Int) = (N 0, N, np) := by
        have ej : ((j : Nat) : Int).toNat = j := rfl
        unfold tRes
        rw [if_pos ⟨by omega, by omega⟩, ej, if_pos (fu_at _ _ _)]
        dsimp only
        rw [if_pos rfl, if_pos rfl]
      rw [er] at hR
      refine v_pop (q := 57) hX rfl dL_isSaved_56 rfl ?_
      refine v_aload_n (q := 58) hX dL_isSaved_57 rfl rfl rfl ?_
      refine v_iload_n (q := 59) hX dL_isSaved_58 rfl rfl rfl ?_
      refine v_iconst (q := 60) hX dL_isSaved_59 rfl ?_
      refine v_iand (q := 61) hX ((j : Int)) (by rw [sand1, hj]) dL_isSaved_60 rfl ?_
      refine w_callVr (q := 64) hX (hR) rfl kV_X4_restore rfl (by decide) lk_L_50 (by decide) rfl oLF (Nat.le_of_ble_eq_true rfl) dL_isSaved_61 rfl (fun D3 r3 h3_ => ?_)
      have hx := h3_.resolve_left (fun hh => absurd hh.1.1 (by show ¬ N 0 < 0; omega))
      have hJ3 : Js D3 r3 (B + 200000) N np (hS s2 + 1) _ _ _ _ _ := hJ2.chg hx.2 (h.2.1.mono (by omega) hB2) (Int.le_refl _) hB2
      refine v_i2l (q := 65) hX ⟨by omega, by omega⟩ dL_isSaved_64 rfl ?_
      refine v_aload_n (q := 66) hX dL_isSaved_65 rfl rfl rfl ?_
      refine v_iconst (q := 67) hX dL_isSaved_66 rfl ?_
      refine w_callV (q := 70) hX (c_cnt hJ3.1 hJ3.2.1 0 (by decide)) rfl kV_X4_count rfl (by decide) lk_L_13 (by decide) rfl oLF (Nat.le_of_ble_eq_true rfl) dL_isSaved_67 rfl ?_
      rw [cn_0]
      refine v_lcmp_ne (q := 74) (tgt := 87) hX ⟨by omega, by omega⟩ ⟨by omega, by omega⟩ dL_isSaved_70 dL_isSaved_71 (by decide) rfl (fun hx_70 => ?_) (fun hx_70 => ?_)
      · exact absurd rfl hx_70
      · refine v_aload_n (q := 75) hX dL_isSaved_74 rfl rfl rfl ?_
        refine w_callS (q := 78) hX (c_L_view hJ3.1 hJ3.2.1) rfl kS_L_view rfl (by decide) lk_L_74 (Nat.le_of_ble_eq_true rfl) dL_isSaved_75 rfl ?_
        refine v_lload_n (q := 79) hX dL_isSaved_78 rfl rfl rfl ?_
        refine v_lcmpS (q := 83) (tgt := 87) hX dL_isSaved_79 dL_isSaved_80 (by decide) rfl ?_
        refine v_iconst (q := 84) hX dL_isSaved_83 rfl ?_
        refine v_goto (tgt := 88) hX dL_isSaved_84 (by decide) ?_
        refine v_ireturn hX hRX rfl (by first | rfl | exact bi_nar _) dL_isSaved_88 rfl ?_
        exact ⟨rfl, _, _, _, _, _, _, hJ3⟩
    · exact absurd rfl hx_38

set_option maxRecDepth 100000 in
set_option maxHeartbeats 4000000 in
theorem c_L_asks {z : Nat} {D : xD} {r : xR} {B : Int} {N : Nat → Int} {np s : Nat} {K : Nat → Nat → Int} {q : Nat → Nat} {sv : Nat → Int} {M : Nat → Nat → Int} {mp : Nat → Nat} (h : Js D r B N np s K q sv M mp) (hB : B + 200000 ≤ 2100000000) (a b : Int) (ia : xI a) (ib : xI b) : MX 5 mL_asks [.ref 4, vi a, vi b] (351, z) D r (351, z) (xRs (vi 1) (fun D' r' => r' = r ∧ Js D' r B N np s K q sv M mp)) := by
  refine MX.of (by decide +kernel) [some (.ref 4), some (vi a), some (vi b), none, none, none, none] rfl (Nat.le_of_ble_eq_true rfl) ?_
  intro γ hX hRX
  have h6 := h.s6
  have u1 := uv_I a 9 (by decide)
  have u2 := uv_I b 5 (by decide)
  obtain ⟨f0, h70, hf0⟩ := h.2.1.1.f
  obtain ⟨f1, hf1⟩ := Int.eq_ofNat_of_zero_le (show 0 ≤ uv a 9 by omega)
  obtain ⟨w1, hw1⟩ := Int.eq_ofNat_of_zero_le (show 0 ≤ 1 + uv b 5 by omega)
  refine v_aload_n (q := 1) hX dL_asks_0 rfl rfl rfl ?_
  refine w_callS (q := 4) hX (c_L_view h.1 h.2.1) rfl kS_L_view rfl (by decide) lk_L_74 (Nat.le_of_ble_eq_true rfl) dL_asks_1 rfl ?_
  refine v_lstore_n (q := 5) hX dL_asks_4 rfl (Nat.le_of_ble_eq_true rfl) (Nat.le_of_ble_eq_true rfl) rfl ?_
  dsimp only [xs1, xs2, xclr]
  refine v_aload_n (q := 6) hX dL_asks_5 rfl rfl rfl ?_
  refine v_bipush (q := 8) hX (by decide) dL_asks_6 rfl ?_
  refine w_callV (q := 11) hX (c_cnt h.1 h.2.1 9 (by decide)) rfl kV_X4_count rfl (by decide) lk_L_13 (by decide) rfl oLF (Nat.le_of_ble_eq_true rfl) dL_asks_8 rfl ?_
  rw [cn_9]
  refine v_lstore (q := 13) hX dL_asks_11 (Nat.le_of_ble_eq_true rfl) (Nat.le_of_ble_eq_true rfl) rfl ?_
  dsimp only [xs1, xs2, xclr]
  refine v_aload_n (q := 14) hX dL_asks_13 rfl rfl rfl ?_
  refine v_iload_n (q := 15) hX dL_asks_14 rfl rfl rfl ?_
  refine v_bipush (q := 17) hX (by decide) dL_asks_15 rfl ?_
  refine w_callS (q := 20) hX (c_L_up _ _ _ _ ia (by decide)) rfl kS_L_up rfl (by decide) lk_L_53 (Nat.le_of_ble_eq_true rfl) dL_asks_17 rfl ?_
  rw [hf1]
  refine v_iconst (q := 21) hX dL_asks_20 rfl ?_
  refine v_iload_n (q := 22) hX dL_asks_21 rfl rfl rfl ?_
  refine v_iconst (q := 23) hX dL_asks_22 rfl ?_
  refine w_callS (q := 26) hX (c_L_up _ _ _ _ ib (by decide)) rfl kS_L_up rfl (by decide) lk_L_53 (Nat.le_of_ble_eq_true rfl) dL_asks_23 rfl ?_
  refine v_iadd (q := 27) hX dL_asks_26 rfl ?_
  rw [hw1]
  refine w_callVe (q := 30) hX (c_X4_costs D r h.1.1 h.1.2.1 h.2.1.1.1 (by omega) f1 w1 (by omega) (by omega)) rfl kV_X4_costs rfl (by decide) lk_L_85 (by decide) rfl oLF (Nat.le_of_ble_eq_true rfl) dL_asks_27 rfl (fun D1 h1_ => ?_)
  have hJ1 := h.try39 h1_
  refine v_pop2 (q := 31) hX rfl dL_asks_30 rfl ?_
  refine v_aload_n (q := 32) hX dL_asks_31 rfl rfl rfl ?_
  refine w_callVe (q := 35) hX (c_X4_leastHours D1 r hJ1.1.1 hJ1.1.2.1 hJ1.2.1.1.1 f0 h70 hf0) rfl kV_X4_leastHours rfl (by decide) lk_L_89 (by decide) rfl oLF (Nat.le_of_ble_eq_true rfl) dL_asks_32 rfl (fun D2 h2_ => ?_)
  have hJ2 := hJ1.try39 h2_
  obtain ⟨e3, h3_⟩ := c_rm (z := z) hJ2.1 hJ2.2.1 (uv a 5) (uv b 12) (uv_x _ _ (by decide)) (uv_x _ _ (by decide))
  refine v_pop (q := 36) hX rfl dL_asks_35 rfl ?_
  refine v_aload_n (q := 37) hX dL_asks_36 rfl rfl rfl ?_
  refine v_iload_n (q := 38) hX dL_asks_37 rfl rfl rfl ?_
  refine v_iconst (q := 39) hX dL_asks_38 rfl ?_
  refine w_callS (q := 42) hX (c_L_up _ _ _ _ ia (by decide)) rfl kS_L_up rfl (by decide) lk_L_53 (Nat.le_of_ble_eq_true rfl) dL_asks_39 rfl ?_
  refine v_iload_n (q := 43) hX dL_asks_42 rfl rfl rfl ?_
  refine v_bipush (q := 45) hX (by decide) dL_asks_43 rfl ?_
  refine w_callS (q := 48) hX (c_L_up _ _ _ _ ib (by decide)) rfl kS_L_up rfl (by decide) lk_L_53 (Nat.le_of_ble_eq_true rfl) dL_asks_45 rfl ?_
  refine w_callV (q := 51) hX (h3_) rfl kV_X4_roomFor rfl (by decide) lk_L_92 (by decide) rfl oLF (Nat.le_of_ble_eq_true rfl) dL_asks_48 rfl ?_
  refine v_pop (q := 52) hX rfl dL_asks_51 rfl ?_
  refine v_aload_n (q := 53) hX dL_asks_52 rfl rfl rfl ?_
  refine w_callS (q := 56) hX (c_L_view hJ2.1 hJ2.2.1) rfl kS_L_view rfl (by decide) lk_L_74 (Nat.le_of_ble_eq_true rfl) dL_asks_53 rfl ?_
  refine v_lload_n (q := 57) hX dL_asks_56 rfl rfl rfl ?_
  refine v_lcmpS (q := 61) (tgt := 77) hX dL_asks_57 dL_asks_58 (by decide) rfl ?_
  refine v_aload_n (q := 62) hX dL_asks_61 rfl rfl rfl ?_
  refine v_bipush (q := 64) hX (by decide) dL_asks_62 rfl ?_
  refine w_callV (q := 67) hX (c_cnt hJ2.1 hJ2.2.1 9 (by decide)) rfl kV_X4_count rfl (by decide) lk_L_13 (by decide) rfl oLF (Nat.le_of_ble_eq_true rfl) dL_asks_64 rfl ?_
  rw [cn_9]
  refine v_lload (q := 69) hX dL_asks_67 rfl rfl ?_
  refine v_lcmp_ne (q := 73) (tgt := 77) hX ⟨by omega, by omega⟩ ⟨by omega, by omega⟩ dL_asks_69 dL_asks_70 (by decide) rfl (fun hx_69 => ?_) (fun hx_69 => ?_)
  · exact absurd rfl hx_69
  · refine v_iconst (q := 74) hX dL_asks_73 rfl ?_
    refine v_goto (tgt := 78) hX dL_asks_74 (by decide) ?_
    refine v_ireturn hX hRX rfl (by first | rfl | exact bi_nar _) dL_asks_78 rfl ?_
    exact ⟨rfl, rfl, hJ2⟩

