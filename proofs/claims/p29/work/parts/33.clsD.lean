theorem fr3.frW {o p : Nat} {D D' : xD} (h : fr3 (o + 4 + 3 * p) D D') (hp : p < 10) : frW o D D' := fun a ha => h a (by omega) (by omega) (by omega)
theorem CR.fr {D D' : xD} {o o2 np : Nat} {N : Nat → Int} (h : CR D o2 N np) (hf : frW o D D') (hd : o2 + 34 ≤ o ∨ o + 34 ≤ o2) (hnp : np ≤ 10) : CR D' o2 N np := by
  have e : ∀ i, i < 34 → D' (o2 + i) = D (o2 + i) := fun i hi => hf _ (by omega)
  have e0 : D' o2 = D o2 := e 0 (by decide)
  refine h.keep (fun j _ _ => by rw [e0]) (fun j hj => by rw [e 1 (by decide)]; exact h.se hj) (fun j hj => by rw [e 2 (by decide)]; exact h.fh hj) ⟨rfl, rfl, rfl, rfl⟩ (fun p hp => (h.pc hp).keep (fun j _ => ?_) (fun j _ => ?_) (fun j _ => ?_) (fun _ _ => rfl))
  · rw [show o2 + 4 + 3 * p = o2 + (4 + 3 * p) by omega, e _ (by omega)]
  · rw [show o2 + 4 + 3 * p + 1 = o2 + (4 + 3 * p + 1) by omega, e _ (by omega)]
  · rw [show o2 + 4 + 3 * p + 2 = o2 + (4 + 3 * p + 2) by omega, e _ (by omega)]
theorem PC.fr3 {D D' : xD} {o p q : Nat} {N N' : Nat → Int} (h : PC D (o + 4 + 3 * p) N p) (hf : fr3 (o + 4 + 3 * q) D D') (hpq : p ≠ q) (hN : ∀ i, i < 36 → pF N' p i = pF N p i) : PC D' (o + 4 + 3 * p) N' p :=
  h.keep (fun j _ => by rw [hf _ (by omega) (by omega) (by omega)]) (fun j _ => by rw [hf _ (by omega) (by omega) (by omega)]) (fun j _ => by rw [hf _ (by omega) (by omega) (by omega)]) hN
theorem PC.cg {D : xD} {b p : Nat} {N N' : Nat → Int} (h : PC D b N p) (hN : ∀ i, i < 36 → pF N' p i = pF N p i) : PC D b N' p := h.keep (fun _ _ => rfl) (fun _ _ => rfl) (fun _ _ => rfl) hN
theorem CR.cg {D : xD} {o np : Nat} {N N' : Nat → Int} (h : CR D o N np) (h0 : ∀ i, i < 18 → i ≠ 1 → N' i = N i) (hN : ∀ p, p < np → ∀ i, i < 36 → pF N' p i = pF N p i) : CR D o N' np :=
  h.keep (fun _ _ _ => rfl) (fun j hj => by rw [h0 _ (by omega) (by omega)]; exact h.se hj) (fun j hj => by rw [h0 _ (by omega) (by omega)]; exact h.fh hj) ⟨h0 _ (by decide) (by decide), h0 _ (by decide) (by decide), h0 _ (by decide) (by decide), h0 _ (by decide) (by decide)⟩ (fun p hp => (h.pc hp).cg (hN p hp))
/-- one product of the works has become another -/
theorem CR.upd {D D' : xD} {o np k : Nat} {M M' : Nat → Int} (h : CR D o M np) (hf : fr3 (o + 4 + 3 * k) D D') (hp : PC D' (o + 4 + 3 * k) M' k) (h0 : ∀ i, i < 18 → i ≠ 1 → M' i = M i) (hN : ∀ p, p < np → p ≠ k → ∀ i, i < 36 → pF M' p i = pF M p i) : CR D' o M' np := by
  refine h.keep (fun j _ _ => by rw [hf _ (by omega) (by omega) (by omega)]) (fun j hj => by rw [hf _ (by omega) (by omega) (by omega), h0 _ (by omega) (by omega)]; exact h.se hj) (fun j hj => by rw [hf _ (by omega) (by omega) (by omega), h0 _ (by omega) (by omega)]; exact h.fh hj) ⟨h0 _ (by decide) (by decide), h0 _ (by decide) (by decide), h0 _ (by decide) (by decide), h0 _ (by decide) (by decide)⟩ (fun p hp2 => ?_)
  by_cases hk : p = k
  · subst hk; exact hp
  · exact (h.pc hp2).fr3 hf hk (hN p hp2 hk)
/-- a number of the works' own cell becomes another -/
theorem CR.put {D : xD} {o np : Nat} {N : Nat → Int} (h : CR D o N np) (c : Nat) (j : Nat) (e : Int) (hc : (c = 0 ∧ j = 4) ∨ (c = 2 ∧ j = 5) ∨ (c = 3 ∧ j = 6) ∨ (c = 4 ∧ j = 7)) : CR (xu D o j e) o (fu N c e) np := by
  have hr : ∀ a, a ≠ o → xu D o j e a = D a := fun a ha => by unfold xu; rw [if_neg ha]
  have hx : ∀ i c', (i = j ↔ c' = c) → D o i = N c' → xu D o j e o i = fu N c e c' := fun i c' hi hd => by
    by_cases hij : i = j
    · have := hi.1 hij; subst hij; subst this; rw [xu_at, fu_at]
    · rw [xu_ne _ _ _ _ (Or.inr hij), fu_ne _ _ _ (fun h9 => hij (hi.2 h9))]; exact hd
  refine ⟨?_, hx 4 0 (by omega) h.wk, hx 5 2 (by omega) h.su, hx 6 3 (by omega) h.ov, hx 7 4 (by omega) h.co, fun i hi => ?_, fun f hf => ?_, fun p hp => ?_⟩
  · rw [xu_ne _ _ _ _ (Or.inr (by omega))]; exact h.np
  · rw [hr _ (by omega), fu_ne _ _ _ (by omega)]; exact h.se hi
  · rw [hr _ (by omega), fu_ne _ _ _ (by omega)]; exact h.fh hf
  · exact (h.pc hp).keep (fun i _ => by rw [hr _ (by omega)]) (fun i _ => by rw [hr _ (by omega)]) (fun i _ => by rw [hr _ (by omega)]) (fun i hi => fu_ne _ _ _ (by omega))
theorem frW.put {o : Nat} {D E : xD} (h : frW o D E) (j : Nat) (e : Int) : frW o D (xu E o j e) := fun a ha => by unfold xu; rw [if_neg (by omega)]; exact h a ha
theorem ft_PC {D : xD} {b p : Nat} {N N' : Nat → Int} (h : PC D b N p) (hN : ∀ i, i < 36 → pF N' p i = rTold (nRec N p) i) : PC (xu D b 8 (-6)) b N' p := by
  have e : ∀ i, i < 36 → i ≠ 7 → pF N' p i = pF N p i := fun i hi h7 => by rw [hN i hi]; exact fu_ne _ _ _ h7
  have d : ∀ i, i ≠ 8 → xu D b 8 (-6) b i = D b i := fun i h8 => xu_ne _ _ _ _ (Or.inr h8)
  refine ⟨?_, ?_, ?_, ?_, ?_, ?_, ?_, ?_, ?_, ?_, ?_, ?_, fun k hk => ?_, fun k hk => ?_⟩
  · rw [d _ (by decide), e _ (by decide) (by decide)]; exact h.fa
  · rw [d _ (by decide), e _ (by decide) (by decide)]; exact h.sz
  · rw [d _ (by decide), e _ (by decide) (by decide)]; exact h.lh
  · rw [d _ (by decide), e _ (by decide) (by decide)]; exact h.sh
  · rw [d _ (by decide), e _ (by decide) (by decide)]; exact h.bg
  · rw [d _ (by decide), e _ (by decide) (by decide)]; exact h.st
  · rw [d _ (by decide), e _ (by decide) (by decide)]; exact h.bl
  · rw [d _ (by decide), e _ (by decide) (by decide)]; exact h.er
  · rw [xu_at, hN _ (by decide)]; rfl
  · rw [d _ (by decide), e _ (by decide) (by decide)]; exact h.ma
  · rw [d _ (by decide), e _ (by decide) (by decide)]; exact h.si
  · rw [d _ (by decide), e _ (by decide) (by decide)]; exact h.ca
  · rw [xu_r1, e _ (by omega) (by omega)]; exact h.fc k hk
  · rw [xu_r2, e _ (by omega) (by omega)]; exact h.lt k hk
theorem xu_fr3 (D : xD) (b j : Nat) (e : Int) : fr3 b D (xu D b j e) := fun a h1 _ _ => by unfold xu; rw [if_neg h1]
set_option maxRecDepth 100000 in
set_option maxHeartbeats 4000000 in
theorem c_X3_forgetTold {z : Nat} (D : xD) (r : xR) {o : Nat} (hK : WK o) (hR : WR o r) {np : Nat} {N : Nat → Int} (hC : CR D o N np) (hnp : np ≤ 10) : MX 1 mX3_forgetTold [.ref o] (351, z) D r (351, z) (xEn (fun D' => CR D' o (nMap N np rTold) np ∧ frW o D D') r) := by
  refine MX.of (by decide +kernel) [some (.ref o), none, none] rfl (Nat.le_of_ble_eq_true rfl) ?_
  intro γ hX hRX
  have L : ∀ k, k ≤ np → ∀ E : xD, CR E o (nMap N k rTold) np → frW o D E → xV γ 2 [some (.ref o), some (vi (k : Nat)), none] [] (351, z) E r := by
    refine xup np (fun k hk ih E hE hf => ?_)
    refine v_iload_n (q := 3) hX dX3_forgetTold_2 rfl rfl rfl ?_
    refine v_aload_n (q := 4) hX dX3_forgetTold_3 rfl rfl rfl ?_
    refine w_getI (q := 7) hX fl_X3_45 rfl hK.1 dX3_forgetTold_4 rfl ?_
    rw [hE.np]
    refine v_icmp_ge (q := 10) (tgt := 32) hX ⟨by omega, by omega⟩ ⟨by omega, by omega⟩ dX3_forgetTold_7 (by decide) rfl (fun h7 => ?_) (fun h7 => ?_)
    · refine v_vreturn hX hRX rfl dX3_forgetTold_32 rfl ?_
      have hk2 : k = np := by omega
      subst hk2
      exact ⟨rfl, rfl, hE, hf⟩
    · refine v_aload_n (q := 11) hX dX3_forgetTold_10 rfl rfl rfl ?_
      refine v_iload_n (q := 12) hX dX3_forgetTold_11 rfl rfl rfl ?_
      refine w_callV (q := 15) hX (c_X3_productAt _ _ hK hR hE.np hnp (k) (by omega)) rfl kV_X3_productAt rfl (by decide) lk_X3_49 (by decide) rfl hK.1 (Nat.le_of_ble_eq_true rfl) dX3_forgetTold_12 rfl ?_
      refine v_astore_n (q := 16) hX dX3_forgetTold_15 rfl (Nat.le_of_ble_eq_true rfl) (Nat.le_of_ble_eq_true rfl) rfl ?_
      dsimp only [xs1, xs2, xclr]
      refine v_aload_n (q := 17) hX dX3_forgetTold_16 rfl rfl rfl ?_
      refine v_ifnull (q := 20) hX dX3_forgetTold_17 rfl ?_
      refine v_aload_n (q := 21) hX dX3_forgetTold_20 rfl rfl rfl ?_
      refine v_bipush (q := 23) hX (by decide) dX3_forgetTold_21 rfl ?_
      refine w_putI (q := 26) hX fl_X3_114 rfl (hK.pk (p := k) (by omega)).1 dX3_forgetTold_23 rfl ?_
      refine v_iinc (q := 29) hX dX3_forgetTold_26 rfl (Nat.le_of_ble_eq_true rfl) (Nat.le_of_ble_eq_true rfl) rfl ?_
      dsimp only [xs1, xs2, xclr]
      refine v_goto (tgt := 2) hX dX3_forgetTold_29 (by decide) ?_
      exact xVw (by repeat' first | exact trivial | refine And.intro rfl ?_) (ih (by omega) _ (hE.upd (xu_fr3 _ _ _ _) (ft_PC (hE.pc (p := k) (by omega)) (fun i hi => by rw [← nMap_succ, nUpd_at _ _ _ hi])) (fun i hi _ => by rw [nMap_hd _ _ _ hi, nMap_hd _ _ _ hi]) (fun p hp hpk i hi => by rw [← nMap_succ, nUpd_ne _ _ hpk hi])) (hf.trans ((xu_fr3 _ _ _ _).frW (by omega))))
  refine v_iconst (q := 1) hX dX3_forgetTold_0 rfl ?_
  refine v_istore_n (q := 2) hX dX3_forgetTold_1 rfl (Nat.le_of_ble_eq_true rfl) (Nat.le_of_ble_eq_true rfl) rfl ?_
  dsimp only [xs1, xs2, xclr]
  exact L 0 (Nat.zero_le _) D (by rw [nMap_0]; exact hC) (frW.refl o D)

/-- the copy as far as its k first products -/
def cpI (D E : xD) (o : Nat) (N : Nat → Int) (np k : Nat) : Prop := frW o D E ∧ E o 3 = (np : Int) ∧ (∀ i, i < 9 → E (o + 1) i = N (5 + i)) ∧ (∀ f, f < 4 → E (o + 2) f = N (14 + f)) ∧ ∀ p, p < k → PC E (o + 4 + 3 * p) N p
theorem cpI.next {D E E' : xD} {o np k : Nat} {N : Nat → Int} (h : cpI D E o N np k) (hk : k < 10) (hp : PC E' (o + 4 + 3 * k) N k) (hf : fr3 (o + 4 + 3 * k) E E') : cpI D E' o N np (k + 1) := by
  obtain ⟨h1, h2, h3, h4, h5⟩ := h
  refine ⟨h1.trans (hf.frW hk), by rw [hf _ (by omega) (by omega) (by omega)]; exact h2, fun i hi => by rw [hf _ (by omega) (by omega) (by omega)]; exact h3 i hi, fun i hi => by rw [hf _ (by omega) (by omega) (by omega)]; exact h4 i hi, fun p hp2 => ?_⟩
  by_cases hpk : p = k
  · subst hpk; exact hp
  · exact (h5 p (by omega)).fr3 hf hpk (fun _ _ => rfl)
theorem cpI.start {D : xD} {o o2 np : Nat} {N : Nat → Int} (hC : CR D o2 N np) (hd : o2 + 34 ≤ o ∨ o + 34 ≤ o2) : cpI D (xu (xcp (xcp D (o2 + 1) 0 (o + 1) 0 9) (o2 + 2) 0 (o + 2) 0 4) o 3 (np : Int)) o N np 0 := by
  refine ⟨fun a ha => ?_, xu_at _ _ _ _, fun i hi => ?_, fun i hi => ?_, fun p hp => absurd hp (by omega)⟩
  · unfold xu xcp; simp only [show a ≠ o by omega, show a ≠ o + 2 by omega, show a ≠ o + 1 by omega, if_false, reduceIte]
  · rw [xu_r1, xcp_xw, xw_ne _ _ _ (by omega), xcp_xw, xw_at, if_pos (by omega), show 0 + (i - 0) = i by omega]; exact hC.se hi
  · rw [xu_r2, xcp_xw, xw_at, if_pos (by omega), xcp_xw, xw_ne _ _ _ (by omega), show 0 + (i - 0) = i by omega]; exact hC.fh hi
theorem cpI.fin {D E : xD} {o np : Nat} {N : Nat → Int} (h : cpI D E o N np np) : CR (xu (xu (xu (xu E o 4 (N 0)) o 5 (N 2)) o 6 (N 3)) o 7 (N 4)) o N np := by
  obtain ⟨h1, h2, h3, h4, h5⟩ := h
  have e : ∀ a, a ≠ o → xu (xu (xu (xu E o 4 (N 0)) o 5 (N 2)) o 6 (N 3)) o 7 (N 4) a = E a := fun a ha => by unfold xu; simp only [ha, if_false, reduceIte]
  refine ⟨?_, ?_, ?_, ?_, ?_, fun i hi => by rw [e _ (by omega)]; exact h3 i hi, fun i hi => by rw [e _ (by omega)]; exact h4 i hi, fun p hp => (h5 p hp).keep (fun j _ => by rw [e _ (by omega)]) (fun j _ => by rw [e _ (by omega)]) (fun j _ => by rw [e _ (by omega)]) (fun _ _ => rfl)⟩
  · rw [xu_ne _ _ _ _ (Or.inr (by decide)), xu_ne _ _ _ _ (Or.inr (by decide)), xu_ne _ _ _ _ (Or.inr (by decide)), xu_ne _ _ _ _ (Or.inr (by decide))]; exact h2
  · rw [xu_ne _ _ _ _ (Or.inr (by decide)), xu_ne _ _ _ _ (Or.inr (by decide)), xu_ne _ _ _ _ (Or.inr (by decide)), xu_at]
  · rw [xu_ne _ _ _ _ (Or.inr (by decide)), xu_ne _ _ _ _ (Or.inr (by decide)), xu_at]
  · rw [xu_ne _ _ _ _ (Or.inr (by decide)), xu_at]
  · rw [xu_at]
set_option maxRecDepth 100000 in
set_option maxHeartbeats 4000000 in
theorem c_X3_copyFrom {z : Nat} (D : xD) (r : xR) {o : Nat} (hK : WK o) (hR : WR o r) {o2 np : Nat} {N : Nat → Int} (hK2 : WK o2) (hR2 : WR o2 r) (hC2 : CR D o2 N np) (hnp : np ≤ 10) (hd : o2 + 34 ≤ o ∨ o + 34 ≤ o2) : MX 2 mX3_copyFrom [.ref o, .ref o2] (351, z) D r (351, z) (xEn (fun D' => CR D' o N np ∧ frW o D D') r) := by
  refine MX.of (by decide +kernel) [some (.ref o), some (.ref o2), none, none, none] rfl (Nat.le_of_ble_eq_true rfl) ?_
  intro γ hX hRX
  have L : ∀ k, k ≤ np → ∀ E : xD, cpI D E o N np k → xV γ 44 [some (.ref o), some (.ref o2), some (vi (k : Nat)), none, none] [] (351, z) E r := by
    refine xup np (fun k hk ih E hE => ?_)
    have hE2 := hC2.fr hE.1 hd hnp
    refine v_iload_n (q := 45) hX dX3_copyFrom_44 rfl rfl rfl ?_
    refine v_aload_n (q := 46) hX dX3_copyFrom_45 rfl rfl rfl ?_
    refine w_getI (q := 49) hX fl_X3_45 rfl hK.1 dX3_copyFrom_46 rfl ?_
    rw [hE.2.1]
    refine v_icmp_ge (q := 52) (tgt := 86) hX ⟨by omega, by omega⟩ ⟨by omega, by omega⟩ dX3_copyFrom_49 (by decide) rfl (fun h49 => ?_) (fun h49 => ?_)
    · have e4 : E o2 4 = N 0 := hE2.wk
      have e5 : ∀ x, xu E o 4 x o2 5 = N 2 := fun x => by rw [xu_ne _ _ _ _ (Or.inl (by omega))]; exact hE2.su
      have e6 : ∀ x y, xu (xu E o 4 x) o 5 y o2 6 = N 3 := fun x y => by rw [xu_ne _ _ _ _ (Or.inl (by omega)), xu_ne _ _ _ _ (Or.inl (by omega))]; exact hE2.ov
      have e7 : ∀ x y t, xu (xu (xu E o 4 x) o 5 y) o 6 t o2 7 = N 4 := fun x y t => by rw [xu_ne _ _ _ _ (Or.inl (by omega)), xu_ne _ _ _ _ (Or.inl (by omega)), xu_ne _ _ _ _ (Or.inl (by omega))]; exact hE2.co
      refine v_aload_n (q := 87) hX dX3_copyFrom_86 rfl rfl rfl ?_
      refine v_aload_n (q := 88) hX dX3_copyFrom_87 rfl rfl rfl ?_
      refine w_getI (q := 91) hX fl_X3_57 rfl hK2.1 dX3_copyFrom_88 rfl ?_
      rw [e4]
      refine w_putI (q := 94) hX fl_X3_57 rfl hK.1 dX3_copyFrom_91 rfl ?_
      refine v_aload_n (q := 95) hX dX3_copyFrom_94 rfl rfl rfl ?_
      refine v_aload_n (q := 96) hX dX3_copyFrom_95 rfl rfl rfl ?_
      refine w_getL (q := 99) hX fl_X3_60 rfl hK2.1 dX3_copyFrom_96 rfl ?_
      rw [e5]
      refine w_putL (q := 102) hX fl_X3_60 rfl hK.1 dX3_copyFrom_99 rfl ?_
      refine v_aload_n (q := 103) hX dX3_copyFrom_102 rfl rfl rfl ?_
      refine v_aload_n (q := 104) hX dX3_copyFrom_103 rfl rfl rfl ?_
      refine w_getL (q := 107) hX fl_X3_64 rfl hK2.1 dX3_copyFrom_104 rfl ?_
      rw [e6]
      refine w_putL (q := 110) hX fl_X3_64 rfl hK.1 dX3_copyFrom_107 rfl ?_
      refine v_aload_n (q := 111) hX dX3_copyFrom_110 rfl rfl rfl ?_
      refine v_aload_n (q := 112) hX dX3_copyFrom_111 rfl rfl rfl ?_
      refine w_getL (q := 115) hX fl_X3_67 rfl hK2.1 dX3_copyFrom_112 rfl ?_
      rw [e7]
      refine w_putL (q := 118) hX fl_X3_67 rfl hK.1 dX3_copyFrom_115 rfl ?_
      refine v_vreturn hX hRX rfl dX3_copyFrom_118 rfl ?_
      have hk2 : k = np := by omega
      subst hk2
      exact ⟨rfl, rfl, hE.fin, (((hE.1.put 4 _).put 5 _).put 6 _).put 7 _⟩
    · refine v_aload_n (q := 53) hX dX3_copyFrom_52 rfl rfl rfl ?_
      refine v_iload_n (q := 54) hX dX3_copyFrom_53 rfl rfl rfl ?_
      refine w_callV (q := 57) hX (c_X3_productAt _ _ hK hR hE.2.1 hnp k (by omega)) rfl kV_X3_productAt rfl (by decide) lk_X3_49 (by decide) rfl hK.1 (Nat.le_of_ble_eq_true rfl) dX3_copyFrom_54 rfl ?_
      refine v_astore_n (q := 58) hX dX3_copyFrom_57 rfl (Nat.le_of_ble_eq_true rfl) (Nat.le_of_ble_eq_true rfl) rfl ?_
      dsimp only [xs1, xs2, xclr]
      refine v_aload_n (q := 59) hX dX3_copyFrom_58 rfl rfl rfl ?_
      refine v_iload_n (q := 60) hX dX3_copyFrom_59 rfl rfl rfl ?_
      refine w_callV (q := 63) hX (c_X3_productAt _ _ hK2 hR2 hE2.np hnp k (by omega)) rfl kV_X3_productAt rfl (by decide) lk_X3_49 (by decide) rfl hK2.1 (Nat.le_of_ble_eq_true rfl) dX3_copyFrom_60 rfl ?_
      refine v_astore (q := 65) hX dX3_copyFrom_63 (Nat.le_of_ble_eq_true rfl) (Nat.le_of_ble_eq_true rfl) rfl ?_
      dsimp only [xs1, xs2, xclr]
      refine v_aload_n (q := 66) hX dX3_copyFrom_65 rfl rfl rfl ?_
      refine v_ifnull (q := 69) hX dX3_copyFrom_66 rfl ?_
      refine v_aload (q := 71) hX dX3_copyFrom_69 rfl rfl ?_
      refine v_ifnull (q := 74) hX dX3_copyFrom_71 rfl ?_
      refine v_aload_n (q := 75) hX dX3_copyFrom_74 rfl rfl rfl ?_
      refine v_aload (q := 77) hX dX3_copyFrom_75 rfl rfl ?_
      refine w_callVn (q := 80) hX (c_X2_copyFrom E _ (hK.pk (p := k) (by omega)) (hR.pr (p := k) (by omega)) (hK2.pk (p := k) (by omega)) (hR2.pr (p := k) (by omega)) (by omega) (hE2.pc (p := k) (by omega))) rfl kV_X2_copyFrom rfl (by decide) lk_X3_53 (by decide) rfl (hK.pk (p := k) (by omega)).1 (Nat.le_of_ble_eq_true rfl) dX3_copyFrom_77 rfl (fun D1 hD1 => ?_)
      obtain ⟨hD1, hD2⟩ := hD1
      refine v_iinc (q := 83) hX dX3_copyFrom_80 rfl (Nat.le_of_ble_eq_true rfl) (Nat.le_of_ble_eq_true rfl) rfl ?_
      dsimp only [xs1, xs2, xclr]
      refine v_goto (tgt := 44) hX dX3_copyFrom_83 (by decide) ?_
      exact xVw (by repeat' first | exact trivial | refine And.intro rfl ?_) (ih (by omega) D1 (hE.next (by omega) hD1 hD2))
  refine v_aload_n (q := 1) hX dX3_copyFrom_0 rfl rfl rfl ?_
  refine v_ifnonnull (tgt := 5) hX dX3_copyFrom_1 (by decide) ?_
  refine v_aload_n (q := 6) hX dX3_copyFrom_5 rfl rfl rfl ?_
  refine w_getR (q := 9) hX fl_X3_18 rfl hK2.1 hR2.1 dX3_copyFrom_6 rfl ?_
  refine v_iconst (q := 10) hX dX3_copyFrom_9 rfl ?_
  refine v_aload_n (q := 11) hX dX3_copyFrom_10 rfl rfl rfl ?_
  refine w_getR (q := 14) hX fl_X3_18 rfl hK.1 hR.1 dX3_copyFrom_11 rfl ?_
  refine v_iconst (q := 15) hX dX3_copyFrom_14 rfl ?_
  refine v_bipush (q := 17) hX (by decide) dX3_copyFrom_15 rfl ?_
  refine v_copy (q := 20) hX (Nat.le_refl 351) lk_X3_39 nat_arraycopy st_copy (show Cond.initialized "java/lang/System" ∈ xtb from ii_J10) (sp := 0) (dp := 0) (len := 9) rfl rfl rfl (by decide) (by decide) (by decide) hK2.2.1.1 hK.2.1.1 hK2.2.1.2.1 hK2.2.1.2.2.1 hK.2.1.2.1 hK.2.1.2.2.1 (by decide) (Nat.le_of_ble_eq_true rfl) dX3_copyFrom_17 rfl ?_
  refine v_aload_n (q := 21) hX dX3_copyFrom_20 rfl rfl rfl ?_
  refine w_getR (q := 24) hX fl_X3_23 rfl hK2.1 hR2.2.1 dX3_copyFrom_21 rfl ?_
  refine v_iconst (q := 25) hX dX3_copyFrom_24 rfl ?_
  refine v_aload_n (q := 26) hX dX3_copyFrom_25 rfl rfl rfl ?_
  refine w_getR (q := 29) hX fl_X3_23 rfl hK.1 hR.2.1 dX3_copyFrom_26 rfl ?_
  refine v_iconst (q := 30) hX dX3_copyFrom_29 rfl ?_
  refine v_iconst (q := 31) hX dX3_copyFrom_30 rfl ?_
  refine v_copy (q := 34) hX (Nat.le_refl 351) lk_X3_39 nat_arraycopy st_copy (show Cond.initialized "java/lang/System" ∈ xtb from ii_J10) (sp := 0) (dp := 0) (len := 4) rfl rfl rfl (by decide) (by decide) (by decide) hK2.2.2.1.1 hK.2.2.1.1 hK2.2.2.1.2.1 hK2.2.2.1.2.2.1 hK.2.2.1.2.1 hK.2.2.1.2.2.1 (by decide) (Nat.le_of_ble_eq_true rfl) dX3_copyFrom_31 rfl ?_
  refine v_aload_n (q := 35) hX dX3_copyFrom_34 rfl rfl rfl ?_
  refine v_aload_n (q := 36) hX dX3_copyFrom_35 rfl rfl rfl ?_
  refine w_getI (q := 39) hX fl_X3_45 rfl hK2.1 dX3_copyFrom_36 rfl ?_
  rw [show xcp (xcp D (o2 + 1) 0 (o + 1) 0 9) (o2 + 2) 0 (o + 2) 0 4 o2 3 = (np : Int) by (rw [xcp_xw, xw_ne _ _ _ (by omega), xcp_xw, xw_ne _ _ _ (by omega)]; exact hC2.np)]
  refine w_putI (q := 42) hX fl_X3_45 rfl hK.1 dX3_copyFrom_39 rfl ?_
  refine v_iconst (q := 43) hX dX3_copyFrom_42 rfl ?_
  refine v_istore_n (q := 44) hX dX3_copyFrom_43 rfl (Nat.le_of_ble_eq_true rfl) (Nat.le_of_ble_eq_true rfl) rfl ?_
  dsimp only [xs1, xs2, xclr]
  exact xVw (by repeat' first | exact trivial | refine And.intro rfl ?_) (L 0 (Nat.zero_le _) _ (cpI.start hC2 hd))

theorem nMask_cg {M N : Nat → Int} (w : Nat) : ∀ k, (∀ p, p < k → pF M p 0 = pF N p 0 ∧ pF M p (24 + w) = pF N p (24 + w)) → nMask M w k = nMask N w k := by
  intro k
  induction k with
  | zero => intro _; rfl
  | succ k ih => intro h; unfold nMask; rw [ih (fun p hp => h p (by omega)), (h k (by omega)).1, (h k (by omega)).2]
theorem nMade_cg {M N : Nat → Int} (w : Nat) : ∀ k, (∀ p, p < k → pF M p (24 + w) = pF N p (24 + w)) → nMade M w k = nMade N w k := by
  intro k
  induction k with
  | zero => intro _; rfl
  | succ k ih => intro h; unfold nMade; rw [ih (fun p hp => h p (by omega)), h k (by omega)]
theorem nHrs_cg {M N : Nat → Int} (w : Nat) : ∀ k, (∀ p, p < k → pF M p 2 = pF N p 2 ∧ pF M p 3 = pF N p 3 ∧ pF M p (24 + w) = pF N p (24 + w)) → nHrs M w k = nHrs N w k := by
  intro k
  induction k with
  | zero => intro _; rfl
  | succ k ih => intro h; unfold nHrs; rw [ih (fun p hp => h p (by omega)), (h k (by omega)).1, (h k (by omega)).2.1, (h k (by omega)).2.2]
theorem nFh_cg {M N : Nat → Int} (m : Nat) : ∀ k, (∀ f, f < k → M (14 + f) = N (14 + f)) → nFh M m k = nFh N m k := by
  intro k
  induction k with
  | zero => intro _; rfl
  | succ k ih => intro h; unfold nFh; rw [ih (fun p hp => h p (by omega)), h k (by omega)]
theorem nSum_cg {M N : Nat → Int} (i : Nat) : ∀ k, (∀ p, p < k → pF M p i = pF N p i) → nSum M i k = nSum N i k := by
  intro k
  induction k with
  | zero => intro _; rfl
  | succ k ih => intro h; unfold nSum; rw [ih (fun p hp => h p (by omega)), h k (by omega)]
theorem nSetups_cg {M N : Nat → Int} {np w : Nat} (h : ∀ p, p < np → pF M p 0 = pF N p 0 ∧ pF M p (24 + w) = pF N p (24 + w)) : nSetups M np w = nSetups N np w := by
  unfold nSetups; rw [nMask_cg w np h, nMade_cg w np (fun p hp => (h p hp).2)]
theorem nHours_cg {M N : Nat → Int} {np w : Nat} (h : ∀ p, p < np → pF M p 0 = pF N p 0 ∧ pF M p 2 = pF N p 2 ∧ pF M p 3 = pF N p 3 ∧ pF M p (24 + w) = pF N p (24 + w)) (hF : ∀ f, f < 4 → M (14 + f) = N (14 + f)) : nHours M np w = nHours N np w := by
  unfold nHours; rw [nHrs_cg w np (fun p hp => ⟨(h p hp).2.1, (h p hp).2.2.1, (h p hp).2.2.2⟩), nMask_cg w np (fun p hp => ⟨(h p hp).1, (h p hp).2.2.2⟩), nFh_cg _ 4 hF]
theorem nMade_r (N : Nat → Int) (w : Nat) : ∀ k : Nat, 0 ≤ nMade N w k ∧ nMade N w k ≤ k := by
  intro k
  induction k with
  | zero => exact ⟨Int.le_refl _, Int.le_refl _⟩
  | succ k ih => unfold nMade; split <;> omega
theorem rRoll_cg {q q' : Nat → Int} (h : ∀ j, j < 36 → q j = q' j) {j : Nat} (hj : j < 36) : rRoll q j = rRoll q' j := by
  unfold rRoll fu rRl
  by_cases h1 : j = 7
  · rw [if_pos h1, if_pos h1]
  · rw [if_neg h1, if_neg h1]
    by_cases h2 : j = 35
    · rw [if_pos h2, if_pos h2]
    · rw [if_neg h2, if_neg h2]
      by_cases h3 : (12 ≤ j ∧ j < 12 + 11) ∨ (24 ≤ j ∧ j < 24 + 11)
      · rw [if_pos h3, if_pos h3]; exact h _ (by omega)
      · rw [if_neg h3, if_neg h3]; exact h _ hj
theorem nMap_two (N : Nat → Int) (np : Nat) : nMap N np (fun q => rRoll (rShip q)) = nMap (nMap N np rShip) np rRoll := by
  funext i
  unfold nMap
  by_cases h : 18 ≤ i ∧ i < 18 + 36 * np
  · rw [if_pos h, if_pos h]
    refine rRoll_cg (fun j hj => ?_) (Nat.mod_lt _ (by decide))
    exact (nMap_at N (k := np) (p := (i - 18) / 36) rShip (by omega) hj).symm
  · rw [if_neg h, if_neg h, if_neg h]
theorem nStep_p (N : Nat → Int) {np p i : Nat} (hp : p < np) (hi : i < 36) : pF (nStep N np) p i = pF (nMap N np (fun q => rRoll (rShip q))) p i := by
  unfold nStep
  rw [nMap_two, nMap_at _ _ hp hi, nMap_at _ _ hp hi]
  refine rRoll_cg (fun j hj => ?_) hi
  exact nHd_ge _ _ (by omega)
theorem nShip_pF (N : Nat → Int) {np p i : Nat} (hp : p < np) (hi : i < 36) (h4 : i ≠ 4) (h5 : i ≠ 5) (h6 : i ≠ 6) (h8 : i ≠ 8) (h9 : i ≠ 9) (h10 : i ≠ 10) : pF (nMap N np rShip) p i = pF N p i := by
  rw [nMap_at _ _ hp hi, rShip_ne _ h4 h5 h6 h8 h9 h10]; rfl
theorem nStep_h (N : Nat → Int) (np : Nat) {i : Nat} (hi : i < 18) : nStep N np i = nHd (nMap N np rShip) np i := nMap_hd _ _ _ hi
theorem nStep_o (N : Nat → Int) (np : Nat) {i : Nat} (hi : i = 0 ∨ i = 1 ∨ (5 ≤ i ∧ i < 18)) : nStep N np i = N i := by
  rw [nStep_h _ _ (by omega), nHd_ge _ _ (by omega), nMap_hd _ _ _ (by omega)]
theorem nStep_2 (N : Nat → Int) (np : Nat) : nStep N np 2 = N 2 + nSetups N np 0 := by
  rw [nStep_h _ _ (by decide)]
  show nMap N np rShip 2 + nSetups (nMap N np rShip) np 0 = _
  rw [nMap_hd _ _ _ (by decide), nSetups_cg (N := N) (fun p hp => ⟨nShip_pF N hp (by decide) (by decide) (by decide) (by decide) (by decide) (by decide) (by decide), nShip_pF N hp (by decide) (by decide) (by decide) (by decide) (by decide) (by decide) (by decide)⟩)]
theorem nShip_over (N : Nat → Int) (np : Nat) : nOver (nMap N np rShip) np 0 = nOver N np 0 := by
  unfold nOver
  rw [nHours_cg (N := N) (fun p hp => ⟨nShip_pF N hp (by decide) (by decide) (by decide) (by decide) (by decide) (by decide) (by decide), nShip_pF N hp (by decide) (by decide) (by decide) (by decide) (by decide) (by decide) (by decide), nShip_pF N hp (by decide) (by decide) (by decide) (by decide) (by decide) (by decide) (by decide), nShip_pF N hp (by decide) (by decide) (by decide) (by decide) (by decide) (by decide) (by decide)⟩) (fun f hf => nMap_hd _ _ _ (by omega)), nMap_hd _ _ _ (by decide)]
theorem nShip_set (N : Nat → Int) (np : Nat) : nSetups (nMap N np rShip) np 0 = nSetups N np 0 := nSetups_cg (fun p hp => ⟨nShip_pF N hp (by decide) (by decide) (by decide) (by decide) (by decide) (by decide) (by decide), nShip_pF N hp (by decide) (by decide) (by decide) (by decide) (by decide) (by decide) (by decide)⟩)
theorem nStep_3 (N : Nat → Int) (np : Nat) : nStep N np 3 = N 3 + nOver N np 0 := by
  rw [nStep_h _ _ (by decide)]
  show fu (nMap N np rShip) 2 _ 3 + nOver (nMap N np rShip) np 0 = _
  rw [fu_ne _ _ _ (by decide), nMap_hd _ _ _ (by decide), nShip_over]
theorem nStep_4 (N : Nat → Int) (np : Nat) : nStep N np 4 = N 4 + (nSetups N np 0 * N 10 + nOver N np 0 * N 13 + nSum (nMap N np (fun q => rRoll (rShip q))) 4 np * N 11 + nSum (nMap N np (fun q => rRoll (rShip q))) 5 np * N 12) := by
  have e3 : ∀ x y i p, i < 36 → pF (fu (fu (nMap N np rShip) 2 x) 3 y) p i = pF (nMap N np rShip) p i := fun x y i p hi => by unfold pF; rw [fu_ne _ _ _ (by omega), fu_ne _ _ _ (by omega)]
  have e4 : ∀ x y i, i = 4 ∨ i = 5 → nSum (fu (fu (nMap N np rShip) 2 x) 3 y) i np = nSum (nMap N np (fun q => rRoll (rShip q))) i np := fun x y i hi => nSum_cg i np (fun p hp => by
    rw [e3 _ _ _ _ (by omega), nMap_at _ _ hp (by omega), nMap_at _ _ hp (by omega)]
    unfold rRoll rRl; rw [fu_ne _ _ _ (by omega), fu_ne _ _ _ (by omega), if_neg (by omega)])
  have h : ∀ i, 4 ≤ i → i < 18 → ∀ x y, fu (fu (nMap N np rShip) 2 x) 3 y i = N i := fun i h4 hi x y => by rw [fu_ne _ _ _ (by omega), fu_ne _ _ _ (by omega), nMap_hd _ _ _ hi]
  rw [nStep_h _ _ (by decide)]
  unfold nHd
  rw [fu_at, h 4 (by decide) (by decide), h 10 (by decide) (by decide), h 13 (by decide) (by decide), h 11 (by decide) (by decide), h 12 (by decide) (by decide), e4 _ _ 4 (Or.inl rfl), e4 _ _ 5 (Or.inr rfl)]
  rw [nShip_set, nShip_over]
def pwN (N : Nat → Int) (np : Nat) : Nat → Int := fu (fu (fu (fu (nMap N np (fun q => rRoll (rShip q))) 2 ((nMap N np (fun q => rRoll (rShip q))) 2 + nSetups N np 0)) 3 (fu (nMap N np (fun q => rRoll (rShip q))) 2 ((nMap N np (fun q => rRoll (rShip q))) 2 + nSetups N np 0) 3 + nOver N np 0)) 4 ((fu (fu (nMap N np (fun q => rRoll (rShip q))) 2 ((nMap N np (fun q => rRoll (rShip q))) 2 + nSetups N np 0)) 3 (fu (nMap N np (fun q => rRoll (rShip q))) 2 ((nMap N np (fun q => rRoll (rShip q))) 2 + nSetups N np 0) 3 + nOver N np 0)) 4 + (nSetups N np 0 * (fu (fu (nMap N np (fun q => rRoll (rShip q))) 2 ((nMap N np (fun q => rRoll (rShip q))) 2 + nSetups N np 0)) 3 (fu (nMap N np (fun q => rRoll (rShip q))) 2 ((nMap N np (fun q => rRoll (rShip q))) 2 + nSetups N np 0) 3 + nOver N np 0)) 10 + nOver N np 0 * (fu (fu (nMap N np (fun q => rRoll (rShip q))) 2 ((nMap N np (fun q => rRoll (rShip q))) 2 + nSetups N np 0)) 3 (fu (nMap N np (fun q => rRoll (rShip q))) 2 ((nMap N np (fun q => rRoll (rShip q))) 2 + nSetups N np 0) 3 + nOver N np 0)) 13 + nSum (fu (fu (nMap N np (fun q => rRoll (rShip q))) 2 ((nMap N np (fun q => rRoll (rShip q))) 2 + nSetups N np 0)) 3 (fu (nMap N np (fun q => rRoll (rShip q))) 2 ((nMap N np (fun q => rRoll (rShip q))) 2 + nSetups N np 0) 3 + nOver N np 0)) 4 np * (fu (fu (nMap N np (fun q => rRoll (rShip q))) 2 ((nMap N np (fun q => rRoll (rShip q))) 2 + nSetups N np 0)) 3 (fu (nMap N np (fun q => rRoll (rShip q))) 2 ((nMap N np (fun q => rRoll (rShip q))) 2 + nSetups N np 0) 3 + nOver N np 0)) 11 + nSum (fu (fu (nMap N np (fun q => rRoll (rShip q))) 2 ((nMap N np (fun q => rRoll (rShip q))) 2 + nSetups N np 0)) 3 (fu (nMap N np (fun q => rRoll (rShip q))) 2 ((nMap N np (fun q => rRoll (rShip q))) 2 + nSetups N np 0) 3 + nOver N np 0)) 5 np * (fu (fu (nMap N np (fun q => rRoll (rShip q))) 2 ((nMap N np (fun q => rRoll (rShip q))) 2 + nSetups N np 0)) 3 (fu (nMap N np (fun q => rRoll (rShip q))) 2 ((nMap N np (fun q => rRoll (rShip q))) 2 + nSetups N np 0) 3 + nOver N np 0)) 12))) 0 (fu (fu (fu (nMap N np (fun q => rRoll (rShip q))) 2 ((nMap N np (fun q => rRoll (rShip q))) 2 + nSetups N np 0)) 3 (fu (nMap N np (fun q => rRoll (rShip q))) 2 ((nMap N np (fun q => rRoll (rShip q))) 2 + nSetups N np 0) 3 + nOver N np 0)) 4 ((fu (fu (nMap N np (fun q => rRoll (rShip q))) 2 ((nMap N np (fun q => rRoll (rShip q))) 2 + nSetups N np 0)) 3 (fu (nMap N np (fun q => rRoll (rShip q))) 2 ((nMap N np (fun q => rRoll (rShip q))) 2 + nSetups N np 0) 3 + nOver N np 0)) 4 + (nSetups N np 0 * (fu (fu (nMap N np (fun q => rRoll (rShip q))) 2 ((nMap N np (fun q => rRoll (rShip q))) 2 + nSetups N np 0)) 3 (fu (nMap N np (fun q => rRoll (rShip q))) 2 ((nMap N np (fun q => rRoll (rShip q))) 2 + nSetups N np 0) 3 + nOver N np 0)) 10 + nOver N np 0 * (fu (fu (nMap N np (fun q => rRoll (rShip q))) 2 ((nMap N np (fun q => rRoll (rShip q))) 2 + nSetups N np 0)) 3 (fu (nMap N np (fun q => rRoll (rShip q))) 2 ((nMap N np (fun q => rRoll (rShip q))) 2 + nSetups N np 0) 3 + nOver N np 0)) 13 + nSum (fu (fu (nMap N np (fun q => rRoll (rShip q))) 2 ((nMap N np (fun q => rRoll (rShip q))) 2 + nSetups N np 0)) 3 (fu (nMap N np (fun q => rRoll (rShip q))) 2 ((nMap N np (fun q => rRoll (rShip q))) 2 + nSetups N np 0) 3 + nOver N np 0)) 4 np * (fu (fu (nMap N np (fun q => rRoll (rShip q))) 2 ((nMap N np (fun q => rRoll (rShip q))) 2 + nSetups N np 0)) 3 (fu (nMap N np (fun q => rRoll (rShip q))) 2 ((nMap N np (fun q => rRoll (rShip q))) 2 + nSetups N np 0) 3 + nOver N np 0)) 11 + nSum (fu (fu (nMap N np (fun q => rRoll (rShip q))) 2 ((nMap N np (fun q => rRoll (rShip q))) 2 + nSetups N np 0)) 3 (fu (nMap N np (fun q => rRoll (rShip q))) 2 ((nMap N np (fun q => rRoll (rShip q))) 2 + nSetups N np 0) 3 + nOver N np 0)) 5 np * (fu (fu (nMap N np (fun q => rRoll (rShip q))) 2 ((nMap N np (fun q => rRoll (rShip q))) 2 + nSetups N np 0)) 3 (fu (nMap N np (fun q => rRoll (rShip q))) 2 ((nMap N np (fun q => rRoll (rShip q))) 2 + nSetups N np 0) 3 + nOver N np 0)) 12)) 0 + 1)
theorem pwk_p {N : Nat → Int} {np p i : Nat} (hp : p < np) (hi : i < 36) : pF (fu (nStep N np) 0 (nStep N np 0 + 1)) p i = pF (pwN N np) p i := by
  unfold pwN
  rw [show pF (fu (nStep N np) 0 (nStep N np 0 + 1)) p i = pF (nStep N np) p i from fu_ne _ _ _ (by omega), nStep_p N hp hi]
  unfold pF
  rw [fu_ne _ _ _ (by omega), fu_ne _ _ _ (by omega), fu_ne _ _ _ (by omega), fu_ne _ _ _ (by omega)]
theorem pwk_h {N : Nat → Int} {np i : Nat} (hi : i < 18) (h1 : i ≠ 1) : fu (nStep N np) 0 (nStep N np 0 + 1) i = pwN N np i := by
  have e : ∀ j, j < 18 → j ≠ 2 → j ≠ 3 → (fu (fu (nMap N np (fun q => rRoll (rShip q))) 2 ((nMap N np (fun q => rRoll (rShip q))) 2 + nSetups N np 0)) 3 (fu (nMap N np (fun q => rRoll (rShip q))) 2 ((nMap N np (fun q => rRoll (rShip q))) 2 + nSetups N np 0) 3 + nOver N np 0)) j = N j := fun j hj h2 h3 => by rw [fu_ne _ _ _ h3, fu_ne _ _ _ h2, nMap_hd _ _ _ hj]
  have e4 : ∀ j, j < 36 → ∀ p, pF (fu (fu (nMap N np (fun q => rRoll (rShip q))) 2 ((nMap N np (fun q => rRoll (rShip q))) 2 + nSetups N np 0)) 3 (fu (nMap N np (fun q => rRoll (rShip q))) 2 ((nMap N np (fun q => rRoll (rShip q))) 2 + nSetups N np 0) 3 + nOver N np 0)) p j = pF (nMap N np (fun q => rRoll (rShip q))) p j := fun j hj p => by unfold pF; rw [fu_ne _ _ _ (by omega), fu_ne _ _ _ (by omega)]
  unfold pwN
  by_cases h0 : i = 0
  · subst h0
    rw [fu_at, fu_at, fu_ne _ _ _ (by decide), e 0 (by decide) (by decide) (by decide), nStep_o _ _ (Or.inl rfl)]
  · rw [fu_ne _ _ _ h0, fu_ne _ _ _ h0]
    by_cases h4 : i = 4
    · subst h4
      rw [fu_at, e 4 (by decide) (by decide) (by decide), e 10 (by decide) (by decide) (by decide), e 13 (by decide) (by decide) (by decide), e 11 (by decide) (by decide) (by decide), e 12 (by decide) (by decide) (by decide), nSum_cg (N := nMap N np (fun q => rRoll (rShip q))) 4 np (fun p _ => e4 4 (by decide) p), nSum_cg (N := nMap N np (fun q => rRoll (rShip q))) 5 np (fun p _ => e4 5 (by decide) p), nStep_4]
    · rw [fu_ne _ _ _ h4]
      by_cases h3 : i = 3
      · subst h3; rw [fu_at, fu_ne _ _ _ (by decide), nMap_hd _ _ _ (by decide), nStep_3]
      · by_cases h2 : i = 2
        · subst h2; rw [fu_ne _ _ _ (by decide), fu_at, nMap_hd _ _ _ (by decide), nStep_2]
        · rw [e i hi h2 h3, nStep_o _ _ (by omega)]
set_option maxRecDepth 100000 in
set_option maxHeartbeats 4000000 in
theorem c_X3_passWeek {z : Nat} (D : xD) (r : xR) {o : Nat} (hK : WK o) (hR : WR o r) {np : Nat} {N : Nat → Int} (hC : CR D o N np) {B : Int} (hV : nV B np N) (hB : B + 2000 ≤ 2100000000) : MX 3 mX3_passWeek [.ref o] (351, z) D r (351, z) (xEn (fun D' => CR D' o (fu (nStep N np) 0 (nStep N np 0 + 1)) np ∧ frW o D D') r) := by
  refine MX.of (by decide +kernel) [some (.ref o), none, none, none, none] rfl (Nat.le_of_ble_eq_true rfl) ?_
  intro γ hX hRX
  have hO := hV.1
  have hM : nOk (B + 2000) np (nMap N np (fun q => rRoll (rShip q))) := by rw [nMap_two]; exact (pOk_ship hV hB (Nat.le_refl _)).roll (Nat.le_refl _)
  have hr1 : xI (nSetups N np 0) := by have h1 := nMade_r N 0 np; have h2 := nBits_le (nMask N 0 np) 4; have h3 := hO.np.2; unfold nSetups; exact ⟨by omega, by omega⟩
  have hr2 : xI (nOver N np 0) := by have h1 := nHours_le hO (w := 0) (by decide); have h2 := hO.2.2.2.1; unfold nOver; split <;> exact ⟨by omega, by omega⟩
  have hnp := hO.np.2
  have K45 : ∀ E : xD, CR E o (nMap N np (fun q => rRoll (rShip q))) np → frW o D E → xV γ 45 [some (.ref o), some (vi (nSetups N np 0)), some (vi (nOver N np 0)), none, none] [] (351, z) E r := by
    intro E hE hf
    refine v_aload_n (q := 46) hX dX3_passWeek_45 rfl rfl rfl ?_
    refine v_dup (q := 47) hX rfl dX3_passWeek_46 rfl ?_
    refine w_getL (q := 50) hX fl_X3_60 rfl hK.1 dX3_passWeek_47 rfl ?_
    rw [hE.su]
    refine v_iload_n (q := 51) hX dX3_passWeek_50 rfl rfl rfl ?_
    refine v_i2l (q := 52) hX hr1 dX3_passWeek_51 rfl ?_
    refine v_ladd (q := 53) hX dX3_passWeek_52 rfl ?_
    refine w_putL (q := 56) hX fl_X3_60 rfl hK.1 dX3_passWeek_53 rfl ?_
    have h1 := hE.put 2 5 (nMap N np (fun q => rRoll (rShip q)) 2 + nSetups N np 0) (by decide)
    refine v_aload_n (q := 57) hX dX3_passWeek_56 rfl rfl rfl ?_
    refine v_dup (q := 58) hX rfl dX3_passWeek_57 rfl ?_
    refine w_getL (q := 61) hX fl_X3_64 rfl hK.1 dX3_passWeek_58 rfl ?_
    rw [h1.ov]
    refine v_iload_n (q := 62) hX dX3_passWeek_61 rfl rfl rfl ?_
    refine v_i2l (q := 63) hX hr2 dX3_passWeek_62 rfl ?_
    refine v_ladd (q := 64) hX dX3_passWeek_63 rfl ?_
    refine w_putL (q := 67) hX fl_X3_64 rfl hK.1 dX3_passWeek_64 rfl ?_
    have h2 := h1.put 3 6 (fu (nMap N np (fun q => rRoll (rShip q))) 2 (nMap N np (fun q => rRoll (rShip q)) 2 + nSetups N np 0) 3 + nOver N np 0) (by decide)
    have hM2 := (hM.hd (nMap N np (fun q => rRoll (rShip q)) 2 + nSetups N np 0) (i := 2) (by decide)).hd (fu (nMap N np (fun q => rRoll (rShip q))) 2 (nMap N np (fun q => rRoll (rShip q)) 2 + nSetups N np 0) 3 + nOver N np 0) (i := 3) (by decide)
    have hs := hM2.2.2.2.1
    refine v_aload_n (q := 68) hX dX3_passWeek_67 rfl rfl rfl ?_
    refine v_dup (q := 69) hX rfl dX3_passWeek_68 rfl ?_
    refine w_getL (q := 72) hX fl_X3_67 rfl hK.1 dX3_passWeek_69 rfl ?_
    rw [h2.co]
    refine v_iload_n (q := 73) hX dX3_passWeek_72 rfl rfl rfl ?_
    refine v_i2l (q := 74) hX hr1 dX3_passWeek_73 rfl ?_
    refine v_aload_n (q := 75) hX dX3_passWeek_74 rfl rfl rfl ?_
    refine v_iconst (q := 76) hX dX3_passWeek_75 rfl ?_
    refine w_callV (q := 79) hX (c_X3_setting _ _ hK hR h2 5 (by decide) (j := 10) rfl) rfl kV_X3_setting rfl (by decide) lk_X3_70 (by decide) rfl hK.1 (Nat.le_of_ble_eq_true rfl) dX3_passWeek_76 rfl ?_
    refine v_i2l (q := 80) hX ⟨by omega, by omega⟩ dX3_passWeek_79 rfl ?_
    refine v_lmul (q := 81) hX dX3_passWeek_80 rfl ?_
    refine v_iload_n (q := 82) hX dX3_passWeek_81 rfl rfl rfl ?_
    refine v_i2l (q := 83) hX hr2 dX3_passWeek_82 rfl ?_
    refine v_aload_n (q := 84) hX dX3_passWeek_83 rfl rfl rfl ?_
    refine v_bipush (q := 86) hX (by decide) dX3_passWeek_84 rfl ?_
    refine w_callV (q := 89) hX (c_X3_setting _ _ hK hR h2 8 (by decide) (j := 13) rfl) rfl kV_X3_setting rfl (by decide) lk_X3_70 (by decide) rfl hK.1 (Nat.le_of_ble_eq_true rfl) dX3_passWeek_86 rfl ?_
    refine v_i2l (q := 90) hX ⟨by omega, by omega⟩ dX3_passWeek_89 rfl ?_
    refine v_lmul (q := 91) hX dX3_passWeek_90 rfl ?_
    refine v_ladd (q := 92) hX dX3_passWeek_91 rfl ?_
    refine v_aload_n (q := 93) hX dX3_passWeek_92 rfl rfl rfl ?_
    refine w_callV (q := 96) hX (c_X3_allStock _ _ hK hR h2 hM2) rfl kV_X3_allStock rfl (by decide) lk_X3_185 (by decide) rfl hK.1 (Nat.le_of_ble_eq_true rfl) dX3_passWeek_93 rfl ?_
    refine v_aload_n (q := 97) hX dX3_passWeek_96 rfl rfl rfl ?_
    refine v_bipush (q := 99) hX (by decide) dX3_passWeek_97 rfl ?_
    refine w_callV (q := 102) hX (c_X3_setting _ _ hK hR h2 6 (by decide) (j := 11) rfl) rfl kV_X3_setting rfl (by decide) lk_X3_70 (by decide) rfl hK.1 (Nat.le_of_ble_eq_true rfl) dX3_passWeek_99 rfl ?_
    refine v_i2l (q := 103) hX ⟨by omega, by omega⟩ dX3_passWeek_102 rfl ?_
    refine v_lmul (q := 104) hX dX3_passWeek_103 rfl ?_
    refine v_ladd (q := 105) hX dX3_passWeek_104 rfl ?_
    refine v_aload_n (q := 106) hX dX3_passWeek_105 rfl rfl rfl ?_
    refine w_callV (q := 109) hX (c_X3_allBacklog _ _ hK hR h2 hM2) rfl kV_X3_allBacklog rfl (by decide) lk_X3_189 (by decide) rfl hK.1 (Nat.le_of_ble_eq_true rfl) dX3_passWeek_106 rfl ?_
    refine v_aload_n (q := 110) hX dX3_passWeek_109 rfl rfl rfl ?_
    refine v_bipush (q := 112) hX (by decide) dX3_passWeek_110 rfl ?_
    refine w_callV (q := 115) hX (c_X3_setting _ _ hK hR h2 7 (by decide) (j := 12) rfl) rfl kV_X3_setting rfl (by decide) lk_X3_70 (by decide) rfl hK.1 (Nat.le_of_ble_eq_true rfl) dX3_passWeek_112 rfl ?_
    refine v_i2l (q := 116) hX ⟨by omega, by omega⟩ dX3_passWeek_115 rfl ?_
    refine v_lmul (q := 117) hX dX3_passWeek_116 rfl ?_
    refine v_ladd (q := 118) hX dX3_passWeek_117 rfl ?_
    refine v_ladd (q := 119) hX dX3_passWeek_118 rfl ?_
    refine w_putL (q := 122) hX fl_X3_67 rfl hK.1 dX3_passWeek_119 rfl ?_
    have h3 := h2.put 4 7 ((fu (fu (nMap N np (fun q => rRoll (rShip q))) 2 ((nMap N np (fun q => rRoll (rShip q))) 2 + nSetups N np 0)) 3 (fu (nMap N np (fun q => rRoll (rShip q))) 2 ((nMap N np (fun q => rRoll (rShip q))) 2 + nSetups N np 0) 3 + nOver N np 0)) 4 + (nSetups N np 0 * (fu (fu (nMap N np (fun q => rRoll (rShip q))) 2 ((nMap N np (fun q => rRoll (rShip q))) 2 + nSetups N np 0)) 3 (fu (nMap N np (fun q => rRoll (rShip q))) 2 ((nMap N np (fun q => rRoll (rShip q))) 2 + nSetups N np 0) 3 + nOver N np 0)) 10 + nOver N np 0 * (fu (fu (nMap N np (fun q => rRoll (rShip q))) 2 ((nMap N np (fun q => rRoll (rShip q))) 2 + nSetups N np 0)) 3 (fu (nMap N np (fun q => rRoll (rShip q))) 2 ((nMap N np (fun q => rRoll (rShip q))) 2 + nSetups N np 0) 3 + nOver N np 0)) 13 + nSum (fu (fu (nMap N np (fun q => rRoll (rShip q))) 2 ((nMap N np (fun q => rRoll (rShip q))) 2 + nSetups N np 0)) 3 (fu (nMap N np (fun q => rRoll (rShip q))) 2 ((nMap N np (fun q => rRoll (rShip q))) 2 + nSetups N np 0) 3 + nOver N np 0)) 4 np * (fu (fu (nMap N np (fun q => rRoll (rShip q))) 2 ((nMap N np (fun q => rRoll (rShip q))) 2 + nSetups N np 0)) 3 (fu (nMap N np (fun q => rRoll (rShip q))) 2 ((nMap N np (fun q => rRoll (rShip q))) 2 + nSetups N np 0) 3 + nOver N np 0)) 11 + nSum (fu (fu (nMap N np (fun q => rRoll (rShip q))) 2 ((nMap N np (fun q => rRoll (rShip q))) 2 + nSetups N np 0)) 3 (fu (nMap N np (fun q => rRoll (rShip q))) 2 ((nMap N np (fun q => rRoll (rShip q))) 2 + nSetups N np 0) 3 + nOver N np 0)) 5 np * (fu (fu (nMap N np (fun q => rRoll (rShip q))) 2 ((nMap N np (fun q => rRoll (rShip q))) 2 + nSetups N np 0)) 3 (fu (nMap N np (fun q => rRoll (rShip q))) 2 ((nMap N np (fun q => rRoll (rShip q))) 2 + nSetups N np 0) 3 + nOver N np 0)) 12)) (by decide)
    refine v_aload_n (q := 123) hX dX3_passWeek_122 rfl rfl rfl ?_
    refine v_dup (q := 124) hX rfl dX3_passWeek_123 rfl ?_
    refine w_getI (q := 127) hX fl_X3_57 rfl hK.1 dX3_passWeek_124 rfl ?_
    rw [h3.wk]
    refine v_iconst (q := 128) hX dX3_passWeek_127 rfl ?_
    refine v_iadd (q := 129) hX dX3_passWeek_128 rfl ?_
    refine w_putI (q := 132) hX fl_X3_57 rfl hK.1 dX3_passWeek_129 rfl ?_
    refine v_vreturn hX hRX rfl dX3_passWeek_132 rfl ?_
    refine ⟨rfl, rfl, (h3.put 0 4 _ (by decide)).cg (fun i hi h1 => ?_) (fun p hp i hi => ?_), ((((hf.put 5 _).put 6 _).put 7 _).put 4 _)⟩
    · exact pwk_h hi h1
    · exact pwk_p hp hi
  have L : ∀ k, k ≤ np → ∀ E : xD, CR E o (nMap N k (fun q => rRoll (rShip q))) np → frW o D E → xV γ 14 [some (.ref o), some (vi (nSetups N np 0)), some (vi (nOver N np 0)), some (vi (k : Nat)), none] [] (351, z) E r := by
    refine xup np (fun k hk ih E hE hf => ?_)
    refine v_iload_n (q := 15) hX dX3_passWeek_14 rfl rfl rfl ?_
    refine v_aload_n (q := 16) hX dX3_passWeek_15 rfl rfl rfl ?_
    refine w_getI (q := 19) hX fl_X3_45 rfl hK.1 dX3_passWeek_16 rfl ?_
    rw [hE.np]
    refine v_icmp_ge (q := 22) (tgt := 45) hX ⟨by omega, by omega⟩ ⟨by omega, by omega⟩ dX3_passWeek_19 (by decide) rfl (fun h19 => ?_) (fun h19 => ?_)
    · have hk2 : k = np := by omega
      subst hk2
      exact xVw (by repeat' first | exact trivial | refine And.intro rfl ?_) (K45 E hE hf)
    · refine v_aload_n (q := 23) hX dX3_passWeek_22 rfl rfl rfl ?_
      refine v_iload_n (q := 24) hX dX3_passWeek_23 rfl rfl rfl ?_
      refine w_callV (q := 27) hX (c_X3_productAt _ _ hK hR hE.np hO.np.2 (k) (by omega)) rfl kV_X3_productAt rfl (by decide) lk_X3_49 (by decide) rfl hK.1 (Nat.le_of_ble_eq_true rfl) dX3_passWeek_24 rfl ?_
      refine v_astore (q := 29) hX dX3_passWeek_27 (Nat.le_of_ble_eq_true rfl) (Nat.le_of_ble_eq_true rfl) rfl ?_
      dsimp only [xs1, xs2, xclr]
      refine v_aload (q := 31) hX dX3_passWeek_29 rfl rfl ?_
      refine v_ifnull (q := 34) hX dX3_passWeek_31 rfl ?_
      refine v_aload (q := 36) hX dX3_passWeek_34 rfl rfl ?_
      refine w_callVn (q := 39) hX (c_X2_passWeek E _ (hK.pk (p := k) (by omega)) (hR.pr (p := k) (by omega)) hO (p := k) (by omega) ((hE.pc (p := k) (by omega)).cg (fun i hi => (nMap_ge N (k := k) (fun q => rRoll (rShip q)) (Nat.le_refl _)).symm))) rfl kV_X2_passWeek rfl (by decide) lk_X3_182 (by decide) rfl (hK.pk (p := k) (by omega)).1 (Nat.le_of_ble_eq_true rfl) dX3_passWeek_36 rfl (fun D1 hD1 => ?_)
      obtain ⟨hD1, hD2⟩ := hD1
      refine v_iinc (q := 42) hX dX3_passWeek_39 rfl (Nat.le_of_ble_eq_true rfl) (Nat.le_of_ble_eq_true rfl) rfl ?_
      dsimp only [xs1, xs2, xclr]
      refine v_goto (tgt := 14) hX dX3_passWeek_42 (by decide) ?_
      exact xVw (by repeat' first | exact trivial | refine And.intro rfl ?_) (ih (by omega) _ (hE.upd hD2 (hD1.cg (fun i hi => by rw [nMap_at _ _ (Nat.lt_succ_self k) hi, nUpd_at _ _ _ hi])) (fun i hi _ => by rw [nMap_hd _ _ _ hi, nMap_hd _ _ _ hi]) (fun p hp hpk i hi => by rw [← nMap_succ, nUpd_ne _ _ hpk hi])) (hf.trans (hD2.frW (by omega))))
  refine v_aload_n (q := 1) hX dX3_passWeek_0 rfl rfl rfl ?_
  refine v_iconst (q := 2) hX dX3_passWeek_1 rfl ?_
  refine w_callV (q := 5) hX (c_X3_setupsIn _ _ hK hR hC hO 0 (by decide)) rfl kV_X3_setupsIn rfl (by decide) lk_X3_176 (by decide) rfl hK.1 (Nat.le_of_ble_eq_true rfl) dX3_passWeek_2 rfl ?_
  refine v_istore_n (q := 6) hX dX3_passWeek_5 rfl (Nat.le_of_ble_eq_true rfl) (Nat.le_of_ble_eq_true rfl) rfl ?_
  dsimp only [xs1, xs2, xclr]
  refine v_aload_n (q := 7) hX dX3_passWeek_6 rfl rfl rfl ?_
  refine v_iconst (q := 8) hX dX3_passWeek_7 rfl ?_
  refine w_callV (q := 11) hX (c_X3_overtimeIn _ _ hK hR hC hO 0 (by decide)) rfl kV_X3_overtimeIn rfl (by decide) lk_X3_179 (by decide) rfl hK.1 (Nat.le_of_ble_eq_true rfl) dX3_passWeek_8 rfl ?_
  refine v_istore_n (q := 12) hX dX3_passWeek_11 rfl (Nat.le_of_ble_eq_true rfl) (Nat.le_of_ble_eq_true rfl) rfl ?_
  dsimp only [xs1, xs2, xclr]
  refine v_iconst (q := 13) hX dX3_passWeek_12 rfl ?_
  refine v_istore_n (q := 14) hX dX3_passWeek_13 rfl (Nat.le_of_ble_eq_true rfl) (Nat.le_of_ble_eq_true rfl) rfl ?_
  dsimp only [xs1, xs2, xclr]
  exact L 0 (Nat.zero_le _) D (by rw [nMap_0]; exact hC) (frW.refl o D)


