/-! ===== the law: its start ===== -/
theorem N0_nV : nV 50000 0 (N0k 4) := by
  have e : ∀ i, 5 ≤ i → i < 14 → N0k 4 i = xst 3 (i - 5) := fun i h1 h2 => if_pos ⟨h1, h2⟩
  refine ⟨⟨⟨by decide, by decide⟩, rfl, by decide, ⟨?_, ?_, ?_, ?_, ?_, ?_, ?_, ?_, ?_⟩, fun f hf => ?_, fun p hp => absurd hp (by omega)⟩, fun p hp => absurd hp (by omega)⟩
  · rw [e 5 (by decide) (by decide)]; decide
  · rw [e 6 (by decide) (by decide)]; decide
  · rw [e 7 (by decide) (by decide)]; decide
  · rw [e 8 (by decide) (by decide)]; decide
  · rw [e 9 (by decide) (by decide)]; decide
  · rw [e 10 (by decide) (by decide)]; decide
  · rw [e 11 (by decide) (by decide)]; decide
  · rw [e 12 (by decide) (by decide)]; decide
  · rw [e 13 (by decide) (by decide)]; decide
  · have : N0k 4 (14 + f) = 5 := by unfold N0k; rw [if_neg (by omega), if_pos (by omega)]
    rw [this]; decide
theorem N0_tz : tz (N0k 4) := fun i hi => by unfold N0k; rw [if_neg (by omega), if_neg (by omega)]
theorem law_J0 {D1 D2 : xD} {r1 r2 : xR} (h1 : X4s (fun _ _ => 0) D1 r1 (fun _ _ => none)) (h2 : ∀ c, c < 2 → r1 281 c = some (283 + 34 * c) ∧ WR (283 + 34 * c) r1) (h3 : mdN0 D1 D2 4) (h4 : xRM r2) (h5 : ∀ a, a ≠ 351 → r2 a = r1 a) : JI D2 r2 (50000 + 4100000 * ((0 : Nat) : Int)) := by
  obtain ⟨k1, k2, k3, k4, ⟨w5, w39, sg, st, wh⟩, g0, g1, g2, g3, g4, g5⟩ := h1
  obtain ⟨m1, m2⟩ := h3
  have z : ∀ a, a ≠ 352 → a ≠ 6 ∧ a ≠ 7 → a ≠ 40 ∧ a ≠ 41 → (a < 77 ∨ 351 ≤ a ∨ a = 281 ∨ a = 282) → D2 a = fun _ => 0 := fun a h x y w => (m2 a h).trans (k1 a x y w)
  have eR : ∀ o, o + 34 ≤ 351 → ∀ a, o ≤ a → a < o + 34 → r2 a = r1 a := fun o ho a ha hb => h5 a (by omega)
  have z5 := z 5 (by decide) (by decide) (by decide) (by decide)
  have z73 := z 73 (by decide) (by decide) (by decide) (by decide)
  have z74 := z 74 (by decide) (by decide) (by decide) (by decide)
  have z75 := z 75 (by decide) (by decide) (by decide) (by decide)
  have z282 := z 282 (by decide) (by decide) (by decide) (by decide)
  have z351 := z 351 (by decide) (by decide) (by decide) (by decide)
  have z354 := z 354 (by decide) (by decide) (by decide) (by decide)
  have z355 := z 355 (by decide) (by decide) (by decide) (by decide)
  have hs0 := h2 0 (by decide)
  have hs1 := h2 1 (by decide)
  refine ⟨0, 0, 0, fun c => c, fun _ => 0, ⟨⟨w5.eq (eR 5 (by decide)), w39.eq (eR 39 (by decide)), fun i hi => (wh i hi).2.eq (eR _ (by omega)), hs0.2.eq (eR 283 (by decide)), hs1.2.eq (eR 317 (by decide))⟩, ⟨?_, ?_⟩, ⟨?_, ?_, ?_, ?_, ?_, ?_⟩, ⟨?_, ?_⟩, h4⟩, ?_, ?_, ?_, ?_, fun c hc => absurd hc (by omega), ?_, ?_, ⟨?_, ?_, ⟨by decide, fun i hi => absurd hi (by omega)⟩, ?_⟩, fun a ha => Or.inl ⟨?_, ?_⟩⟩
  · rw [h5 73 (by decide)]; exact sg
  · rw [h5 75 (by decide)]; exact st
  · rw [h5 4 (by decide)]; exact g0
  · rw [h5 4 (by decide)]; exact g1
  · rw [h5 4 (by decide)]; exact g2
  · rw [h5 4 (by decide)]; exact g3
  · rw [h5 4 (by decide)]; exact g4
  · rw [h5 4 (by decide)]; exact g5
  · rw [h5 281 (by decide)]; exact hs0.1
  · rw [h5 281 (by decide)]; exact hs1.1
  · rw [m1]; exact ⟨N0_nV, by decide, by decide⟩
  · rw [m1]; exact N0_tz
  · rw [m1]
    refine ⟨by rw [z5]; rfl, by rw [z5]; rfl, by rw [z5]; rfl, by rw [z5]; rfl, by rw [z5]; rfl, fun i hi => ?_, fun f hf => ?_, fun p hp => absurd hp (by omega)⟩
    · rw [m2 (5 + 1) (by decide)]
      refine (k2 i hi).trans ?_
      unfold N0k
      rw [if_pos (by omega), show 5 + i - 5 = i by omega]
    · rw [m2 (5 + 2) (by decide)]
      refine (k3 f hf).trans ?_
      unfold N0k
      rw [if_neg (by omega), if_pos (by omega)]
  · refine ⟨fun c hc => ⟨hc, ?_, fun d hd e => e⟩, by rw [z75]; rfl, by decide, fun c hc => absurd hc (by omega)⟩
    rw [h5 76 (by decide)]; exact (wh c hc).1
  · rw [z75]
  · rw [z351]; rfl
  · rw [z73]; rfl
  · rw [z351]; rfl
  · rw [z74, z355]
  · rw [z282]
  · rw [z354]
