/-! READING: the line of a wind -/
theorem fy_wind {D E D' E' : Nat → Nat → Int32} {C C' : Nat → Nat} {x y z : Nat} (h : qFy D E C) (hd0 : C 0 ≠ 0) (h11 : C 11 < 6) (hx : x ≤ 100) (hy : y ≤ 99) (hz : z ≤ 99) (cC : C' 11 = C 11 + 1) (cO : ∀ k, k ≠ 11 → C' k = C k) (hD : ∀ k, k ≠ 0 → k ≠ 16 → k ≠ 17 → k ≠ 18 → D' k = D k) (hE : ∀ k, k ≠ 0 → k ≠ 18 → k ≠ 19 → k ≠ 20 → E' k = E k) (d0 : ∀ k, k ≠ 11 → D' 0 k = D 0 k) (d11 : D' 0 11 = w (C 11 + 1)) (e0 : ∀ k, k ≠ 12 → E' 0 k = E 0 k) (e12 : E' 0 12 = w (C 11 + 1)) (d16 : ∀ i, D' 16 i = if i = C 11 then w x else D 16 i) (d17 : ∀ i, D' 17 i = if i = C 11 then w y else D 17 i) (d18 : ∀ i, D' 18 i = if i = C 11 then w z else D 18 i) (e18 : ∀ i, E' 18 i = if i = C 11 then w x else E 18 i) (e19 : ∀ i, E' 19 i = if i = C 11 then w y else E 19 i) (e20 : ∀ i, E' 20 i = if i = C 11 then w z else E 20 i) : qFy D' E' C' := by
  obtain ⟨⟨w1, w2, w3, w4, w5, w6⟩, u1, u2, u3, u4, u5, u6, u7, u8, u9⟩ := h
  have gD : ∀ k, k < 19 → k ≠ 0 ∧ k < 16 → D' k = D k := fun k _ a => hD k a.1 (by omega) (by omega) (by omega)
  have gE : ∀ k, k ≠ 0 ∧ k < 18 → E' k = E k := fun k a => hE k a.1 (by omega) (by omega) (by omega)
  have hdeg : q_deg D' 8 = q_deg D 8 := by
    funext a
    unfold q_deg
    rw [gD 2 (by omega) (by omega)]
  have hrt : ∀ S h x k g, qRt D' S h x k g ↔ qRt D S h x k g := fun S h x k g => by unfold qRt; rw [gD 2 (by omega) (by omega)]
  refine ⟨⟨fun k hk => ?_, fun k hk => ?_, ?_, ?_, fun e => ?_, ?_⟩, fun i hi => ?_, ⟨fun i hi => ?_, ?_⟩, fun u hu => ?_, ⟨?_, ?_⟩, fun r hr => ?_, fun o ho => ?_, fun d hd => ?_, ⟨fun k hk => ?_, fun o ho d hd => ?_⟩, fun i hi => ?_⟩
  · by_cases c : k = 11
    · rw [c, d11, cC]; exact ⟨rfl, h11⟩
    · rw [d0 k c, cO k c]; exact w1 k hk
  · rw [e0 k (by omega), cO k (by omega)]; exact w2 k hk
  · rw [e0 11 (by omega), cO 10 (by omega)]; exact w3
  · rw [e12, cC]
  · rw [cO 0 (by omega)] at e; exact absurd e hd0
  · rw [cO 0 (by omega)]; exact w6
  · rw [cO 3 (by omega)] at hi
    rw [gD 1 (by omega) (by omega), gE 1 (by omega)]; exact u1 i hi
  · rw [gD 2 (by omega) (by omega), gD 3 (by omega) (by omega), gE 2 (by omega), gE 3 (by omega)]; exact u2.1 i hi
  · rw [hdeg, cO 4 (by omega)]; exact u2.2
  · rw [cO 5 (by omega)] at hu
    obtain ⟨c1, c2, h, c3, c4, c5, c6, ⟨k, g, c7, c8⟩, c9, c10⟩ := u3 u hu
    rw [gD 4 (by omega) (by omega), gD 5 (by omega) (by omega), gD 6 (by omega) (by omega), gD 7 (by omega) (by omega), gD 8 (by omega) (by omega), gD 9 (by omega) (by omega), gE 4 (by omega), gE 5 (by omega), gE 6 (by omega), gE 7 (by omega), gE 8 (by omega), gE 9 (by omega), gE 10 (by omega), cO 3 (by omega), cO 0 (by omega)]
    exact ⟨c1, c2, h, c3, c4, c5, c6, ⟨k, g, (hrt _ _ _ _ _).mpr c7, c8⟩, c9, c10⟩
  · rw [cO 5 (by omega), gD 7 (by omega) (by omega), gD 8 (by omega) (by omega), gD 9 (by omega) (by omega), gE 8 (by omega)]; exact u4.1
  · rw [gD 9 (by omega) (by omega), gD 7 (by omega) (by omega), cO 7 (by omega), cO 12 (by omega)]; exact u4.2
  · rw [cO 6 (by omega)] at hr
    rw [gD 10 (by omega) (by omega), gD 11 (by omega) (by omega), gD 12 (by omega) (by omega), gE 11 (by omega), gE 12 (by omega), gE 13 (by omega), cO 5 (by omega), cO 0 (by omega), cO 3 (by omega)]
    exact u5 r hr
  · rw [cO 8 (by omega)] at ho
    rw [gD 13 (by omega) (by omega), gE 14 (by omega), cO 3 (by omega)]
    exact u6 o ho
  · rw [gD 15 (by omega) (by omega), e0 10 (by omega), cO 0 (by omega)]
    exact u7 d hd
  · rw [cO 9 (by omega)] at hk
    rw [gE 15 (by omega), gE 16 (by omega), gE 17 (by omega), cO 8 (by omega), cO 0 (by omega)]
    exact u8.1 k hk
  · rw [gD 14 (by omega) (by omega), cO 9 (by omega), gE 15 (by omega), gE 16 (by omega), gE 17 (by omega)]
    exact u8.2 o ho d hd
  · rw [cC] at hi
    rw [d16, d17, d18, e18, e19, e20]
    by_cases c : i = C 11
    · simp only [c, if_true]
      exact ⟨x, y, z, rfl, hx, rfl, hy, rfl, hz, rfl, rfl, rfl⟩
    · simp only [c, if_false]
      exact u9 i (by omega)
