/-! READING: what a line of a ring tells -/
theorem fy_ring {D E D' E' : Nat → Nat → Int32} {C C' : Nat → Nat} {x y z : Nat} (h : qFy D E C) (hd0 : C 0 ≠ 0) (h6 : C 6 < 8) (hx : x < C 5) (hy : y < C 3) (hz : z < C 0) (cC : C' 6 = C 6 + 1) (cO : ∀ k, k ≠ 6 → C' k = C k) (hD : ∀ k, k ≠ 0 → k ≠ 10 → k ≠ 11 → k ≠ 12 → D' k = D k) (hE : ∀ k, k ≠ 0 → k ≠ 11 → k ≠ 12 → k ≠ 13 → E' k = E k) (d0 : ∀ k, k ≠ 6 → D' 0 k = D 0 k) (d6 : D' 0 6 = w (C 6 + 1)) (e0 : ∀ k, k ≠ 6 → E' 0 k = E 0 k) (e6 : E' 0 6 = w (C 6 + 1)) (d10 : ∀ i, D' 10 i = if i = C 6 then w x else D 10 i) (d11 : ∀ i, D' 11 i = if i = C 6 then w y else D 11 i) (d12 : ∀ i, D' 12 i = if i = C 6 then w z else D 12 i) (e11 : ∀ i, E' 11 i = if i = C 6 then w x else E 11 i) (e12 : ∀ i, E' 12 i = if i = C 6 then w y else E 12 i) (e13 : ∀ i, E' 13 i = if i = C 6 then w z else E 13 i) : qFy D' E' C' := by
  obtain ⟨⟨w1, w2, w3, w4, w5, w6⟩, u1, u2, u3, u4, u5, u6, u7, u8, u9⟩ := h
  have gD : ∀ k, (k ≠ 0 ∧ k < 10) ∨ 12 < k → D' k = D k := fun k a => hD k (by omega) (by omega) (by omega) (by omega)
  have gE : ∀ k, (k ≠ 0 ∧ k < 11) ∨ 13 < k → E' k = E k := fun k a => hE k (by omega) (by omega) (by omega) (by omega)
  have hdeg : q_deg D' 8 = q_deg D 8 := by
    funext a
    unfold q_deg
    rw [gD 2 (by omega)]
  have hrt : ∀ S h x k g, qRt D' S h x k g ↔ qRt D S h x k g := fun S h x k g => by unfold qRt; rw [gD 2 (by omega)]
  refine ⟨⟨fun k hk => ?_, fun k hk => ?_, ?_, ?_, fun e => ?_, ?_⟩, fun i hi => ?_, ⟨fun i hi => ?_, ?_⟩, fun u hu => ?_, ⟨?_, ?_⟩, fun r hr => ?_, fun o ho => ?_, fun d hd => ?_, ⟨fun k hk => ?_, fun o ho d hd => ?_⟩, fun i hi => ?_⟩
  · by_cases c : k = 6
    · rw [c, d6, cC]; exact ⟨rfl, h6⟩
    · rw [d0 k c, cO k c]; exact w1 k hk
  · by_cases c : k = 6
    · rw [c, e6, cC]
    · rw [e0 k c, cO k c]; exact w2 k hk
  · rw [e0 11 (by omega), cO 10 (by omega)]; exact w3
  · rw [e0 12 (by omega), cO 11 (by omega)]; exact w4
  · rw [cO 0 (by omega)] at e; exact absurd e hd0
  · rw [cO 0 (by omega)]; exact w6
  · rw [cO 3 (by omega)] at hi
    rw [gD 1 (by omega), gE 1 (by omega)]; exact u1 i hi
  · rw [gD 2 (by omega), gD 3 (by omega), gE 2 (by omega), gE 3 (by omega)]; exact u2.1 i hi
  · rw [hdeg, cO 4 (by omega)]; exact u2.2
  · rw [cO 5 (by omega)] at hu
    obtain ⟨c1, c2, h, c3, c4, c5, c6, ⟨k, g, c7, c8⟩, c9, c10⟩ := u3 u hu
    rw [gD 4 (by omega), gD 5 (by omega), gD 6 (by omega), gD 7 (by omega), gD 8 (by omega), gD 9 (by omega), gE 4 (by omega), gE 5 (by omega), gE 6 (by omega), gE 7 (by omega), gE 8 (by omega), gE 9 (by omega), gE 10 (by omega), cO 3 (by omega), cO 0 (by omega)]
    exact ⟨c1, c2, h, c3, c4, c5, c6, ⟨k, g, (hrt _ _ _ _ _).mpr c7, c8⟩, c9, c10⟩
  · rw [cO 5 (by omega), gD 7 (by omega), gD 8 (by omega), gD 9 (by omega), gE 8 (by omega)]; exact u4.1
  · rw [gD 9 (by omega), gD 7 (by omega), cO 7 (by omega), cO 12 (by omega)]; exact u4.2
  · rw [cC] at hr
    rw [d10, d11, d12, e11, e12, e13, cO 5 (by omega), cO 3 (by omega), cO 0 (by omega)]
    by_cases c : r = C 6
    · simp only [c, if_true]
      exact ⟨x, y, z, rfl, hx, rfl, hy, rfl, hz, rfl, rfl, rfl⟩
    · simp only [c, if_false]
      exact u5 r (by omega)
  · rw [cO 8 (by omega)] at ho
    rw [gD 13 (by omega), gE 14 (by omega), cO 3 (by omega)]
    exact u6 o ho
  · rw [gD 15 (by omega), e0 10 (by omega), cO 0 (by omega)]
    exact u7 d hd
  · rw [cO 9 (by omega)] at hk
    rw [gE 15 (by omega), gE 16 (by omega), gE 17 (by omega), cO 8 (by omega), cO 0 (by omega)]
    exact u8.1 k hk
  · rw [gD 14 (by omega), cO 9 (by omega), gE 15 (by omega), gE 16 (by omega), gE 17 (by omega)]
    exact u8.2 o ho d hd
  · rw [cO 11 (by omega)] at hi
    rw [gD 16 (by omega), gD 17 (by omega), gD 18 (by omega), gE 18 (by omega), gE 19 (by omega), gE 20 (by omega)]
    exact u9 i hi
