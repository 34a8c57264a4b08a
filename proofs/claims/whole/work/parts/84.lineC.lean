/-! READING: the line of a stop, both sides -/
theorem nk_mono {S U O S' U' O' : Nat} (h1 : S ≤ S') (h2 : U ≤ U') (h3 : O ≤ O') {a b v : Int32} (h : qNk S U O a b v) : qNk S' U' O' a b v := by
  rcases h with ⟨x, y, z, e1, e2⟩ | ⟨x, y, z, e1, e2⟩ | ⟨x, y, z, e1, e2⟩
  · exact Or.inl ⟨x, y, z, by omega, e2⟩
  · exact Or.inr (Or.inl ⟨x, y, z, by omega, e2⟩)
  · exact Or.inr (Or.inr ⟨x, y, z, by omega, e2⟩)
theorem fy_row1 {D E D' : Nat → Nat → Int32} {C : Nat → Nat} (h : qFy D E C) (hD : ∀ k, k ≠ 1 → D' k = D k) (h1 : ∀ i, i < C 3 → D' 1 i = D 1 i) : qFy D' E C := by
  obtain ⟨a1, a2, a3, a4, a5, a6, a7, a8, a9, b1⟩ := h
  have hdeg : q_deg D' 8 = q_deg D 8 := by
    funext a
    unfold q_deg
    rw [hD 2 (by omega)]
  have hrt : ∀ S h x k g, qRt D' S h x k g ↔ qRt D S h x k g := fun S h x k g => by unfold qRt; rw [hD 2 (by omega)]
  refine ⟨?_, fun i hi => ?_, ?_, fun u hu => ?_, ?_, ?_, ?_, ?_, ?_, ?_⟩
  · rw [hD 0 (by omega)]; exact a1
  · rw [h1 i hi]; exact a2 i hi
  · rw [hdeg, hD 2 (by omega), hD 3 (by omega)]; exact a3
  · obtain ⟨c1, c2, h, c3, c4, c5, c6, ⟨k, g, c7, c8⟩, c9⟩ := a4 u hu
    rw [hD 4 (by omega), hD 5 (by omega), hD 6 (by omega), hD 7 (by omega), hD 8 (by omega), hD 9 (by omega)]
    exact ⟨c1, c2, h, c3, c4, c5, c6, ⟨k, g, (hrt _ _ _ _ _).mpr c7, c8⟩, c9⟩
  · rw [hD 7 (by omega), hD 8 (by omega), hD 9 (by omega)]; exact a5
  · rw [hD 10 (by omega), hD 11 (by omega), hD 12 (by omega)]; exact a6
  · rw [hD 13 (by omega)]; exact a7
  · rw [hD 15 (by omega)]; exact a8
  · rw [hD 14 (by omega)]; exact a9
  · rw [hD 16 (by omega), hD 17 (by omega), hD 18 (by omega)]; exact b1
theorem rt_mono {D : Nat → Nat → Int32} {S S' h k : Nat} {x : Int32} {g : Nat → Nat} (hS : S ≤ S') (hr : qRt D S h x k g) : qRt D S' h x k g := by
  obtain ⟨a1, a2, a3, a4⟩ := hr
  exact ⟨a1, a2, fun i hi => by have := a3 i hi; omega, a4⟩
theorem fy_stop {D E D' E' : Nat → Nat → Int32} {C C' : Nat → Nat} {v : Nat} (h : qFy D E C) (h8 : C 3 < 8) (hv : v ≤ 2) (hd0 : C 0 ≠ 0) (cC : C' 3 = C 3 + 1) (cO : ∀ k, k ≠ 3 → C' k = C k) (hD : ∀ k, k ≠ 0 → D' k = D k) (hE : ∀ k, k ≠ 0 → k ≠ 1 → k < 21 → E' k = E k) (d0 : ∀ k, k ≠ 3 → D' 0 k = D 0 k) (d3 : D' 0 3 = w (C 3 + 1)) (e0 : ∀ k, k ≠ 3 → k ≠ 13 → E' 0 k = E 0 k) (e3 : E' 0 3 = w (C 3 + 1)) (d1 : D 1 (C 3) = w v) (e1 : E' 1 (C 3) = w v) (e1' : ∀ i, i ≠ C 3 → E' 1 i = E 1 i) : qFy D' E' C' := by
  obtain ⟨⟨w1, w2, w3, w4, w5, w6⟩, u1, u2, u3, u4, u5, u6, u7, u8, u9⟩ := h
  have hdeg : q_deg D' 8 = q_deg D 8 := by
    funext a
    unfold q_deg
    rw [hD 2 (by omega)]
  have hrt : ∀ S h x k g, qRt D' S h x k g ↔ qRt D S h x k g := fun S h x k g => by unfold qRt; rw [hD 2 (by omega)]
  refine ⟨⟨fun k hk => ?_, fun k hk => ?_, ?_, ?_, fun e => ?_, ?_⟩, fun i hi => ?_, ⟨fun i hi => ?_, ?_⟩, fun u hu => ?_, ⟨?_, ?_⟩, fun r hr => ?_, fun o ho => ?_, fun d hd => ?_, ⟨fun k hk => ?_, fun o ho d hd => ?_⟩, fun i hi => ?_⟩
  · by_cases c : k = 3
    · rw [c, d3, cC]; exact ⟨rfl, h8⟩
    · rw [d0 k c, cO k c]; exact w1 k hk
  · by_cases c : k = 3
    · rw [c, e3, cC]
    · rw [e0 k c (by omega), cO k c]; exact w2 k hk
  · rw [e0 11 (by omega) (by omega), cO 10 (by omega)]; exact w3
  · rw [e0 12 (by omega) (by omega), cO 11 (by omega)]; exact w4
  · rw [cO 0 (by omega)] at e; exact absurd e hd0
  · rw [cO 0 (by omega)]; exact w6
  · rw [cC] at hi
    rw [hD 1 (by omega)]
    by_cases c : i = C 3
    · rw [c, d1, e1]; exact ⟨rfl, v, rfl, hv⟩
    · rw [e1' i c]; exact u1 i (by omega)
  · rw [hD 2 (by omega), hD 3 (by omega), hE 2 (by omega) (by omega) (by omega), hE 3 (by omega) (by omega) (by omega)]; exact u2.1 i hi
  · rw [hdeg, cO 4 (by omega)]; exact u2.2
  · rw [cO 5 (by omega)] at hu
    obtain ⟨c1, c2, h, c3, c4, c5, c6, ⟨k, g, c7, c8⟩, c9, c10⟩ := u3 u hu
    rw [hD 4 (by omega), hD 5 (by omega), hD 6 (by omega), hD 7 (by omega), hD 8 (by omega), hD 9 (by omega), hE 4 (by omega) (by omega) (by omega), hE 5 (by omega) (by omega) (by omega), hE 6 (by omega) (by omega) (by omega), hE 7 (by omega) (by omega) (by omega), hE 8 (by omega) (by omega) (by omega), hE 9 (by omega) (by omega) (by omega), hE 10 (by omega) (by omega) (by omega), cC, cO 0 (by omega)]
    refine ⟨c1, c2, h, c3, by omega, c5, c6, ⟨k, g, (hrt _ _ _ _ _).mpr (rt_mono (by omega) c7), c8⟩, c9, c10.imp id fun ⟨a, b1, b2⟩ => ⟨a, b1, by omega⟩⟩
  · rw [cO 5 (by omega), hD 7 (by omega), hD 8 (by omega), hD 9 (by omega), hE 8 (by omega) (by omega) (by omega)]; exact u4.1
  · rw [hD 9 (by omega), hD 7 (by omega), cO 7 (by omega), cO 12 (by omega)]; exact u4.2
  · rw [cO 6 (by omega)] at hr
    obtain ⟨u, a, d, q1, q2, q3, q4, q5, q6, q7⟩ := u5 r hr
    rw [hD 10 (by omega), hD 11 (by omega), hD 12 (by omega), hE 11 (by omega) (by omega) (by omega), hE 12 (by omega) (by omega) (by omega), hE 13 (by omega) (by omega) (by omega), cO 5 (by omega), cO 0 (by omega), cC]
    exact ⟨u, a, d, q1, q2, q3, by omega, q5, q6, q7⟩
  · rw [cO 8 (by omega)] at ho
    obtain ⟨a, q1, q2, q3⟩ := u6 o ho
    rw [hD 13 (by omega), hE 14 (by omega) (by omega) (by omega), cC]
    exact ⟨a, q1, by omega, q3⟩
  · rw [hD 15 (by omega), e0 10 (by omega) (by omega), cO 0 (by omega)]; exact u7 d hd
  · rw [cO 9 (by omega)] at hk
    rw [hE 15 (by omega) (by omega) (by omega), hE 16 (by omega) (by omega) (by omega), hE 17 (by omega) (by omega) (by omega), cO 8 (by omega), cO 0 (by omega)]
    exact u8.1 k hk
  · rw [hD 14 (by omega), cO 9 (by omega), hE 15 (by omega) (by omega) (by omega), hE 16 (by omega) (by omega) (by omega), hE 17 (by omega) (by omega) (by omega)]
    exact u8.2 o ho d hd
  · rw [cO 11 (by omega)] at hi
    rw [hD 16 (by omega), hD 17 (by omega), hD 18 (by omega), hE 18 (by omega) (by omega) (by omega), hE 19 (by omega) (by omega) (by omega), hE 20 (by omega) (by omega) (by omega)]
    exact u9 i hi
/-- what the reference has once a name is kept -/
def q_mI (J : qI) (f c : Nat) (k v : Int32) : qI := q_up (q_up (q_up J (f + 22) (q_set (J (f + 22)) c k)) (f + 23) (q_set (J (f + 23)) c v)) f (q_set (J f) 13 (w (c + 1)))
def q_mK (K : qL) (f c : Nat) (x : Int64) : qL := q_upl K (f + 21) (q_setl (K (f + 21)) c x)
theorem m214 {s2 : qS} {J : qI} {K : qL} {f c : Nat} (hm : qMo s2 240) (h4 : qr s2 240 4 = f) (hf : qMf s2 f) (h0 : f ≠ 0) (hc : c < 20) (h13 : J f 13 = w c) (x : Int64) (k v : Int32) : jD 214 [.ref 240, .long x, .int k, .int v] (J, K, s2) = some (none, q_mI J f c k v, q_mK K f c x, s2) := by
  have e1 : ∀ g, q_up J (f + 22) g f = J f := fun g => q_up_ne (by omega)
  have e2 : ∀ g g', q_up (q_up J (f + 22) g) (f + 23) g' f = J f := fun g g' => by rw [q_up_ne (by omega), q_up_ne (by omega)]
  have e3 : ∀ g, q_up J (f + 22) g (f + 23) = J (f + 23) := fun g => q_up_ne (by omega)
  rw [D_214, E_214_0]
  simp only [↓reduceIte, q_i, q_l, q_k, q_r, q_z, q_si, q_sl, jx_lt, jx_ri, jx_rl, jx_rv, if_true, if_false, Nat.reduceLeDiff, Nat.add_one_ne_zero, and_self, true_or, or_true, Nat.reduceEqDiff, or_self, or_false, false_or, mo_k hm, h4, h0, mf_k hf, mf_r34 hf, mf_k34 hf, mf_z34 hf, mf_r35 hf, mf_k35 hf, mf_z35 hf, mf_r36 hf, mf_k36 hf, mf_z36 hf, Nat.add_eq_zero_iff, h13, w_nn (a := c) (by omega), show ¬ 20 ≤ c by omega, w_tc (a := c) (by omega), e1, e2, e3, w_inc, and_false]
  rfl
