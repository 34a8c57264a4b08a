/-! READING: a line's end, where names stay; what the lines tell -/
theorem qd_of {I J : qI} {t k : Nat} (h : k < 19 → I (t + 1 + 2 * k + 1) = J (t + 1 + 2 * k + 1)) : qd I t k = qd J t k := by
  unfold qd
  by_cases c : k < 19
  · rw [if_pos c, if_pos c, h c]
  · rw [if_neg c, if_neg c]
theorem qd_at {I : qI} {t k : Nat} (c : k < 19) : qd I t k = I (t + 1 + 2 * k + 1) := by
  unfold qd
  rw [if_pos c]
theorem me_of {J K : qI} {f k : Nat} (h : k < 24 → J (f + k) = K (f + k)) : qme J f k = qme K f k := by
  unfold qme
  by_cases c : k < 24
  · rw [if_pos c, if_pos c, h c]
  · rw [if_neg c, if_neg c]
theorem me_at {J : qI} {f k : Nat} (c : k < 24) : qme J f k = J (f + k) := by
  unfold qme
  rw [if_pos c]
theorem set_at {g : Nat → Int32} {c i : Nat} {v : Int32} : q_set g c v i = if i = c then v else g i := rfl
section PEnd
variable {s s2 : qS} {t f n : Nat} {b : Nat → Nat} {I0 J0 I J I' J' : qI} {L0 K0 L K : qL} {C C' : Nat → Nat}
theorem go_end (cx : qCx s s2 t f n b I0 J0) (h : qGo (qZp t f 0 C) t f n I0 L0 J0 K0 I L J K) (hI : ∀ a, ¬ (t ≤ a ∧ a < t + 39) → I' a = I a) (hJ : ∀ a, ¬ (f ≤ a ∧ a < f + 21) → J' a = J a) (h13 : J' f 13 = J f 13) (c3 : C' 3 = C 3) (c5 : C' 5 = C 5) (c8 : C' 8 = C 8) (hfy : qFy (qd I' t) (qme J' f) C') : qGo (qZp t f 0 C') t f n I0 L0 J0 K0 I' L J' K := by
  have ht : t = 101 ∨ t = 140 := cx.1.2.2.2.2.2.2.2.2.2.2.2.2.2.2
  refine go_put cx h hI (fun a ha => hJ a (by omega)) (fun a ha => rfl) ?_ ⟨?_, hfy⟩
  · obtain ⟨c, hc, e⟩ := h.1.2.2.2.2.2.2
    exact ⟨c, hc, by rw [h13]; exact e⟩
  · obtain ⟨n1, n2, n3, n4, n5⟩ := h.2.2.2.2.1
    rw [c3, c5, c8]
    refine ⟨n1, n2, ?_, ?_, fun i hi => ?_⟩
    · rw [hI 181 (by omega)]; exact n3
    · rw [h13]; exact n4
    · rw [hI (183 + 1) (by omega), hI (185 + 1) (by omega), hJ (f + 22) (by omega), hJ (f + 23) (by omega)]
      exact n5 i hi
end PEnd
/-! counts -/
theorem flt_up {p p' : Nat → Bool} {b : Nat} (h : ∀ k, k ≠ b → p' k = p k) (h0 : p b = false) (h1 : p' b = true) : ∀ n, ((List.range n).filter p').length = ((List.range n).filter p).length + (if b < n then 1 else 0) := by
  intro n
  induction n with
  | zero => rw [if_neg (Nat.not_lt_zero b)]; rfl
  | succ n ih =>
    rw [List.range_succ, List.filter_append, List.filter_append, List.length_append, List.length_append, ih]
    by_cases c : n = b
    · subst c
      rw [if_neg (Nat.lt_irrefl n), if_pos (Nat.lt_succ_self n)]
      simp [h0, h1]
    · have e : [n].filter p' = [n].filter p := by simp [List.filter, h n c]
      rw [e]
      by_cases c2 : b < n
      · rw [if_pos c2, if_pos (by omega)]; omega
      · rw [if_neg c2, if_neg (by omega)]; omega
theorem sum_up {g g' : Nat → Nat} {a : Nat} (h : ∀ k, k ≠ a → g' k = g k) (h1 : g' a = g a + 1) : ∀ n, q_sum g' n = q_sum g n + (if a < n then 1 else 0) := by
  intro n
  induction n with
  | zero => rw [if_neg (Nat.not_lt_zero a)]; rfl
  | succ n ih =>
    show q_sum g' n + g' n = q_sum g n + g n + _
    rw [ih]
    by_cases c : n = a
    · subst c
      rw [if_neg (Nat.lt_irrefl n), if_pos (Nat.lt_succ_self n), h1]; omega
    · rw [h n c]
      by_cases c2 : a < n
      · rw [if_pos c2, if_pos (by omega)]; omega
      · rw [if_neg c2, if_neg (by omega)]; omega
theorem cnt_up {c c' : Nat → Bool} {b : Nat} (h : ∀ k, k ≠ b → c' k = c k) (h0 : c b = false) (h1 : c' b = true) : ∀ n, q_cnt c' n = q_cnt c n + (if b < n then 1 else 0) := by
  intro n
  induction n with
  | zero => rw [if_neg (Nat.not_lt_zero b)]; rfl
  | succ n ih =>
    rw [cnt_succ, cnt_succ, ih]
    by_cases z : n = b
    · subst z
      rw [if_neg (Nat.lt_irrefl n), if_pos (Nat.lt_succ_self n), h0, h1]; rfl
    · rw [h n z]
      by_cases c2 : b < n
      · rw [if_pos c2, if_pos (show b < n + 1 by omega)]; omega
      · rw [if_neg c2, if_neg (show ¬ b < n + 1 by omega)]; omega
theorem deg_up {D D' : Nat → Nat → Int32} {a b p : Nat} (ha : a < 8) (hb : b < 8) (hp : p < 1000000) (hno : D 2 (8 * a + b) < 0) (d2 : ∀ i, D' 2 i = if i = 8 * a + b then w p else D 2 i) : q_sum (q_deg D' 8) 8 = q_sum (q_deg D 8) 8 + 1 := by
  have key : ∀ k, k < 8 → q_deg D' 8 k = q_deg D 8 k + (if k = a then 1 else 0) := fun k hk => by
    by_cases c : k = a
    · subst c
      have := flt_up (p := fun j => decide (¬ D 2 (8 * k + j) < 0)) (p' := fun j => decide (¬ D' 2 (8 * k + j) < 0)) (b := b) (fun j hj => by
        show decide (¬ D' 2 (8 * k + j) < 0) = decide (¬ D 2 (8 * k + j) < 0)
        rw [d2, if_neg (by omega)]) (decide_eq_false fun z => z hno) (by
        show decide (¬ D' 2 (8 * k + b) < 0) = true
        rw [d2, if_pos rfl]
        exact decide_eq_true (w_nn (by omega))) 8
      rw [if_pos hb] at this
      rw [if_pos rfl]
      exact this
    · rw [if_neg c]
      unfold q_deg
      rw [Nat.add_zero]
      refine congrArg List.length (List.filter_congr fun j hj => ?_)
      have hj8 := List.mem_range.mp hj
      rw [d2, if_neg (by omega)]
  rw [sum_congr (f := q_deg D' 8) (g := fun k => q_deg D 8 k + (if k = a then 1 else 0)) 8 key, sum_add]
  have : q_sum (fun k => if k = a then 1 else 0) 8 = 1 := by
    have h8 : a = 0 ∨ a = 1 ∨ a = 2 ∨ a = 3 ∨ a = 4 ∨ a = 5 ∨ a = 6 ∨ a = 7 := by omega
    rcases h8 with rfl | rfl | rfl | rfl | rfl | rfl | rfl | rfl <;> rfl
  rw [this]
theorem back_lt {D E : Nat → Nat → Int32} {C : Nat → Nat} {v : Nat} (h : qFy D E C) (hv : v < 6) (hn : D 9 v = -2) : C 7 < 6 := by
  have e := h.2.2.2.2.1.2.1
  have := cnt_up (c := fun u => decide (D 9 u ≠ -2)) (c' := fun u => decide (D 9 u ≠ -2) || decide (u = v)) (b := v) (fun k hk => by
    show (decide (D 9 k ≠ -2) || decide (k = v)) = decide (D 9 k ≠ -2)
    rw [decide_eq_false hk, Bool.or_false]) (by show decide (D 9 v ≠ -2) = false; rw [hn]; rfl) (by
    show (decide (D 9 v ≠ -2) || decide (v = v)) = true
    rw [decide_eq_true (rfl : v = v), Bool.or_true]) 6
  rw [if_pos hv] at this
  have h6 := cnt_le (c := fun u => decide (D 9 u ≠ -2) || decide (u = v)) 6
  omega
theorem fy_way {D E D' E' : Nat → Nat → Int32} {C C' : Nat → Nat} {a b p q : Nat} (h : qFy D E C) (hd0 : C 0 ≠ 0) (hl : C 4 < 14) (cC : C' 4 = C 4 + 1) (cO : ∀ k, k ≠ 4 → C' k = C k) (hD : ∀ k, k ≠ 0 ∧ k ≠ 2 ∧ k ≠ 3 → D' k = D k) (hE : ∀ k, k ≠ 0 ∧ k ≠ 2 ∧ k ≠ 3 → E' k = E k) (d0 : ∀ k, k ≠ 4 → D' 0 k = D 0 k) (dC : D' 0 4 = w (C 4 + 1)) (e0 : ∀ k, k ≠ 4 → E' 0 k = E 0 k) (eC : E' 0 4 = w (C 4 + 1)) (ha : a < 8) (hb : b < 8) (hp : p ≤ 9) (hq : q ≤ 50) (hno : D 2 (8 * a + b) < 0) (d2 : ∀ i, D' 2 i = if i = 8 * a + b then w p else D 2 i) (d3 : ∀ i, D' 3 i = if i = 8 * a + b then w q else D 3 i) (e2 : ∀ i, E' 2 i = if i = 8 * a + b then w p else E 2 i) (e3 : ∀ i, E' 3 i = if i = 8 * a + b then w q else E 3 i) : qFy D' E' C' := by
  obtain ⟨⟨w1, w2, w3, w4, w5, w6⟩, u1, u2, u3, u4, u5, u6, u7, u8, u9⟩ := h
  have hsum : q_sum (q_deg D' 8) 8 = q_sum (q_deg D 8) 8 + 1 := deg_up ha hb (show p < 1000000 by omega) hno d2
  have hmono : ∀ i, ¬ D 2 i < 0 → ¬ D' 2 i < 0 := fun i z => by
    rw [d2]
    by_cases c : i = 8 * a + b
    · rw [if_pos c]; exact w_nn (by omega)
    · rw [if_neg c]; exact z
  have hrt : ∀ S h x k g, qRt D S h x k g → qRt D' S h x k g := fun S h x k g ⟨z1, z2, z3, z4, z5⟩ => ⟨z1, z2, z3, fun z => hmono _ (z4 z), fun i z => hmono _ (z5 i z)⟩
  refine ⟨⟨fun k hk => ?_, fun k hk => ?_, ?_, ?_, fun e => ?_, ?_⟩, fun i hi => ?_, ⟨fun i hi => ?_, ?_⟩, fun u hu => ?_, ⟨?_, ?_⟩, fun r hr => ?_, fun o ho => ?_, fun d hd => ?_, ⟨fun k hk => ?_, fun o ho d hd => ?_⟩, fun i hi => ?_⟩
  · by_cases c : k = 4
    · rw [c, dC, cC]; exact ⟨rfl, by have : q_lim 4 = 14 := rfl; omega⟩
    · rw [d0 k c, cO k c]; exact w1 k hk
  · by_cases c : k = 4
    · rw [c, eC, cC]
    · rw [e0 k (by omega), cO k c]; exact w2 k hk
  · rw [e0 11 (by omega), cO 10 (by omega)]; exact w3
  · rw [e0 12 (by omega), cO 11 (by omega)]; exact w4
  · rw [cO 0 (by omega)] at e; exact absurd e hd0
  · rw [cO 0 (by omega)]; exact w6
  · rw [cO 3 (by omega)] at hi
    rw [hD 1 (by omega), hE 1 (by omega)]; exact u1 i hi
  · rw [d2, d3, e2, e3]
    by_cases c : i = 8 * a + b
    · simp only [c, if_true]
      exact Or.inr ⟨p, q, rfl, hp, rfl, hq, rfl, rfl⟩
    · simp only [c, if_false]
      exact u2.1 i hi
  · rw [hsum, cC, u2.2]
  · rw [cO 5 (by omega)] at hu
    obtain ⟨c1, c2, h, c3, c4, c5, c6, ⟨k, g, c7, c8⟩, c9, c10⟩ := u3 u hu
    rw [hD 4 (by omega), hD 5 (by omega), hD 6 (by omega), hD 7 (by omega), hD 8 (by omega), hD 9 (by omega), hE 4 (by omega), hE 5 (by omega), hE 6 (by omega), hE 7 (by omega), hE 8 (by omega), hE 9 (by omega), hE 10 (by omega), cO 3 (by omega), cO 0 (by omega)]
    exact ⟨c1, c2, h, c3, c4, c5, c6, ⟨k, g, hrt _ _ _ _ _ c7, c8⟩, c9, c10⟩
  · rw [cO 5 (by omega), hD 7 (by omega), hD 8 (by omega), hD 9 (by omega), hE 8 (by omega)]; exact u4.1
  · rw [hD 9 (by omega), hD 7 (by omega), cO 7 (by omega), cO 12 (by omega)]; exact u4.2
  · rw [cO 6 (by omega)] at hr
    rw [hD 10 (by omega), hD 11 (by omega), hD 12 (by omega), hE 11 (by omega), hE 12 (by omega), hE 13 (by omega), cO 5 (by omega), cO 0 (by omega), cO 3 (by omega)]; exact u5 r hr
  · rw [cO 8 (by omega)] at ho
    rw [hD 13 (by omega), hE 14 (by omega), cO 3 (by omega)]; exact u6 o ho
  · rw [hD 15 (by omega), e0 10 (by omega), cO 0 (by omega)]; exact u7 d hd
  · rw [cO 9 (by omega)] at hk
    rw [hE 15 (by omega), hE 16 (by omega), hE 17 (by omega), cO 8 (by omega), cO 0 (by omega)]; exact u8.1 k hk
  · rw [hD 14 (by omega), cO 9 (by omega), hE 15 (by omega), hE 16 (by omega), hE 17 (by omega)]; exact u8.2 o ho d hd
  · rw [cO 11 (by omega)] at hi
    rw [hD 16 (by omega), hD 17 (by omega), hD 18 (by omega), hE 18 (by omega), hE 19 (by omega), hE 20 (by omega)]; exact u9 i hi
theorem fy_back {D E D' E' : Nat → Nat → Int32} {C C' : Nat → Nat} {v a : Nat} (h : qFy D E C) (hd0 : C 0 ≠ 0) (hl : C 7 < 6) (cC : C' 7 = C 7 + 1) (cO : ∀ k, k ≠ 7 → C' k = C k) (hD : ∀ k, k ≠ 0 ∧ k ≠ 9 → D' k = D k) (hE : ∀ k, k ≠ 0 ∧ k ≠ 10 → E' k = E k) (d0 : ∀ k, k ≠ 7 → D' 0 k = D 0 k) (dC : D' 0 7 = w (C 7 + 1)) (e0 : ∀ k, k ≠ 7 → E' 0 k = E 0 k) (eC : E' 0 7 = w (C 7 + 1)) (hv : v < C 5) (ha : a < C 3) (hn : D 9 v = -2) (d9 : ∀ i, D' 9 i = if i = v then w a else D 9 i) (e10 : ∀ i, E' 10 i = if i = v then w a else E 10 i) : qFy D' E' C' := by
  obtain ⟨⟨w1, w2, w3, w4, w5, w6⟩, u1, u2, u3, u4, u5, u6, u7, u8, u9⟩ := h
  have hdeg : q_deg D' 8 = q_deg D 8 := by
    funext a
    unfold q_deg
    rw [hD 2 (by omega)]
  have hrt : ∀ S h x k g, qRt D S h x k g → qRt D' S h x k g := fun S h x k g z => by unfold qRt at z ⊢; rw [hD 2 (by omega)]; exact z
  refine ⟨⟨fun k hk => ?_, fun k hk => ?_, ?_, ?_, fun e => ?_, ?_⟩, fun i hi => ?_, ⟨fun i hi => ?_, ?_⟩, fun u hu => ?_, ⟨?_, ?_⟩, fun r hr => ?_, fun o ho => ?_, fun d hd => ?_, ⟨fun k hk => ?_, fun o ho d hd => ?_⟩, fun i hi => ?_⟩
  · by_cases c : k = 7
    · rw [c, dC, cC]; exact ⟨rfl, by have : q_lim 7 = 6 := rfl; omega⟩
    · rw [d0 k c, cO k c]; exact w1 k hk
  · by_cases c : k = 7
    · rw [c, eC, cC]
    · rw [e0 k (by omega), cO k c]; exact w2 k hk
  · rw [e0 11 (by omega), cO 10 (by omega)]; exact w3
  · rw [e0 12 (by omega), cO 11 (by omega)]; exact w4
  · rw [cO 0 (by omega)] at e; exact absurd e hd0
  · rw [cO 0 (by omega)]; exact w6
  · rw [cO 3 (by omega)] at hi
    rw [hD 1 (by omega), hE 1 (by omega)]; exact u1 i hi
  · rw [hD 2 (by omega), hD 3 (by omega), hE 2 (by omega), hE 3 (by omega)]; exact u2.1 i hi
  · rw [hdeg, cO 4 (by omega)]; exact u2.2
  · rw [cO 5 (by omega)] at hu
    obtain ⟨c1, c2, h, c3, c4, c5, c6, ⟨k0, g0, c7, c8⟩, c9, c10⟩ := u3 u hu
    rw [hD 4 (by omega), hD 5 (by omega), hD 6 (by omega), hD 7 (by omega), hD 8 (by omega), d9, hE 4 (by omega), hE 5 (by omega), hE 6 (by omega), hE 7 (by omega), hE 8 (by omega), hE 9 (by omega), e10, cO 3 (by omega), cO 0 (by omega)]
    refine ⟨c1, c2, h, c3, c4, c5, c6, ⟨k0, g0, hrt _ _ _ _ _ c7, c8⟩, ?_, ?_⟩
    · by_cases c : u = v
      · rw [if_pos c, if_pos c]
      · rw [if_neg c, if_neg c]; exact c9
    · by_cases c : u = v
      · rw [if_pos c]; exact Or.inr ⟨a, rfl, ha⟩
      · rw [if_neg c]; exact c10
  · rw [cO 5 (by omega)]
    intro u h1 h2
    rw [hD 7 (by omega), hD 8 (by omega), hE 8 (by omega), d9, if_neg (show ¬ u = v by omega)]
    exact u4.1 u h1 h2
  · have l5 : C 5 ≤ 6 := (w1 5 (by omega)).2
    have l3 : C 3 ≤ 8 := (w1 3 (by omega)).2
    have := cnt_up (c := fun u => decide (D 9 u ≠ -2)) (c' := fun u => decide (D' 9 u ≠ -2)) (b := v) (fun k hk => by show decide (D' 9 k ≠ -2) = decide (D 9 k ≠ -2); rw [d9, if_neg hk]) (by show decide (D 9 v ≠ -2) = false; rw [hn]; rfl) (by show decide (D' 9 v ≠ -2) = true; rw [d9, if_pos rfl]; exact decide_eq_true (w_m2 (by omega))) 6
    refine ⟨by rw [this, if_pos (by omega), u4.2.1, cC], ?_⟩
    rw [hD 7 (by omega), cO 12 (by omega)]; exact u4.2.2
  · rw [cO 6 (by omega)] at hr
    rw [hD 10 (by omega), hD 11 (by omega), hD 12 (by omega), hE 11 (by omega), hE 12 (by omega), hE 13 (by omega), cO 5 (by omega), cO 0 (by omega), cO 3 (by omega)]; exact u5 r hr
  · rw [cO 8 (by omega)] at ho
    rw [hD 13 (by omega), hE 14 (by omega), cO 3 (by omega)]; exact u6 o ho
  · rw [hD 15 (by omega), e0 10 (by omega), cO 0 (by omega)]; exact u7 d hd
  · rw [cO 9 (by omega)] at hk
    rw [hE 15 (by omega), hE 16 (by omega), hE 17 (by omega), cO 8 (by omega), cO 0 (by omega)]; exact u8.1 k hk
  · rw [hD 14 (by omega), cO 9 (by omega), hE 15 (by omega), hE 16 (by omega), hE 17 (by omega)]; exact u8.2 o ho d hd
  · rw [cO 11 (by omega)] at hi
    rw [hD 16 (by omega), hD 17 (by omega), hD 18 (by omega), hE 18 (by omega), hE 19 (by omega), hE 20 (by omega)]; exact u9 i hi
theorem fy_own {D E D' E' : Nat → Nat → Int32} {C C' : Nat → Nat} {a : Nat} (h : qFy D E C) (hd0 : C 0 ≠ 0) (hl : C 8 < 6) (cC : C' 8 = C 8 + 1) (cO : ∀ k, k ≠ 8 → C' k = C k) (hD : ∀ k, k ≠ 0 ∧ k ≠ 13 → D' k = D k) (hE : ∀ k, k ≠ 0 ∧ k ≠ 14 ∧ k < 21 → E' k = E k) (d0 : ∀ k, k ≠ 8 → D' 0 k = D 0 k) (dC : D' 0 8 = w (C 8 + 1)) (e0 : ∀ k, k ≠ 8 ∧ k ≠ 13 → E' 0 k = E 0 k) (eC : E' 0 8 = w (C 8 + 1)) (ha : a < C 3) (d13 : ∀ i, D' 13 i = if i = C 8 then w a else D 13 i) (e14 : ∀ i, E' 14 i = if i = C 8 then w a else E 14 i) : qFy D' E' C' := by
  obtain ⟨⟨w1, w2, w3, w4, w5, w6⟩, u1, u2, u3, u4, u5, u6, u7, u8, u9⟩ := h
  have hdeg : q_deg D' 8 = q_deg D 8 := by
    funext a
    unfold q_deg
    rw [hD 2 (by omega)]
  have hrt : ∀ S h x k g, qRt D S h x k g → qRt D' S h x k g := fun S h x k g z => by unfold qRt at z ⊢; rw [hD 2 (by omega)]; exact z
  refine ⟨⟨fun k hk => ?_, fun k hk => ?_, ?_, ?_, fun e => ?_, ?_⟩, fun i hi => ?_, ⟨fun i hi => ?_, ?_⟩, fun u hu => ?_, ⟨?_, ?_⟩, fun r hr => ?_, fun o ho => ?_, fun d hd => ?_, ⟨fun k hk => ?_, fun o ho d hd => ?_⟩, fun i hi => ?_⟩
  · by_cases c : k = 8
    · rw [c, dC, cC]; exact ⟨rfl, by have : q_lim 8 = 6 := rfl; omega⟩
    · rw [d0 k c, cO k c]; exact w1 k hk
  · by_cases c : k = 8
    · rw [c, eC, cC]
    · rw [e0 k (by omega), cO k c]; exact w2 k hk
  · rw [e0 11 (by omega), cO 10 (by omega)]; exact w3
  · rw [e0 12 (by omega), cO 11 (by omega)]; exact w4
  · rw [cO 0 (by omega)] at e; exact absurd e hd0
  · rw [cO 0 (by omega)]; exact w6
  · rw [cO 3 (by omega)] at hi
    rw [hD 1 (by omega), hE 1 (by omega)]; exact u1 i hi
  · rw [hD 2 (by omega), hD 3 (by omega), hE 2 (by omega), hE 3 (by omega)]; exact u2.1 i hi
  · rw [hdeg, cO 4 (by omega)]; exact u2.2
  · rw [cO 5 (by omega)] at hu
    obtain ⟨c1, c2, h, c3, c4, c5, c6, ⟨k, g, c7, c8⟩, c9, c10⟩ := u3 u hu
    rw [hD 4 (by omega), hD 5 (by omega), hD 6 (by omega), hD 7 (by omega), hD 8 (by omega), hD 9 (by omega), hE 4 (by omega), hE 5 (by omega), hE 6 (by omega), hE 7 (by omega), hE 8 (by omega), hE 9 (by omega), hE 10 (by omega), cO 3 (by omega), cO 0 (by omega)]
    exact ⟨c1, c2, h, c3, c4, c5, c6, ⟨k, g, hrt _ _ _ _ _ c7, c8⟩, c9, c10⟩
  · rw [cO 5 (by omega), hD 7 (by omega), hD 8 (by omega), hD 9 (by omega), hE 8 (by omega)]; exact u4.1
  · rw [hD 9 (by omega), hD 7 (by omega), cO 7 (by omega), cO 12 (by omega)]; exact u4.2
  · rw [cO 6 (by omega)] at hr
    rw [hD 10 (by omega), hD 11 (by omega), hD 12 (by omega), hE 11 (by omega), hE 12 (by omega), hE 13 (by omega), cO 5 (by omega), cO 0 (by omega), cO 3 (by omega)]; exact u5 r hr
  · rw [cC] at ho
    rw [d13, e14, cO 3 (by omega)]
    by_cases c : o = C 8
    · simp only [c, if_true]
      exact ⟨a, rfl, ha, rfl⟩
    · simp only [c, if_false]
      exact u6 o (by omega)
  · rw [hD 15 (by omega), e0 10 (by omega), cO 0 (by omega)]; exact u7 d hd
  · rw [cO 9 (by omega)] at hk
    rw [hE 15 (by omega), hE 16 (by omega), hE 17 (by omega), cC, cO 0 (by omega)]
    obtain ⟨o, x, y, q1, q2, q3, q4, q5, q6⟩ := u8.1 k hk
    exact ⟨o, x, y, q1, q2, q3, by omega, q5, q6⟩
  · rw [hD 14 (by omega), cO 9 (by omega), hE 15 (by omega), hE 16 (by omega), hE 17 (by omega)]; exact u8.2 o ho d hd
  · rw [cO 11 (by omega)] at hi
    rw [hD 16 (by omega), hD 17 (by omega), hD 18 (by omega), hE 18 (by omega), hE 19 (by omega), hE 20 (by omega)]; exact u9 i hi
theorem fy_out {D E D' E' : Nat → Nat → Int32} {C C' : Nat → Nat} {v a b : Nat} (h : qFy D E C) (hd0 : C 0 ≠ 0) (hl : C 9 < 10) (cC : C' 9 = C 9 + 1) (cO : ∀ k, k ≠ 9 → C' k = C k) (hD : ∀ k, k ≠ 0 ∧ k ≠ 14 → D' k = D k) (hE : ∀ k, k ≠ 0 ∧ k ≠ 15 ∧ k ≠ 16 ∧ k ≠ 17 → E' k = E k) (d0 : ∀ k, k ≠ 9 → D' 0 k = D 0 k) (dC : D' 0 9 = w (C 9 + 1)) (e0 : ∀ k, k ≠ 9 → E' 0 k = E 0 k) (eC : E' 0 9 = w (C 9 + 1)) (hv : v < C 8) (hab : a ≤ b) (hb : b < C 0) (d14 : ∀ i, i < 6 → ∀ d, d < 20 → ((D' 14 i >>> (w d &&& 31)) &&& 1 = 1 ↔ (D 14 i >>> (w d &&& 31)) &&& 1 = 1 ∨ (i = v ∧ a ≤ d ∧ d ≤ b))) (e15 : ∀ i, E' 15 i = if i = C 9 then w v else E 15 i) (e16 : ∀ i, E' 16 i = if i = C 9 then w a else E 16 i) (e17 : ∀ i, E' 17 i = if i = C 9 then w b else E 17 i) : qFy D' E' C' := by
  obtain ⟨⟨w1, w2, w3, w4, w5, w6⟩, u1, u2, u3, u4, u5, u6, u7, u8, u9⟩ := h
  have hdeg : q_deg D' 8 = q_deg D 8 := by
    funext a
    unfold q_deg
    rw [hD 2 (by omega)]
  have hrt : ∀ S h x k g, qRt D S h x k g → qRt D' S h x k g := fun S h x k g z => by unfold qRt at z ⊢; rw [hD 2 (by omega)]; exact z
  have l0 : C 0 ≤ 20 := (w1 0 (by omega)).2
  have l8 : C 8 ≤ 6 := (w1 8 (by omega)).2

  refine ⟨⟨fun k hk => ?_, fun k hk => ?_, ?_, ?_, fun e => ?_, ?_⟩, fun i hi => ?_, ⟨fun i hi => ?_, ?_⟩, fun u hu => ?_, ⟨?_, ?_⟩, fun r hr => ?_, fun o ho => ?_, fun d hd => ?_, ⟨fun k hk => ?_, fun o ho d hd => ?_⟩, fun i hi => ?_⟩
  · by_cases c : k = 9
    · rw [c, dC, cC]; exact ⟨rfl, by have : q_lim 9 = 10 := rfl; omega⟩
    · rw [d0 k c, cO k c]; exact w1 k hk
  · by_cases c : k = 9
    · rw [c, eC, cC]
    · rw [e0 k (by omega), cO k c]; exact w2 k hk
  · rw [e0 11 (by omega), cO 10 (by omega)]; exact w3
  · rw [e0 12 (by omega), cO 11 (by omega)]; exact w4
  · rw [cO 0 (by omega)] at e; exact absurd e hd0
  · rw [cO 0 (by omega)]; exact w6
  · rw [cO 3 (by omega)] at hi
    rw [hD 1 (by omega), hE 1 (by omega)]; exact u1 i hi
  · rw [hD 2 (by omega), hD 3 (by omega), hE 2 (by omega), hE 3 (by omega)]; exact u2.1 i hi
  · rw [hdeg, cO 4 (by omega)]; exact u2.2
  · rw [cO 5 (by omega)] at hu
    obtain ⟨c1, c2, h, c3, c4, c5, c6, ⟨k, g, c7, c8⟩, c9, c10⟩ := u3 u hu
    rw [hD 4 (by omega), hD 5 (by omega), hD 6 (by omega), hD 7 (by omega), hD 8 (by omega), hD 9 (by omega), hE 4 (by omega), hE 5 (by omega), hE 6 (by omega), hE 7 (by omega), hE 8 (by omega), hE 9 (by omega), hE 10 (by omega), cO 3 (by omega), cO 0 (by omega)]
    exact ⟨c1, c2, h, c3, c4, c5, c6, ⟨k, g, hrt _ _ _ _ _ c7, c8⟩, c9, c10⟩
  · rw [cO 5 (by omega), hD 7 (by omega), hD 8 (by omega), hD 9 (by omega), hE 8 (by omega)]; exact u4.1
  · rw [hD 9 (by omega), hD 7 (by omega), cO 7 (by omega), cO 12 (by omega)]; exact u4.2
  · rw [cO 6 (by omega)] at hr
    rw [hD 10 (by omega), hD 11 (by omega), hD 12 (by omega), hE 11 (by omega), hE 12 (by omega), hE 13 (by omega), cO 5 (by omega), cO 0 (by omega), cO 3 (by omega)]; exact u5 r hr
  · rw [cO 8 (by omega)] at ho
    rw [hD 13 (by omega), hE 14 (by omega), cO 3 (by omega)]; exact u6 o ho
  · rw [hD 15 (by omega), e0 10 (by omega), cO 0 (by omega)]; exact u7 d hd
  · rw [cC] at hk
    rw [e15, e16, e17, cO 8 (by omega), cO 0 (by omega)]
    by_cases c : k = C 9
    · simp only [c, if_true]
      exact ⟨v, a, b, rfl, rfl, rfl, hv, hab, hb⟩
    · simp only [c, if_false]
      exact u8.1 k (by omega)
  · rw [d14 o ho d hd, u8.2 o ho d hd, cC]
    constructor
    · rintro (⟨k, k1, k2, k3, k4⟩ | ⟨rfl, k2, k3⟩)
      · refine ⟨k, by omega, ?_, ?_, ?_⟩
        · rw [e15, if_neg (by omega)]; exact k2
        · rw [e16, if_neg (by omega)]; exact k3
        · rw [e17, if_neg (by omega)]; exact k4
      · refine ⟨C 9, by omega, ?_, ?_, ?_⟩
        · rw [e15, if_pos rfl]
        · rw [e16, if_pos rfl, w_lt (by omega) (by omega)]; omega
        · rw [e17, if_pos rfl, w_lt (by omega) (by omega)]; omega
    · rintro ⟨k, k1, k2, k3, k4⟩
      by_cases c : k = C 9
      · right
        rw [e15, if_pos c, w_eq (by omega) (by omega)] at k2
        rw [e16, if_pos c, w_lt (by omega) (by omega)] at k3
        rw [e17, if_pos c, w_lt (by omega) (by omega)] at k4
        exact ⟨k2.symm, by omega, by omega⟩
      · left
        rw [e15, if_neg c] at k2
        rw [e16, if_neg c] at k3
        rw [e17, if_neg c] at k4
        exact ⟨k, by omega, k2, k3, k4⟩
  · rw [cO 11 (by omega)] at hi
    rw [hD 16 (by omega), hD 17 (by omega), hD 18 (by omega), hE 18 (by omega), hE 19 (by omega), hE 20 (by omega)]; exact u9 i hi
theorem fy_umb {D E D' E' : Nat → Nat → Int32} {C C' : Nat → Nat} {q a : Nat} {x4 : Int32} (h : qFy D E C) (hd0 : C 0 ≠ 0) (hl : C 5 < 6) (cC : C' 5 = C 5 + 1) (cO : ∀ k, k ≠ 5 → C' k = C k) (hD : ∀ k, k ≠ 0 ∧ k ≠ 4 ∧ k ≠ 5 ∧ k ≠ 6 → D' k = D k) (hE : ∀ k, k ≠ 0 ∧ k ≠ 4 ∧ k ≠ 5 ∧ k ≠ 6 ∧ k ≠ 7 ∧ k ≠ 10 ∧ k < 21 → E' k = E k) (d0 : ∀ k, k ≠ 5 → D' 0 k = D 0 k) (dC : D' 0 5 = w (C 5 + 1)) (e0 : ∀ k, k ≠ 5 ∧ k ≠ 13 → E' 0 k = E 0 k) (eC : E' 0 5 = w (C 5 + 1)) (hq : q ≤ 30) (ha : a < C 3) (d4 : ∀ i, D' 4 i = if i = C 5 then x4 else D 4 i) (d5 : ∀ i, D' 5 i = if i = C 5 then w q else D 5 i) (d6 : ∀ i, D' 6 i = if i = C 5 then w a else D 6 i) (e4 : ∀ i, E' 4 i = if i = C 5 then x4 else E 4 i) (e5 : ∀ i, E' 5 i = if i = C 5 then w q else E 5 i) (e6 : ∀ i, E' 6 i = if i = C 5 then w a else E 6 i) (e7 : ∀ i, E' 7 i = if i = C 5 then -2 else E 7 i) (e10 : ∀ i, E' 10 i = if i = C 5 then -2 else E 10 i) : qFy D' E' C' := by
  obtain ⟨⟨w1, w2, w3, w4, w5, w6⟩, u1, u2, u3, u4, u5, u6, u7, u8, u9⟩ := h
  have hdeg : q_deg D' 8 = q_deg D 8 := by
    funext a
    unfold q_deg
    rw [hD 2 (by omega)]
  have hrt : ∀ S h x k g, qRt D S h x k g → qRt D' S h x k g := fun S h x k g z => by unfold qRt at z ⊢; rw [hD 2 (by omega)]; exact z
  refine ⟨⟨fun k hk => ?_, fun k hk => ?_, ?_, ?_, fun e => ?_, ?_⟩, fun i hi => ?_, ⟨fun i hi => ?_, ?_⟩, fun u hu => ?_, ⟨?_, ?_⟩, fun r hr => ?_, fun o ho => ?_, fun d hd => ?_, ⟨fun k hk => ?_, fun o ho d hd => ?_⟩, fun i hi => ?_⟩
  · by_cases c : k = 5
    · rw [c, dC, cC]; exact ⟨rfl, by have : q_lim 5 = 6 := rfl; omega⟩
    · rw [d0 k c, cO k c]; exact w1 k hk
  · by_cases c : k = 5
    · rw [c, eC, cC]
    · rw [e0 k (by omega), cO k c]; exact w2 k hk
  · rw [e0 11 (by omega), cO 10 (by omega)]; exact w3
  · rw [e0 12 (by omega), cO 11 (by omega)]; exact w4
  · rw [cO 0 (by omega)] at e; exact absurd e hd0
  · rw [cO 0 (by omega)]; exact w6
  · rw [cO 3 (by omega)] at hi
    rw [hD 1 (by omega), hE 1 (by omega)]; exact u1 i hi
  · rw [hD 2 (by omega), hD 3 (by omega), hE 2 (by omega), hE 3 (by omega)]; exact u2.1 i hi
  · rw [hdeg, cO 4 (by omega)]; exact u2.2
  · rw [cC] at hu
    rw [d4, d5, d6, hD 7 (by omega), hD 8 (by omega), hD 9 (by omega), e4, e5, e6, e7, hE 8 (by omega), hE 9 (by omega), e10, cO 3 (by omega), cO 0 (by omega)]
    by_cases c : u = C 5
    · subst c
      obtain ⟨r7, r8, r9, r8'⟩ := u4.1 (C 5) (Nat.le_refl _) (by omega)
      simp only [if_true]
      refine ⟨trivial, ⟨q, rfl, hq, rfl⟩, a, rfl, ha, rfl, ⟨r7.symm, Or.inl r7⟩, ⟨0, fun _ => 0, hrt _ _ _ _ _ ⟨by omega, fun i hi => ?_, fun i hi => absurd hi (Nat.not_lt_zero i), fun z => absurd z (Nat.lt_irrefl 0), fun i hi => absurd hi (Nat.not_lt_zero _)⟩, r8', fun i hi => absurd hi (Nat.not_lt_zero i), r8⟩, r9.symm, Or.inl r9⟩
      rw [r8]
      exact stop_cd (g := fun _ => 0) (k := 0) (by omega) (fun i hi => absurd hi (Nat.not_lt_zero i)) hi
    · simp only [c, if_false]
      obtain ⟨c1, c2, h, c3, c4, c5, c6, ⟨k, g, c7, c8⟩, c9, c10⟩ := u3 u (by omega)
      exact ⟨c1, c2, h, c3, c4, c5, c6, ⟨k, g, hrt _ _ _ _ _ c7, c8⟩, c9, c10⟩
  · rw [cC, hD 7 (by omega), hD 8 (by omega), hD 9 (by omega), hE 8 (by omega)]
    exact fun u h1 h2 => u4.1 u (by omega) h2
  · rw [hD 9 (by omega), hD 7 (by omega), cO 7 (by omega), cO 12 (by omega)]; exact u4.2
  · rw [cO 6 (by omega)] at hr
    rw [hD 10 (by omega), hD 11 (by omega), hD 12 (by omega), hE 11 (by omega), hE 12 (by omega), hE 13 (by omega), cC, cO 0 (by omega), cO 3 (by omega)]
    obtain ⟨u, y, d, q1, q2, q3⟩ := u5 r hr
    exact ⟨u, y, d, q1, by omega, q3⟩
  · rw [cO 8 (by omega)] at ho
    rw [hD 13 (by omega), hE 14 (by omega), cO 3 (by omega)]; exact u6 o ho
  · rw [hD 15 (by omega), e0 10 (by omega), cO 0 (by omega)]; exact u7 d hd
  · rw [cO 9 (by omega)] at hk
    rw [hE 15 (by omega), hE 16 (by omega), hE 17 (by omega), cO 8 (by omega), cO 0 (by omega)]; exact u8.1 k hk
  · rw [hD 14 (by omega), cO 9 (by omega), hE 15 (by omega), hE 16 (by omega), hE 17 (by omega)]; exact u8.2 o ho d hd
  · rw [cO 11 (by omega)] at hi
    rw [hD 16 (by omega), hD 17 (by omega), hD 18 (by omega), hE 18 (by omega), hE 19 (by omega), hE 20 (by omega)]; exact u9 i hi
theorem fy_flies {D E D' E' : Nat → Nat → Int32} {C C' : Nat → Nat} {v dd k : Nat} {g : Nat → Nat} (h : qFy D E C) (hd0 : C 0 ≠ 0) (cC : C' 12 = C 12 + 1) (cO : ∀ k, k ≠ 12 → C' k = C k) (hD : ∀ k, k ≠ 7 ∧ k ≠ 8 → D' k = D k) (hE : ∀ k, k ≠ 7 ∧ k ≠ 8 ∧ k ≠ 9 → E' k = E k) (hv : v < C 5) (hn : D 7 v = -2) (hdd : dd < C 0) (hk5 : k ≤ 5) (hk : ∀ h, D 6 v = w h → h < 8 → qRt D (C 3) h (w (q_cd g k)) k g) (d7 : ∀ i, D' 7 i = if i = v then w dd else D 7 i) (d8 : ∀ i, D' 8 i = if i = v then w (q_cd g k) else D 8 i) (e7 : ∀ i, E' 7 i = if i = v then w dd else E 7 i) (e8 : ∀ i, E' 8 i = if i = v then w k else E 8 i) (e9 : ∀ i, i < k → E' 9 (5 * v + i) = w (g i)) (e9' : ∀ u i, u ≠ v → i < 5 → E' 9 (5 * u + i) = E 9 (5 * u + i)) : qFy D' E' C' := by
  obtain ⟨⟨w1, w2, w3, w4, w5, w6⟩, u1, u2, u3, u4, u5, u6, u7, u8, u9⟩ := h
  have d0 : ∀ k, D' 0 k = D 0 k := fun k => by rw [hD 0 (by omega)]
  have e0 : ∀ k, E' 0 k = E 0 k := fun k => by rw [hE 0 (by omega)]
  have hdeg : q_deg D' 8 = q_deg D 8 := by
    funext a
    unfold q_deg
    rw [hD 2 (by omega)]
  have hrt : ∀ S h x k g, qRt D S h x k g → qRt D' S h x k g := fun S h x k g z => by unfold qRt at z ⊢; rw [hD 2 (by omega)]; exact z
  refine ⟨⟨fun k hk => ?_, fun k hk => ?_, ?_, ?_, fun e => ?_, ?_⟩, fun i hi => ?_, ⟨fun i hi => ?_, ?_⟩, fun u hu => ?_, ⟨?_, ?_⟩, fun r hr => ?_, fun o ho => ?_, fun d hd => ?_, ⟨fun k hk => ?_, fun o ho d hd => ?_⟩, fun i hi => ?_⟩
  · rw [d0 k, cO k (by omega)]; exact w1 k hk
  · rw [e0 k, cO k (by omega)]; exact w2 k hk
  · rw [e0 11, cO 10 (by omega)]; exact w3
  · rw [e0 12, cO 11 (by omega)]; exact w4
  · rw [cO 0 (by omega)] at e; exact absurd e hd0
  · rw [cO 0 (by omega)]; exact w6
  · rw [cO 3 (by omega)] at hi
    rw [hD 1 (by omega), hE 1 (by omega)]; exact u1 i hi
  · rw [hD 2 (by omega), hD 3 (by omega), hE 2 (by omega), hE 3 (by omega)]; exact u2.1 i hi
  · rw [hdeg, cO 4 (by omega)]; exact u2.2
  · rw [cO 5 (by omega)] at hu
    obtain ⟨c1, c2, h, c3, c4, c5, c6, ⟨k0, g0, c7, c8, c8', c8''⟩, c9, c10⟩ := u3 u hu
    rw [hD 4 (by omega), hD 5 (by omega), hD 6 (by omega), d7, d8, hD 9 (by omega), hE 4 (by omega), hE 5 (by omega), hE 6 (by omega), e7, e8, hE 10 (by omega), cO 3 (by omega), cO 0 (by omega)]
    by_cases c : u = v
    · subst c
      simp only [if_true]
      exact ⟨c1, c2, h, c3, c4, c5, ⟨trivial, Or.inr ⟨dd, rfl, hdd⟩⟩, ⟨k, g, hrt _ _ _ _ _ (hk h c3 (by have : C 3 ≤ 8 := (w1 3 (by omega)).2; omega)), rfl, e9, rfl⟩, c9, c10⟩
    · simp only [c, if_false]
      exact ⟨c1, c2, h, c3, c4, c5, c6, ⟨k0, g0, hrt _ _ _ _ _ c7, c8, fun i hi => by rw [e9' u i c (by have := c7.1; omega)]; exact c8' i hi, c8''⟩, c9, c10⟩
  · rw [cO 5 (by omega)]
    intro u h1 h2
    rw [d7, d8, hD 9 (by omega), e8, if_neg (show ¬ u = v by omega), if_neg (show ¬ u = v by omega), if_neg (show ¬ u = v by omega)]
    exact u4.1 u h1 h2
  · refine ⟨by rw [hD 9 (by omega), cO 7 (by omega)]; exact u4.2.1, ?_⟩
    have l5 : C 5 ≤ 6 := (w1 5 (by omega)).2
    have l0 : C 0 ≤ 20 := (w1 0 (by omega)).2
    have := cnt_up (c := fun u => decide (D 7 u ≠ -2)) (c' := fun u => decide (D' 7 u ≠ -2)) (b := v) (fun k hk => by show decide (D' 7 k ≠ -2) = decide (D 7 k ≠ -2); rw [d7, if_neg hk]) (by show decide (D 7 v ≠ -2) = false; rw [hn]; rfl) (by show decide (D' 7 v ≠ -2) = true; rw [d7, if_pos rfl]; exact decide_eq_true (w_m2 (by omega))) 6
    rw [this, if_pos (by omega), u4.2.2, cC]
  · rw [cO 6 (by omega)] at hr
    rw [hD 10 (by omega), hD 11 (by omega), hD 12 (by omega), hE 11 (by omega), hE 12 (by omega), hE 13 (by omega), cO 5 (by omega), cO 0 (by omega), cO 3 (by omega)]; exact u5 r hr
  · rw [cO 8 (by omega)] at ho
    rw [hD 13 (by omega), hE 14 (by omega), cO 3 (by omega)]; exact u6 o ho
  · rw [hD 15 (by omega), e0 10, cO 0 (by omega)]; exact u7 d hd
  · rw [cO 9 (by omega)] at hk
    rw [hE 15 (by omega), hE 16 (by omega), hE 17 (by omega), cO 8 (by omega), cO 0 (by omega)]; exact u8.1 k hk
  · rw [hD 14 (by omega), cO 9 (by omega), hE 15 (by omega), hE 16 (by omega), hE 17 (by omega)]; exact u8.2 o ho d hd
  · rw [cO 11 (by omega)] at hi
    rw [hD 16 (by omega), hD 17 (by omega), hD 18 (by omega), hE 18 (by omega), hE 19 (by omega), hE 20 (by omega)]; exact u9 i hi
