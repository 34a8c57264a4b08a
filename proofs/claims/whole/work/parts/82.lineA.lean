/-! READING: the line of the flight itself -/
theorem num_w {v : Int32} {l m : Nat} (hl : l < 1000000) (hm : m < 1000000) (h1 : ¬ v < w l) (h2 : v ≤ w m) : ∃ a, v = w a ∧ l ≤ a ∧ a ≤ m := by
  have hn : ¬ v < 0 := fun z => h1 (Int32.lt_of_lt_of_le z (by rw [show (0 : Int32) = w 0 from rfl]; exact w_le' (by omega) hl))
  obtain ⟨e, hlt⟩ := i_nn hn
  refine ⟨v.toNatClampNeg, e, ?_, ?_⟩
  · rw [e, w_lt hlt (by omega)] at h1; omega
  · rw [e, w_le hlt (by omega)] at h2; exact h2
section PL
variable {s s2 : qS} {t f n : Nat} {b : Nat → Nat} {I0 J0 I J I' J' : qI} {L0 K0 L K L' K' : qL} {Z Z' : qI → qL → qI → qL → Prop} {C : Nat → Nat} {p : Nat}
theorem go_put (cx : qCx s s2 t f n b I0 J0) (h : qGo Z t f n I0 L0 J0 K0 I L J K) (hI : ∀ a, ¬ (t ≤ a ∧ a < t + 39) → I' a = I a) (hJ : ∀ a, ¬ (f ≤ a ∧ a < f + 24) → J' a = J a) (hK : ∀ a, ¬ (f ≤ a ∧ a < f + 24) → K' a = K a) (h13 : ∃ c, c ≤ 20 ∧ J' f 13 = w c) (hZ : Z' I' L J' K') : qGo Z' t f n I0 L0 J0 K0 I' L J' K' := by
  obtain ⟨⟨a1, a2, a3, a4, a5, a6, a7⟩, b1, b2, b3, b4⟩ := h
  have ht : t = 101 ∨ t = 140 := cx.1.2.2.2.2.2.2.2.2.2.2.2.2.2.2
  have hf := cx.2.2.2.2.2.2.2.1
  have e187 : I' 187 = I 187 := hI 187 (by omega)
  have e240 : J' 240 = J 240 := hJ 240 (by omega)
  have k240 : K' 240 = K 240 := hK 240 (by omega)
  refine ⟨⟨fun a ha => ?_, a2, fun a ha => ?_, ?_, ?_, fun k hk => ?_, h13⟩, ?_, ?_, ?_, hZ⟩
  · rw [hI a (by unfold qCw at ha; omega)]; exact a1 a ha
  · rw [hJ a (by unfold qMw at ha; omega), hK a (by unfold qMw at ha; omega)]; exact a3 a ha
  · rw [e240]; exact a4
  · rw [e187]; exact a5
  · rw [hI (183 + 1) (by omega), hI (185 + 1) (by omega)]; exact a6 k hk
  · rw [e240, hI 181 (by omega)]; exact b1
  · rw [e240]; exact b2
  · unfold qTk; rw [e187, e240, k240]; exact b3
theorem go_nm (cx : qCx s s2 t f n b I0 J0) (h : qGo Z t f n I0 L0 J0 K0 I L J K) {m : Nat} (hm : 11 ≤ m) {k v : Int32} {x : Int64} (hZ : Z' (q_nI I m k v) (q_nL L m x) J K) : qGo Z' t f n I0 L0 J0 K0 (q_nI I m k v) (q_nL L m x) J K := by
  obtain ⟨⟨a1, a2, a3, a4, a5, a6, a7⟩, b1, b2, b3, b4⟩ := h
  have hI : ∀ a, a ≠ 181 → a ≠ 184 → a ≠ 186 → q_nI I m k v a = I a := fun a h1 h2 h3 => by
    unfold q_nI
    rw [q_up_ne h1, q_up_ne h3, q_up_ne h2]
  have hL : ∀ a, a ≠ 182 → q_nL L m x a = L a := fun a ha => upl_ne ha
  have e187 : q_nI I m k v 187 = I 187 := hI 187 (by decide) (by decide) (by decide)
  have l187 : q_nL L m x 187 = L 187 := hL 187 (by decide)
  refine ⟨⟨fun a ha => ?_, fun a h1 h2 => ?_, a3, a4, ?_, fun j hj => ?_, a7⟩, ⟨b1.1, ?_⟩, b2, ?_, hZ⟩
  · rw [hI a (by unfold qCw at ha; omega) (by unfold qCw at ha; omega) (by unfold qCw at ha; omega)]; exact a1 a ha
  · rw [hL a h1]; exact a2 a h1 h2
  · rw [e187]; exact a5
  · obtain ⟨c1, c2, c3⟩ := a6 j hj
    refine ⟨?_, ?_, ?_⟩
    · show q_upl L 182 (q_setl (L 182) m x) 182 j = _
      have : q_upl L 182 (q_setl (L 182) m x) 182 j = L 182 j := by
        unfold q_upl q_setl
        rw [if_pos rfl, if_neg (by omega)]
      rw [this]; exact c1
    · unfold q_nI
      rw [q_up_ne (by decide), q_up_ne (by decide), q_up_eq, q_set_ne (by omega)]; exact c2
    · unfold q_nI
      rw [q_up_ne (by decide), q_up_eq, q_set_ne (by omega)]; exact c3
  · unfold q_nI
    rw [q_up_eq, q_set_ne (by decide)]; exact b1.2
  · unfold qTk; rw [e187, l187]; exact b3
theorem fa_5 (h : qFa t f n I0 L0 J0 K0 I L J K) : J 240 9 = 5 := by
  obtain ⟨-, r, a, -, -, -, -, h5, -⟩ := h
  exact h5
theorem fa_c (h : qFa t f n I0 L0 J0 K0 I L J K) : ∃ c, c ≤ 20 ∧ J f 13 = w c := by
  obtain ⟨⟨-, -, -, -, -, -, h⟩, -⟩ := h
  exact h
/-- how many lines there were -/
def qMu (C : Nat → Nat) : Nat := (if C 0 = 0 then 0 else 1) + (C 3 + C 4 + C 5 + C 6 + C 7 + C 8 + C 9 + C 10 + C 11 + C 12)
theorem mu_up {C C' : Nat → Nat} {x : Nat} (h1 : 3 ≤ x) (h2 : x ≤ 12) (h0 : C 0 ≠ 0) (cC : C' x = C x + 1) (cO : ∀ k, k ≠ x → C' k = C k) : C' 0 ≠ 0 ∧ qMu C' = qMu C + 1 := by
  have e0 := cO 0 (by omega)
  refine ⟨by omega, ?_⟩
  unfold qMu
  rw [if_neg h0, if_neg (show ¬ C' 0 = 0 by omega)]
  have hx : x = 3 ∨ x = 4 ∨ x = 5 ∨ x = 6 ∨ x = 7 ∨ x = 8 ∨ x = 9 ∨ x = 10 ∨ x = 11 ∨ x = 12 := by omega
  rcases hx with rfl | rfl | rfl | rfl | rfl | rfl | rfl | rfl | rfl | rfl
  · rw [cC, cO 4 (by omega), cO 5 (by omega), cO 6 (by omega), cO 7 (by omega), cO 8 (by omega), cO 9 (by omega), cO 10 (by omega), cO 11 (by omega), cO 12 (by omega)]; omega
  · rw [cC, cO 3 (by omega), cO 5 (by omega), cO 6 (by omega), cO 7 (by omega), cO 8 (by omega), cO 9 (by omega), cO 10 (by omega), cO 11 (by omega), cO 12 (by omega)]; omega
  · rw [cC, cO 3 (by omega), cO 4 (by omega), cO 6 (by omega), cO 7 (by omega), cO 8 (by omega), cO 9 (by omega), cO 10 (by omega), cO 11 (by omega), cO 12 (by omega)]; omega
  · rw [cC, cO 3 (by omega), cO 4 (by omega), cO 5 (by omega), cO 7 (by omega), cO 8 (by omega), cO 9 (by omega), cO 10 (by omega), cO 11 (by omega), cO 12 (by omega)]; omega
  · rw [cC, cO 3 (by omega), cO 4 (by omega), cO 5 (by omega), cO 6 (by omega), cO 8 (by omega), cO 9 (by omega), cO 10 (by omega), cO 11 (by omega), cO 12 (by omega)]; omega
  · rw [cC, cO 3 (by omega), cO 4 (by omega), cO 5 (by omega), cO 6 (by omega), cO 7 (by omega), cO 9 (by omega), cO 10 (by omega), cO 11 (by omega), cO 12 (by omega)]; omega
  · rw [cC, cO 3 (by omega), cO 4 (by omega), cO 5 (by omega), cO 6 (by omega), cO 7 (by omega), cO 8 (by omega), cO 10 (by omega), cO 11 (by omega), cO 12 (by omega)]; omega
  · rw [cC, cO 3 (by omega), cO 4 (by omega), cO 5 (by omega), cO 6 (by omega), cO 7 (by omega), cO 8 (by omega), cO 9 (by omega), cO 11 (by omega), cO 12 (by omega)]; omega
  · rw [cC, cO 3 (by omega), cO 4 (by omega), cO 5 (by omega), cO 6 (by omega), cO 7 (by omega), cO 8 (by omega), cO 9 (by omega), cO 10 (by omega), cO 12 (by omega)]; omega
  · rw [cC, cO 3 (by omega), cO 4 (by omega), cO 5 (by omega), cO 6 (by omega), cO 7 (by omega), cO 8 (by omega), cO 9 (by omega), cO 10 (by omega), cO 11 (by omega)]; omega
/-- both have read a line: well, or with a fault -/
def qLine (C0 : Nat → Nat) (X : Option (Option Value × jM)) (Y : Option (Option Value × jM)) (s s2 : qS) (t f n : Nat) (I0 : qI) (L0 : qL) (J0 : qI) (K0 : qL) : Prop := (∃ C I' L' J' K', X = some (some (.int 1), I', L', s) ∧ Y = some (none, J', K', s2) ∧ qGo (qZp t f 0 C) t f n I0 L0 J0 K0 I' L' J' K' ∧ C 0 ≠ 0 ∧ qMu C = qMu C0 + 1) ∨ ∃ I' L' J' K', X = some (some (.int 0), I', L', s) ∧ Y = some (none, J', K', s2) ∧ qFa t f n I0 L0 J0 K0 I' L' J' K'
theorem t13 : q_tw 13 = q_tm 32 ∧ q_tw 14 = q_tm 33 ∧ q_tw 15 = q_tm 34 ∧ q_tw 12 = q_tm 44 ∧ q_tw 19 = q_tm 48 ∧ q_tw 16 = q_tm 45 ∧ q_tw 17 = q_tm 46 ∧ q_tw 18 = q_tm 47 ∧ q_tw 20 = q_tm 49 ∧ q_tw 21 = q_tm 50 ∧ q_tw 22 = q_tm 51 ∧ q_tw 23 = q_tm 52 ∧ q_tw 24 = q_tm 53 ∧ q_tw 25 = q_tm 54 ∧ q_tw 26 = q_tm 55 ∧ q_tw 27 = q_tm 56 ∧ q_tw 28 = q_tm 57 ∧ q_tw 29 = q_tm 58 := by decide +kernel
theorem zp_f (h : qZp t f p C I L J K) {k : Nat} (hk : k < 12) : I (t + 2) k = w (C k) ∧ C k ≤ q_lim k := h.2.1.1 k hk
theorem zp_m (h : qZp t f p C I L J K) {k : Nat} (hk : k < 10) : J f k = w (C k) := h.2.1.2.1 k hk
theorem fy_flight {D E D' E' : Nat → Nat → Int32} {C C' : Nat → Nat} {x1 x2 x3 : Nat} (h : qFy D E C) (h0 : C 0 = 0) (cA : C' 0 = x1) (cB : C' 1 = x2) (cC : C' 2 = x3) (hC : ∀ k, 3 ≤ k → C' k = C k) (hx : 2 ≤ x1 ∧ x1 ≤ 20 ∧ x2 ≤ 99 ∧ x3 ≤ 999) (hD : ∀ k, k ≠ 0 → D' k = D k) (hE : ∀ k, k ≠ 0 → E' k = E k) (d0 : D' 0 0 = w x1) (d1 : D' 0 1 = w x2) (d2 : D' 0 2 = w x3) (d3 : ∀ k, 3 ≤ k → D' 0 k = D 0 k) (e0 : E' 0 0 = w x1) (e1 : E' 0 1 = w x2) (e2 : E' 0 2 = w x3) (e3 : ∀ k, 3 ≤ k → E' 0 k = E 0 k) : qFy D' E' C' := by
  obtain ⟨⟨w1, w2, w3, w4, w5, w6⟩, u1, u2, u3, u4, u5, u6, u7, u8, u9⟩ := h
  have hall := w5 h0
  have z3 := hall 3 (by omega)
  have z5 := hall 5 (by omega)
  have z6 := hall 6 (by omega)
  have z8 := hall 8 (by omega)
  have z9 := hall 9 (by omega)
  have z11 := hall 11 (by omega)
  have hdeg : q_deg D' 8 = q_deg D 8 := by
    funext a
    unfold q_deg
    rw [hD 2 (by omega)]
  refine ⟨⟨fun k hk => ?_, fun k hk => ?_, ?_, ?_, fun e => ?_, ?_⟩, ?_, ⟨fun i hi => ?_, ?_⟩, ?_, ⟨?_, ?_⟩, ?_, ?_, ?_, ⟨?_, ?_⟩, ?_⟩
  · by_cases c0 : k = 0
    · rw [c0, d0, cA]; exact ⟨rfl, hx.2.1⟩
    · by_cases c1 : k = 1
      · rw [c1, d1, cB]; exact ⟨rfl, hx.2.2.1⟩
      · by_cases c2 : k = 2
        · rw [c2, d2, cC]; exact ⟨rfl, hx.2.2.2⟩
        · rw [d3 k (by omega), hC k (by omega)]; exact w1 k hk
  · by_cases c0 : k = 0
    · rw [c0, e0, cA]
    · by_cases c1 : k = 1
      · rw [c1, e1, cB]
      · by_cases c2 : k = 2
        · rw [c2, e2, cC]
        · rw [e3 k (by omega), hC k (by omega)]; exact w2 k hk
  · rw [e3 11 (by omega), hC 10 (by omega)]; exact w3
  · rw [e3 12 (by omega), hC 11 (by omega)]; exact w4
  · rw [cA] at e; omega
  · rw [cA]; exact Or.inr hx.1
  · intro i hi
    rw [hC 3 (by omega)] at hi; omega
  · rw [hD 2 (by omega), hD 3 (by omega), hE 2 (by omega), hE 3 (by omega)]; exact u2.1 i hi
  · rw [hdeg, hC 4 (by omega)]; exact u2.2
  · intro u hu
    rw [hC 5 (by omega)] at hu; omega
  · intro u hu hu6
    rw [hC 5 (by omega)] at hu
    rw [hD 7 (by omega), hD 8 (by omega), hD 9 (by omega), hE 8 (by omega)]
    exact u4.1 u hu hu6
  · rw [hD 9 (by omega), hD 7 (by omega), hC 7 (by omega), hC 12 (by omega)]; exact u4.2
  · intro r hr
    rw [hC 6 (by omega)] at hr; omega
  · intro o ho
    rw [hC 8 (by omega)] at ho; omega
  · intro d hd
    rw [hD 15 (by omega), e3 10 (by omega)]; exact ⟨(u7 d hd).1, fun z => absurd ((u7 d hd).2 z) (by omega)⟩
  · intro k hk
    rw [hC 9 (by omega)] at hk; omega
  · intro o ho d hd
    rw [hD 14 (by omega), hC 9 (by omega), hE 15 (by omega), hE 16 (by omega), hE 17 (by omega)]
    exact u8.2 o ho d hd
  · intro i hi
    rw [hC 11 (by omega)] at hi; omega
theorem line_flight (cx : qCx s s2 t f n b I0 J0) (h : qGo (qZp t f 0 C) t f n I0 L0 J0 K0 I L J K) (hk : I 187 4 = 1) (h0 : C 0 = 0) : qLine C (jd 53 7 [some (.ref 181), none, some (.int 0), none, none] [] (I, L, s)) (jD 220 [.ref 240] (J, K, s2)) s s2 t f n I0 L0 J0 K0 := by
  obtain ⟨hr, hn, -, hm, h4, hf, hf0, hf9, -, -, htx⟩ := id cx
  obtain ⟨k6, r0, r1, r2, r3, r5, k182, z182, row2, row3, k7, r7, rt, hfl, ht⟩ := id hr
  have hz : ∀ p C, qStab (qZp t f p C) := fun p C => zp_stab ht hf9
  have r00 := fl_k hfl (k := 0) (n := 12) (by omega) rfl
  have t0 : ¬ t = 0 := by omega
  obtain ⟨I1, L1, J1, K1, e1, d1, g1, -⟩ := go_next cx (hz 0 C) h (by rw [hk]; decide) (by rw [hk]; decide)
  have hE0 : J f 0 = 0 := by rw [zp_m h.2.2.2.2 (by omega), h0]; rfl
  have cl : jd 53 7 [some (.ref 181), none, some (.int 0), none, none] [] (I, L, s) = jd 53 8 [some (.ref 181), none, some (.int 0), none, none] [] (I1, L1, s) := by
    rw [E_53_7_0]
    simp only [↓reduceIte, q_i, q_l, q_k, q_r, q_z, q_si, q_sl, jx_lt, jx_ri, jx_rl, jx_rv, if_true, if_false, Nat.reduceLeDiff, Nat.add_one_ne_zero, and_self, true_or, or_true, Nat.reduceEqDiff, or_self, or_false, false_or, k6, r0, k7, e1]
  have rf : jD 220 [.ref 240] (J, K, s2) = jd 220 1 [some (.ref 240), none, none, none] [] (J, K, s2) := by
    rw [D_220, E_220_0]
    simp only [↓reduceIte, q_i, q_l, q_k, q_r, q_z, q_si, q_sl, jx_lt, jx_ri, jx_rl, jx_rv, if_true, if_false, Nat.reduceLeDiff, Nat.add_one_ne_zero, and_self, true_or, or_true, Nat.reduceEqDiff, or_self, or_false, false_or, mo_k hm, h4, hf0, mf_k hf, hE0, Int32.le_refl]
  have fin0 : ∀ I' L', jD 55 [.ref 181] (I1, L1, s) = some (some (.int 0), I', L', s) → jd 53 7 [some (.ref 181), none, some (.int 0), none, none] [] (I, L, s) = some (some (.int 0), I', L', s) := fun I' L' e => by
    rw [cl, E_53_8]
    simp only [↓reduceIte, q_i, q_l, q_k, q_r, q_z, q_si, q_sl, jx_lt, jx_ri, jx_rl, jx_rv, if_true, if_false, Nat.reduceLeDiff, Nat.add_one_ne_zero, and_self, true_or, or_true, Nat.reduceEqDiff, or_self, or_false, false_or, k6, e]
    rw [E_53_19]
    simp only [↓reduceIte, q_i, q_l, q_k, q_r, q_z, q_si, q_sl, jx_lt, jx_ri, jx_rl, jx_rv, if_true, if_false, Nat.reduceLeDiff, Nat.add_one_ne_zero, and_self, true_or, or_true, Nat.reduceEqDiff, or_self, or_false, false_or]
    rw [E_53_20, if_pos (Or.inl rfl)]
  have m5 : ∀ J' K' x y z, J' 240 9 = 5 → (if J' 240 9 = 5 then some (none, J', K', s2) else jd 220 2 [some (.ref 240), some (.int x), some (.int y), some (.int z)] [] (J', K', s2)) = (some (none, J', K', s2) : Option (Option Value × jM)) := fun J' K' x y z e => by rw [if_pos e]
  rw [rf]
  have c6 : ∀ (M : jM) (x1 x2 x3 : Int32), jd 55 6 [some (.ref 181), some (.int x1), some (.int x2), none] [.int (-1)] M = some (some (.int 0), M) := fun M x1 x2 x3 => by
    rw [E_55_6, if_pos rfl, if_pos (Or.inl rfl)]
  have c4 : ∀ (M : jM) (x1 : Int32), jd 55 4 [some (.ref 181), some (.int x1), none, none] [.int (-1)] M = some (some (.int 0), M) := fun M x1 => by
    rw [E_55_4, if_pos rfl, E_55_5]
    exact c6 M x1 (-1) 0
  have c2 : ∀ M : jM, jd 55 2 [some (.ref 181), none, none, none] [.int (-1)] M = some (some (.int 0), M) := fun M => by
    rw [E_55_2, if_pos rfl, E_55_3]
    exact c4 M (-1)
  rcases go_wnum cx (hz 0 C) g1 (c := 13) (m := 32) (by omega) (by omega) t13.1 2 20 with ⟨v1, Ia, La, I2, L2, J2, K2, a1, a2, b1, b2, b3, g2⟩ | ⟨u, I2, L2, J2, K2, b1, b3, fa⟩
  · have hv1 : ¬ v1 = -1 := fun z => a1 (by rw [z]; decide)
    rcases go_wnum cx (hz 0 C) g2 (c := 14) (m := 33) (by omega) (by omega) t13.2.1 0 99 with ⟨v2, Ib, Lb, I3, L3, J3, K3, a3, a4, b4, b5, b6, g3⟩ | ⟨u, I3, L3, J3, K3, b4, b6, fa⟩
    · have hv2 : ¬ v2 = -1 := fun z => a3 (by rw [z]; decide)
      rcases go_wnum cx (hz 0 C) g3 (c := 15) (m := 34) (by omega) (by omega) t13.2.2.1 1 999 with ⟨v3, Ic, Lc, I4, L4, J4, K4, a5, a6, b7, b8, b9, g4⟩ | ⟨u, I4, L4, J4, K4, b7, b9, fa⟩
      · have hv3 : ¬ v3 = -1 := fun z => a5 (by rw [z]; decide)
        left
        obtain ⟨x1, rfl, x1a, x1b⟩ := num_w (l := 2) (m := 20) (by omega) (by omega) a1 a2
        obtain ⟨x2, rfl, -, x2b⟩ := num_w (l := 0) (m := 99) (by omega) (by omega) a3 a4
        obtain ⟨x3, rfl, -, x3b⟩ := num_w (l := 1) (m := 999) (by omega) (by omega) a5 a6
        have hz4 := g4.2.2.2.2
        have hI4 := fun k hk => zp_f hz4 (k := k) hk
        have hJ4 := fun k hk => zp_m hz4 (k := k) hk
        have hall := hz4.2.1.2.2.2.2.1 h0
        obtain ⟨C', cA, cB, cC, hC⟩ : ∃ C' : Nat → Nat, C' 0 = x1 ∧ C' 1 = x2 ∧ C' 2 = x3 ∧ ∀ k, 3 ≤ k → C' k = C k := ⟨fun k => if k = 0 then x1 else if k = 1 then x2 else if k = 2 then x3 else C k, rfl, rfl, rfl, fun k hk => by
          show (if k = 0 then x1 else if k = 1 then x2 else if k = 2 then x3 else C k) = C k
          rw [if_neg (by omega), if_neg (by omega), if_neg (by omega)]⟩
        refine ⟨C', q_up I4 (t + 2) (q_set (q_set (q_set (I4 (t + 2)) 0 (w x1)) 1 (w x2)) 2 (w x3)), L4, q_up J4 f (q_set (q_set (q_set (J4 f) 0 (w x1)) 1 (w x2)) 2 (w x3)), K4, ?_, ?_, ?_, ?_⟩
        · rw [cl, E_53_8]
          simp only [↓reduceIte, q_i, q_l, q_k, q_r, q_z, q_si, q_sl, jx_lt, jx_ri, jx_rl, jx_rv, if_true, if_false, Nat.reduceLeDiff, Nat.add_one_ne_zero, and_self, true_or, or_true, Nat.reduceEqDiff, or_self, or_false, false_or, k6, D_55, E_55_0, b1, b2, show ¬ (1 : Int32) = 0 by decide]
          rw [E_55_2, if_neg hv1]
          simp only [↓reduceIte, q_i, q_l, q_k, q_r, q_z, q_si, q_sl, jx_lt, jx_ri, jx_rl, jx_rv, if_true, if_false, Nat.reduceLeDiff, Nat.add_one_ne_zero, and_self, true_or, or_true, Nat.reduceEqDiff, or_self, or_false, false_or, k6, b4, b5, show ¬ (1 : Int32) = 0 by decide]
          rw [E_55_4, if_neg hv2]
          simp only [↓reduceIte, q_i, q_l, q_k, q_r, q_z, q_si, q_sl, jx_lt, jx_ri, jx_rl, jx_rv, if_true, if_false, Nat.reduceLeDiff, Nat.add_one_ne_zero, and_self, true_or, or_true, Nat.reduceEqDiff, or_self, or_false, false_or, k6, b7, b8, show ¬ (1 : Int32) = 0 by decide]
          rw [E_55_6, if_neg hv3, E_55_7]
          have q0 : ∀ (g : Nat → Int32) v, q_put 12 g 0 v = q_set g 0 v := fun g v => q_put_w (n := 12) (k := 0) (by omega) (by omega)
          have q1 : ∀ (g : Nat → Int32) v, q_put 12 g 1 v = q_set g 1 v := fun g v => q_put_w (n := 12) (k := 1) (by omega) (by omega)
          have q2 : ∀ (g : Nat → Int32) v, q_put 12 g 2 v = q_set g 2 v := fun g v => q_put_w (n := 12) (k := 2) (by omega) (by omega)
          simp only [↓reduceIte, q_i, q_l, q_k, q_r, q_z, q_si, q_sl, jx_lt, jx_ri, jx_rl, jx_rv, if_true, if_false, Nat.reduceLeDiff, Nat.add_one_ne_zero, and_self, true_or, or_true, Nat.reduceEqDiff, or_self, or_false, false_or, k6, r5, t0, hfl.1, r00.1, r00.2.1, put_eq r00.2, q0, q1, q2, q_up_up, q_up_eq]
          rw [E_53_19]
          simp only [↓reduceIte, q_i, q_l, q_k, q_r, q_z, q_si, q_sl, jx_lt, jx_ri, jx_rl, jx_rv, if_true, if_false, Nat.reduceLeDiff, Nat.add_one_ne_zero, and_self, true_or, or_true, Nat.reduceEqDiff, or_self, or_false, false_or, show ¬ (1 : Int32) = 0 by decide, show (0 : Int32) < 3 by decide]
          rw [E_53_20, if_pos (Or.inr rfl)]
        · rw [E_220_1]
          simp only [↓reduceIte, q_i, q_l, q_k, q_r, q_z, q_si, q_sl, jx_lt, jx_ri, jx_rl, jx_rv, if_true, if_false, Nat.reduceLeDiff, Nat.add_one_ne_zero, and_self, true_or, or_true, Nat.reduceEqDiff, or_self, or_false, false_or, mo_k hm, d1, b3, b6, b9, g4.2.2.1]
          rw [E_220_2]
          simp only [↓reduceIte, q_i, q_l, q_k, q_r, q_z, q_si, q_sl, jx_lt, jx_ri, jx_rl, jx_rv, if_true, if_false, Nat.reduceLeDiff, Nat.add_one_ne_zero, and_self, true_or, or_true, Nat.reduceEqDiff, or_self, or_false, false_or, mo_k hm, h4, hf0, mf_k hf, q_up_up, q_up_eq]
        · refine go_put cx g4 (fun a ha => q_up_ne (by omega)) (fun a ha => q_up_ne (by omega)) (fun a ha => rfl) ?_ ⟨?_, ?_⟩
          · obtain ⟨c, hc, e⟩ := g4.1.2.2.2.2.2.2
            exact ⟨c, hc, by rw [q_up_eq, q_set_ne (by omega), q_set_ne (by omega), q_set_ne (by omega)]; exact e⟩
          · obtain ⟨y1, y2, y3, y4, y5⟩ := hz4.1
            rw [hC 3 (by omega), hC 5 (by omega), hC 8 (by omega)]
            refine ⟨y1, y2, ?_, ?_, fun i hi => ?_⟩
            · rw [q_up_ne (by omega)]; exact y3
            · rw [q_up_eq, q_set_ne (by omega), q_set_ne (by omega), q_set_ne (by omega)]; exact y4
            · rw [q_up_ne (show (183 + 1 : Nat) ≠ t + 2 by omega), q_up_ne (show (185 + 1 : Nat) ≠ t + 2 by omega), q_up_ne (show f + 22 ≠ f by omega), q_up_ne (show f + 23 ≠ f by omega)]
              exact y5 i hi
          · have eD : qd (q_up I4 (t + 2) (q_set (q_set (q_set (I4 (t + 2)) 0 (w x1)) 1 (w x2)) 2 (w x3))) t = fun k => if k = 0 then q_set (q_set (q_set (I4 (t + 2)) 0 (w x1)) 1 (w x2)) 2 (w x3) else qd I4 t k := qd_up (r := 0) (by omega)
            have eE : qme (q_up J4 f (q_set (q_set (q_set (J4 f) 0 (w x1)) 1 (w x2)) 2 (w x3))) f = fun k => if k = 0 then q_set (q_set (q_set (J4 f) 0 (w x1)) 1 (w x2)) 2 (w x3) else qme J4 f k := me_up (r := 0) (by omega)
            have hset : ∀ (g : Nat → Int32) k, 3 ≤ k → q_set (q_set (q_set g 0 (w x1)) 1 (w x2)) 2 (w x3) k = g k := fun g k hk3 => by
              rw [q_set_ne (by omega), q_set_ne (by omega), q_set_ne (by omega)]
            have s0 : ∀ g : Nat → Int32, q_set (q_set (q_set g 0 (w x1)) 1 (w x2)) 2 (w x3) 0 = w x1 := fun g => by rw [q_set_ne (by omega), q_set_ne (by omega), q_set_eq]
            have s1 : ∀ g : Nat → Int32, q_set (q_set (q_set g 0 (w x1)) 1 (w x2)) 2 (w x3) 1 = w x2 := fun g => by rw [q_set_ne (by omega), q_set_eq]
            have s2' : ∀ g : Nat → Int32, q_set (q_set (q_set g 0 (w x1)) 1 (w x2)) 2 (w x3) 2 = w x3 := fun g => q_set_eq
            exact fy_flight hz4.2 h0 cA cB cC hC ⟨x1a, x1b, x2b, x3b⟩ (fun k hk0 => by rw [eD]; exact if_neg hk0) (fun k hk0 => by rw [eE]; exact if_neg hk0) (by rw [eD]; exact s0 (I4 (t + 2))) (by rw [eD]; exact s1 (I4 (t + 2))) (by rw [eD]; exact s2' (I4 (t + 2))) (fun k hk3 => by rw [eD]; exact hset (I4 (t + 2)) k hk3) (by rw [eE]; exact s0 (J4 f)) (by rw [eE]; exact s1 (J4 f)) (by rw [eE]; exact s2' (J4 f)) (fun k hk3 => by rw [eE]; exact hset (J4 f) k hk3)
        · refine ⟨by rw [cA]; omega, ?_⟩
          unfold qMu
          rw [if_pos h0, if_neg (show ¬ C' 0 = 0 by rw [cA]; omega), hC 3 (by omega), hC 4 (by omega), hC 5 (by omega), hC 6 (by omega), hC 7 (by omega), hC 8 (by omega), hC 9 (by omega), hC 10 (by omega), hC 11 (by omega), hC 12 (by omega)]
          omega
      · right
        have h5 := fa_5 fa
        refine ⟨I4, L4, J4, K4, fin0 _ _ ?_, ?_, fa⟩
        · simp only [↓reduceIte, q_i, q_l, q_k, q_r, q_z, q_si, q_sl, jx_lt, jx_ri, jx_rl, jx_rv, if_true, if_false, Nat.reduceLeDiff, Nat.add_one_ne_zero, and_self, true_or, or_true, Nat.reduceEqDiff, or_self, or_false, false_or, k6, D_55, E_55_0, b1, b2, show ¬ (1 : Int32) = 0 by decide]
          rw [E_55_2, if_neg hv1]
          simp only [↓reduceIte, q_i, q_l, q_k, q_r, q_z, q_si, q_sl, jx_lt, jx_ri, jx_rl, jx_rv, if_true, if_false, Nat.reduceLeDiff, Nat.add_one_ne_zero, and_self, true_or, or_true, Nat.reduceEqDiff, or_self, or_false, false_or, k6, b4, b5, show ¬ (1 : Int32) = 0 by decide]
          rw [E_55_4, if_neg hv2]
          rcases b7 with b7 | ⟨Ic, Lc, b7, b8⟩
          · simp only [↓reduceIte, q_i, q_l, q_k, q_r, q_z, q_si, q_sl, jx_lt, jx_ri, jx_rl, jx_rv, if_true, if_false, Nat.reduceLeDiff, Nat.add_one_ne_zero, and_self, true_or, or_true, Nat.reduceEqDiff, or_self, or_false, false_or, k6, b7]
            rw [E_55_5]
            exact c6 _ _ _ 0
          · simp only [↓reduceIte, q_i, q_l, q_k, q_r, q_z, q_si, q_sl, jx_lt, jx_ri, jx_rl, jx_rv, if_true, if_false, Nat.reduceLeDiff, Nat.add_one_ne_zero, and_self, true_or, or_true, Nat.reduceEqDiff, or_self, or_false, false_or, k6, b7, b8, show ¬ (1 : Int32) = 0 by decide]
            exact c6 _ _ _ 0
        · rw [E_220_1]
          simp only [↓reduceIte, q_i, q_l, q_k, q_r, q_z, q_si, q_sl, jx_lt, jx_ri, jx_rl, jx_rv, if_true, if_false, Nat.reduceLeDiff, Nat.add_one_ne_zero, and_self, true_or, or_true, Nat.reduceEqDiff, or_self, or_false, false_or, mo_k hm, d1, b3, b6, b9, h5]
    · right
      have h5 := fa_5 fa
      refine ⟨I3, L3, J3, K3, fin0 _ _ ?_, ?_, fa⟩
      · simp only [↓reduceIte, q_i, q_l, q_k, q_r, q_z, q_si, q_sl, jx_lt, jx_ri, jx_rl, jx_rv, if_true, if_false, Nat.reduceLeDiff, Nat.add_one_ne_zero, and_self, true_or, or_true, Nat.reduceEqDiff, or_self, or_false, false_or, k6, D_55, E_55_0, b1, b2, show ¬ (1 : Int32) = 0 by decide]
        rw [E_55_2, if_neg hv1]
        rcases b4 with b4 | ⟨Ic, Lc, b4, b5⟩
        · simp only [↓reduceIte, q_i, q_l, q_k, q_r, q_z, q_si, q_sl, jx_lt, jx_ri, jx_rl, jx_rv, if_true, if_false, Nat.reduceLeDiff, Nat.add_one_ne_zero, and_self, true_or, or_true, Nat.reduceEqDiff, or_self, or_false, false_or, k6, b4]
          rw [E_55_3]
          exact c4 _ _
        · simp only [↓reduceIte, q_i, q_l, q_k, q_r, q_z, q_si, q_sl, jx_lt, jx_ri, jx_rl, jx_rv, if_true, if_false, Nat.reduceLeDiff, Nat.add_one_ne_zero, and_self, true_or, or_true, Nat.reduceEqDiff, or_self, or_false, false_or, k6, b4, b5, show ¬ (1 : Int32) = 0 by decide]
          exact c4 _ _
      · rw [E_220_1]
        simp only [↓reduceIte, q_i, q_l, q_k, q_r, q_z, q_si, q_sl, jx_lt, jx_ri, jx_rl, jx_rv, if_true, if_false, Nat.reduceLeDiff, Nat.add_one_ne_zero, and_self, true_or, or_true, Nat.reduceEqDiff, or_self, or_false, false_or, mo_k hm, d1, b3, b6, z209 hm h5, h5]
  · right
    have h5 := fa_5 fa
    refine ⟨I2, L2, J2, K2, fin0 _ _ ?_, ?_, fa⟩
    · rcases b1 with b1 | ⟨Ic, Lc, b1, b2⟩
      · simp only [↓reduceIte, q_i, q_l, q_k, q_r, q_z, q_si, q_sl, jx_lt, jx_ri, jx_rl, jx_rv, if_true, if_false, Nat.reduceLeDiff, Nat.add_one_ne_zero, and_self, true_or, or_true, Nat.reduceEqDiff, or_self, or_false, false_or, k6, D_55, E_55_0, b1]
        rw [E_55_1]
        exact c2 _
      · simp only [↓reduceIte, q_i, q_l, q_k, q_r, q_z, q_si, q_sl, jx_lt, jx_ri, jx_rl, jx_rv, if_true, if_false, Nat.reduceLeDiff, Nat.add_one_ne_zero, and_self, true_or, or_true, Nat.reduceEqDiff, or_self, or_false, false_or, k6, D_55, E_55_0, b1, b2, show ¬ (1 : Int32) = 0 by decide]
        exact c2 _
    · rw [E_220_1]
      simp only [↓reduceIte, q_i, q_l, q_k, q_r, q_z, q_si, q_sl, jx_lt, jx_ri, jx_rl, jx_rv, if_true, if_false, Nat.reduceLeDiff, Nat.add_one_ne_zero, and_self, true_or, or_true, Nat.reduceEqDiff, or_self, or_false, false_or, mo_k hm, d1, b3, z209 hm h5, h5]
end PL
