/-! READING: the line of rain -/
theorem fy_rain {D E D' E' : Nat → Nat → Int32} {C C' : Nat → Nat} {v : Nat} (h : qFy D E C) (hv : v < C 0) (h10 : C 10 < 10) (cC : C' 10 = C 10 + 1) (cO : ∀ k, k ≠ 10 → C' k = C k) (hD : ∀ k, k ≠ 0 → k ≠ 15 → D' k = D k) (hE : ∀ k, k ≠ 0 → E' k = E k) (d0 : ∀ k, k ≠ 10 → D' 0 k = D 0 k) (d10 : D' 0 10 = w (C 10 + 1)) (d15 : D' 15 v = 1) (d15' : ∀ i, i ≠ v → D' 15 i = D 15 i) (e0 : ∀ k, k ≠ 10 → k ≠ 11 → E' 0 k = E 0 k) (e10 : E' 0 10 = E 0 10 ||| ((1 : Int32) <<< (w v &&& 31))) (e11 : E' 0 11 = w (C 10 + 1)) : qFy D' E' C' := by
  obtain ⟨⟨w1, w2, w3, w4, w5, w6⟩, u1, u2, u3, u4, u5, u6, u7, u8, u9⟩ := h
  have hd0 : C 0 ≤ 20 := (w1 0 (by omega)).2
  have hdeg : q_deg D' 8 = q_deg D 8 := by
    funext a
    unfold q_deg
    rw [hD 2 (by omega) (by omega)]
  have hrt : ∀ S h x k g, qRt D' S h x k g ↔ qRt D S h x k g := fun S h x k g => by unfold qRt; rw [hD 2 (by omega) (by omega)]
  refine ⟨⟨fun k hk => ?_, fun k hk => ?_, ?_, ?_, fun e => ?_, ?_⟩, fun i hi => ?_, ⟨fun i hi => ?_, ?_⟩, fun u hu => ?_, ⟨?_, ?_⟩, fun r hr => ?_, fun o ho => ?_, fun d hd => ?_, ⟨fun k hk => ?_, fun o ho d hd => ?_⟩, fun i hi => ?_⟩
  · by_cases c : k = 10
    · rw [c, d10, cC]; exact ⟨rfl, h10⟩
    · rw [d0 k c, cO k c]; exact w1 k hk
  · rw [e0 k (by omega) (by omega), cO k (by omega)]; exact w2 k hk
  · rw [e11, cC]
  · rw [e0 12 (by omega) (by omega), cO 11 (by omega)]; exact w4
  · rw [cO 0 (by omega)] at e; omega
  · rw [cO 0 (by omega)]; exact w6
  · rw [cO 3 (by omega)] at hi
    rw [hD 1 (by omega) (by omega), hE 1 (by omega)]; exact u1 i hi
  · rw [hD 2 (by omega) (by omega), hD 3 (by omega) (by omega), hE 2 (by omega), hE 3 (by omega)]; exact u2.1 i hi
  · rw [hdeg, cO 4 (by omega)]; exact u2.2
  · rw [cO 5 (by omega)] at hu
    obtain ⟨c1, c2, h, c3, c4, c5, c6, ⟨k, g, c7, c8⟩, c9, c10⟩ := u3 u hu
    rw [hD 4 (by omega) (by omega), hD 5 (by omega) (by omega), hD 6 (by omega) (by omega), hD 7 (by omega) (by omega), hD 8 (by omega) (by omega), hD 9 (by omega) (by omega), hE 4 (by omega), hE 5 (by omega), hE 6 (by omega), hE 7 (by omega), hE 8 (by omega), hE 9 (by omega), hE 10 (by omega), cO 3 (by omega), cO 0 (by omega)]
    exact ⟨c1, c2, h, c3, c4, c5, c6, ⟨k, g, (hrt _ _ _ _ _).mpr c7, c8⟩, c9, c10⟩
  · rw [cO 5 (by omega), hD 7 (by omega) (by omega), hD 8 (by omega) (by omega), hD 9 (by omega) (by omega), hE 8 (by omega)]; exact u4.1
  · rw [hD 9 (by omega) (by omega), hD 7 (by omega) (by omega), cO 7 (by omega), cO 12 (by omega)]; exact u4.2
  · rw [cO 6 (by omega)] at hr
    rw [hD 10 (by omega) (by omega), hD 11 (by omega) (by omega), hD 12 (by omega) (by omega), hE 11 (by omega), hE 12 (by omega), hE 13 (by omega), cO 5 (by omega), cO 0 (by omega), cO 3 (by omega)]
    exact u5 r hr
  · rw [cO 8 (by omega)] at ho
    rw [hD 13 (by omega) (by omega), hE 14 (by omega), cO 3 (by omega)]
    exact u6 o ho
  · rw [e10, cO 0 (by omega), bit_or _ (by omega) (by omega)]
    obtain ⟨q1, q2⟩ := u7 d hd
    by_cases c : d = v
    · rw [c, d15]
      exact ⟨⟨fun _ => Or.inr rfl, fun _ => rfl⟩, fun _ => hv⟩
    · rw [d15' d c, q1]
      refine ⟨⟨fun z => Or.inl z, fun z => z.resolve_right c⟩, fun z => q2 (q1.mpr z)⟩
  · rw [cO 9 (by omega)] at hk
    rw [hE 15 (by omega), hE 16 (by omega), hE 17 (by omega), cO 8 (by omega), cO 0 (by omega)]
    exact u8.1 k hk
  · rw [hD 14 (by omega) (by omega), cO 9 (by omega), hE 15 (by omega), hE 16 (by omega), hE 17 (by omega)]
    exact u8.2 o ho d hd
  · rw [cO 11 (by omega)] at hi
    rw [hD 16 (by omega) (by omega), hD 17 (by omega) (by omega), hD 18 (by omega) (by omega), hE 18 (by omega), hE 19 (by omega), hE 20 (by omega)]
    exact u9 i hi
section PRa
variable {s s2 : qS} {t f n : Nat} {b : Nat → Nat} {I0 J0 I J : qI} {L0 K0 L K : qL} {Z : qI → qL → qI → qL → Prop} {C : Nat → Nat}
theorem m207_y (hm : qMo s2 240) (h9 : J 240 9 = 3) {lo hi : Int32} (h1 : ¬ J 240 12 < lo) (h2 : J 240 12 ≤ hi) : jD 207 [.ref 240, .int lo, .int hi] (J, K, s2) = some (some (.int (J 240 12)), J, K, s2) := by
  have h2' : ¬ hi < J 240 12 := Int32.not_lt.mpr h2
  simp only [D_207, E_207_0, E_207_1, E_207_2, E_207_3, E_207_4, ↓reduceIte, q_i, q_l, q_k, q_r, q_z, q_si, q_sl, jx_lt, jx_ri, jx_rl, jx_rv, if_true, if_false, Nat.reduceLeDiff, Nat.add_one_ne_zero, and_self, true_or, or_true, Nat.reduceEqDiff, or_self, or_false, false_or, mo_k hm, h9, in_eq, h1, h2', show ¬ (1 : Int32) = 0 by decide, show ¬ (3 : Int32) = 5 by decide]
/-- where the number is not one: the fault of 207 -/
theorem m207_n (cx : qCx s s2 t f n b I0 J0) (h : qGo Z t f n I0 L0 J0 K0 I L J K) {lo hi : Int32} (hno : ¬ (J 240 9 = 3 ∧ ¬ J 240 12 < lo ∧ J 240 12 ≤ hi)) : ∃ I' J', jD 69 [.ref 181, .int lo, .int hi] (I, L, s) = some (some (.int (-1)), I', L, s) ∧ jD 207 [.ref 240, .int lo, .int hi] (J, K, s2) = some (some (.int lo), J', K, s2) ∧ qFa t f n I0 L0 J0 K0 I' L J' K := by
  obtain ⟨hr, hn, -, hm, h4, hf, h0, hf9, -, -, htx⟩ := id cx
  obtain ⟨k6, r0, r1, r2, r3, r5, -, -, -, -, k7, -⟩ := id hr
  obtain ⟨-, hs2, -, -, hv, -⟩ := tk_sort h.2.2.2.1
  have h9 := h.2.2.1
  have h95 : ∀ r, q_up J 240 (q_set (q_set (q_set (J 240) 13 r) 14 (J 240 10)) 9 5) 240 9 = 5 := fun r => by rw [q_up_eq, q_set_eq]
  by_cases c : I 187 4 = 2
  · have c' := hs2.mp c
    have hv' := hv c
    have ci : ¬ (¬ J 240 12 < lo ∧ J 240 12 ≤ hi) := fun z => hno ⟨c', z⟩
    have hfa := go_fault cx h (r := 4) (by decide) (by decide)
    refine ⟨_, _, ?_, ?_, hfa⟩
    · have e2 : jd 69 1 [some (.ref 181), some (.int lo), some (.int hi), none] [] (I, L, s) = jd 69 2 [some (.ref 181), none, none, none] [] (I, L, s) := by
        rw [E_69_1]
        simp only [↓reduceIte, q_i, q_l, q_k, q_r, q_z, q_si, q_sl, jx_lt, jx_ri, jx_rl, jx_rv, if_true, if_false, Nat.reduceLeDiff, Nat.add_one_ne_zero, and_self, true_or, or_true, Nat.reduceEqDiff, or_self, or_false, false_or, k6, r0, k7, hv']
        by_cases c1 : J 240 12 < lo
        · rw [if_pos c1]
        · rw [if_neg c1, if_neg (fun z => ci ⟨c1, z⟩)]
      simp only [D_69, E_69_0, ↓reduceIte, q_i, q_l, q_k, q_r, q_z, q_si, q_sl, jx_lt, jx_ri, jx_rl, jx_rv, if_true, if_false, Nat.reduceLeDiff, Nat.add_one_ne_zero, and_self, true_or, or_true, Nat.reduceEqDiff, or_self, or_false, false_or, k6, r0, k7, c, e2, E_69_2, c52 hr]
      rfl
    · have e195 : jD 195 [.int (J 240 12), .int lo, .int hi] (J, K, s2) = some (some (.int 0), J, K, s2) := by
        rw [in_eq]
        by_cases c1 : J 240 12 < lo
        · rw [if_pos c1]
        · rw [if_neg c1, if_pos (Int32.not_le.mp fun z => ci ⟨c1, z⟩)]
      simp only [D_207, E_207_0, E_207_1, E_207_2, E_207_4, ↓reduceIte, q_i, q_l, q_k, q_r, q_z, q_si, q_sl, jx_lt, jx_ri, jx_rl, jx_rv, if_true, if_false, Nat.reduceLeDiff, Nat.add_one_ne_zero, and_self, true_or, or_true, Nat.reduceEqDiff, or_self, or_false, false_or, mo_k hm, c', e195, m203 hm h9, h95]
      rfl
  · have c' : ¬ J 240 9 = 3 := fun z => c (hs2.mpr z)
    have hfa := go_fault cx h (r := 1) (by decide) (by decide)
    refine ⟨_, _, ?_, ?_, hfa⟩
    · simp only [D_69, E_69_0, ↓reduceIte, q_i, q_l, q_k, q_r, q_z, q_si, q_sl, jx_lt, jx_ri, jx_rl, jx_rv, if_true, if_false, Nat.reduceLeDiff, Nat.add_one_ne_zero, and_self, true_or, or_true, Nat.reduceEqDiff, or_self, or_false, false_or, k6, r0, k7, c, c52 hr]
      rfl
    · simp only [D_207, E_207_0, E_207_2, E_207_4, ↓reduceIte, q_i, q_l, q_k, q_r, q_z, q_si, q_sl, jx_lt, jx_ri, jx_rl, jx_rv, if_true, if_false, Nat.reduceLeDiff, Nat.add_one_ne_zero, and_self, true_or, or_true, Nat.reduceEqDiff, or_self, or_false, false_or, mo_k hm, c', m203 hm h9, h95]
      rfl
end PRa
