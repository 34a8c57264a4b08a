/-! READING: a hall asked for, on both sides -/
section PH2
variable {s s2 : qS} {t f n : Nat} {b : Nat → Nat} {I0 J0 I J : qI} {L0 K0 L K : qL} {Z : qI → qL → qI → qL → Prop} {C : Nat → Nat} {c p : Nat}
theorem go_hall (cx : qCx s s2 t f n b I0 J0) (hz : qStab Z) (h : qGo Z t f n I0 L0 J0 K0 I L J K) (hna : qNa (C 3) (C 5) (C 8) c p f I L J K) (hS : C 3 ≤ 8) (hst : ∀ i, i < C 3 → J (f + 1) i = I (t + 1 + 2 * 1 + 1) i) (hp : p = 1 → I (183 + 1) (11 + c) ≠ 3 ∧ I (183 + 1) (11 + c) ≠ 0) : (∃ a I' L' J' K', a < C 3 ∧ jD 70 [.ref 181] (I, L, s) = some (some (.int (w a)), I', L', s) ∧ jD 217 [.ref 240] (J, K, s2) = some (some (.int (w a)), J', K', s2) ∧ qGo Z t f n I0 L0 J0 K0 I' L' J' K' ∧ (∀ a, a ≠ 187 → I' a = I a) ∧ (∀ a, a ≠ 240 → J' a = J a)) ∨ (∃ x I' L' J' K', jD 70 [.ref 181] (I, L, s) = some (some (.int (-1)), I', L', s) ∧ jD 217 [.ref 240] (J, K, s2) = some (some (.int x), J', K', s2) ∧ qFa t f n I0 L0 J0 K0 I' L' J' K') := by
  obtain ⟨hr, hn, -, hm, h4, hf, hf0, hf9, -, -, htx⟩ := id cx
  obtain ⟨k6, r0, r1, r2, r3, r5, k182, z182, row2, row3, k7, r7, rt, hfl, ht⟩ := id hr
  have r01 := fl_k hfl (k := 1) (n := 8) (by omega) rfl
  have t0 : ¬ t = 0 := by omega
  rcases go_find (kc := 3) (kr := 0) (N := C 3) cx h hna hp (Or.inl ⟨rfl, rfl, rfl⟩) with ⟨a, ha, cs, e72, e215⟩ | ⟨I', J', e72, e215, fa⟩
  · have hJa := hst a ha
    by_cases ch : I (t + 1 + 2 * 1 + 1) a = 0
    · left
      obtain ⟨I', L', J', K', e1, e2, e3, e4, e5⟩ := go_next cx hz h (by rw [cs]; decide) (by rw [cs]; decide)
      refine ⟨a, I', L', J', K', ha, ?_, ?_, e3, e4, e5⟩
      · rw [D_70, E_70_0]
        simp only [↓reduceIte, q_i, q_l, q_k, q_r, q_z, q_si, q_sl, jx_lt, jx_ri, jx_rl, jx_rv, if_true, if_false, Nat.reduceLeDiff, Nat.add_one_ne_zero, and_self, true_or, or_true, Nat.reduceEqDiff, or_self, or_false, false_or, k6, e72, show ¬ w a = (-1 : Int32) from w_m1 (by omega)]
        rw [E_70_1]
        simp only [↓reduceIte, q_i, q_l, q_k, q_r, q_z, q_si, q_sl, jx_lt, jx_ri, jx_rl, jx_rv, if_true, if_false, Nat.reduceLeDiff, Nat.add_one_ne_zero, and_self, true_or, or_true, Nat.reduceEqDiff, or_self, or_false, false_or, k6, r5, t0, hfl.1, r01.1, r01.2.1, look_eq r01.2, q_at_w (n := 8) (k := a) (by omega) (by omega), ch]
        rw [E_70_2]
        simp only [↓reduceIte, q_i, q_l, q_k, q_r, q_z, q_si, q_sl, jx_lt, jx_ri, jx_rl, jx_rv, if_true, if_false, Nat.reduceLeDiff, Nat.add_one_ne_zero, and_self, true_or, or_true, Nat.reduceEqDiff, or_self, or_false, false_or, k6, r0, k7, e1]
      · rw [D_217, E_217_0]
        simp only [↓reduceIte, q_i, q_l, q_k, q_r, q_z, q_si, q_sl, jx_lt, jx_ri, jx_rl, jx_rv, if_true, if_false, Nat.reduceLeDiff, Nat.add_one_ne_zero, and_self, true_or, or_true, Nat.reduceEqDiff, or_self, or_false, false_or, mo_k hm, e215, h.2.2.1, h4, hf0, mf_k hf, mf_r14 hf, mf_k14 hf, mf_z14 hf, Nat.add_eq_zero_iff, and_false, w_nn (a := a) (by omega), show ¬ 8 ≤ a by omega, w_tc (a := a) (by omega), hJa, ch]
        rw [E_217_1]
        simp only [↓reduceIte, q_i, q_l, q_k, q_r, q_z, q_si, q_sl, jx_lt, jx_ri, jx_rl, jx_rv, if_true, if_false, Nat.reduceLeDiff, Nat.add_one_ne_zero, and_self, true_or, or_true, Nat.reduceEqDiff, or_self, or_false, false_or, mo_k hm, e2]
    · right
      have fa := go_fault cx h (r := 2) (by decide) (by decide)
      have h51 : (q_up J 240 (q_set (q_set (q_set (J 240) 13 2) 14 (J 240 10)) 9 5)) 240 9 = 5 := fa_5 fa
      refine ⟨w a, _, _, _, _, ?_, ?_, fa⟩
      · rw [D_70, E_70_0]
        simp only [↓reduceIte, q_i, q_l, q_k, q_r, q_z, q_si, q_sl, jx_lt, jx_ri, jx_rl, jx_rv, if_true, if_false, Nat.reduceLeDiff, Nat.add_one_ne_zero, and_self, true_or, or_true, Nat.reduceEqDiff, or_self, or_false, false_or, k6, e72, show ¬ w a = (-1 : Int32) from w_m1 (by omega)]
        rw [E_70_1]
        simp only [↓reduceIte, q_i, q_l, q_k, q_r, q_z, q_si, q_sl, jx_lt, jx_ri, jx_rl, jx_rv, if_true, if_false, Nat.reduceLeDiff, Nat.add_one_ne_zero, and_self, true_or, or_true, Nat.reduceEqDiff, or_self, or_false, false_or, k6, r5, t0, hfl.1, r01.1, r01.2.1, look_eq r01.2, q_at_w (n := 8) (k := a) (by omega) (by omega), ch, c52 hr]
        rfl
      · rw [D_217, E_217_0]
        simp only [↓reduceIte, q_i, q_l, q_k, q_r, q_z, q_si, q_sl, jx_lt, jx_ri, jx_rl, jx_rv, if_true, if_false, Nat.reduceLeDiff, Nat.add_one_ne_zero, and_self, true_or, or_true, Nat.reduceEqDiff, or_self, or_false, false_or, mo_k hm, e215, h.2.2.1, h4, hf0, mf_k hf, mf_r14 hf, mf_k14 hf, mf_z14 hf, Nat.add_eq_zero_iff, and_false, w_nn (a := a) (by omega), show ¬ 8 ≤ a by omega, w_tc (a := a) (by omega), hJa, ch, m203 hm h.2.2.1]
        rw [E_217_1]
        simp only [↓reduceIte, q_i, q_l, q_k, q_r, q_z, q_si, q_sl, jx_lt, jx_ri, jx_rl, jx_rv, if_true, if_false, Nat.reduceLeDiff, Nat.add_one_ne_zero, and_self, true_or, or_true, Nat.reduceEqDiff, or_self, or_false, false_or, mo_k hm, z202 hm h51]
        rfl
  · right
    have h5 := fa_5 fa
    refine ⟨0, I', L, J', K, ?_, ?_, fa⟩
    · simp only [D_70, E_70_0, ↓reduceIte, q_i, q_l, q_k, q_r, q_z, q_si, q_sl, jx_lt, jx_ri, jx_rl, jx_rv, if_true, if_false, Nat.reduceLeDiff, Nat.add_one_ne_zero, and_self, true_or, or_true, Nat.reduceEqDiff, or_self, or_false, false_or, k6, e72]
    · rw [D_217, E_217_0]
      simp only [↓reduceIte, q_i, q_l, q_k, q_r, q_z, q_si, q_sl, jx_lt, jx_ri, jx_rl, jx_rv, if_true, if_false, Nat.reduceLeDiff, Nat.add_one_ne_zero, and_self, true_or, or_true, Nat.reduceEqDiff, or_self, or_false, false_or, mo_k hm, e215, h5]
      rw [E_217_1]
      simp only [↓reduceIte, q_i, q_l, q_k, q_r, q_z, q_si, q_sl, jx_lt, jx_ri, jx_rl, jx_rv, if_true, if_false, Nat.reduceLeDiff, Nat.add_one_ne_zero, and_self, true_or, or_true, Nat.reduceEqDiff, or_self, or_false, false_or, mo_k hm, z202 hm h5]
/-- a name of a kind, then the next token -/
theorem go_name (cx : qCx s s2 t f n b I0 J0) (hz : qStab Z) (h : qGo Z t f n I0 L0 J0 K0 I L J K) (hna : qNa (C 3) (C 5) (C 8) c p f I L J K) {kc kr : Int32} {N : Nat} (hp : p = 1 → I (183 + 1) (11 + c) ≠ kc ∧ I (183 + 1) (11 + c) ≠ 0) (ha : qAsk (C 3) (C 5) (C 8) kc kr N) : (∃ a I' L' J' K', a < N ∧ I 187 4 = 1 ∧ jD 72 [.ref 181, .int kc] (I, L, s) = some (some (.int (w a)), I, L, s) ∧ jD 86 [.ref 187] (I, L, s) = some (none, I', L', s) ∧ jD 216 [.ref 240, .int kr] (J, K, s2) = some (some (.int (w a)), J', K', s2) ∧ qGo Z t f n I0 L0 J0 K0 I' L' J' K' ∧ (∀ a, a ≠ 187 → I' a = I a) ∧ (∀ a, a ≠ 240 → J' a = J a)) ∨ (∃ I' J', jD 72 [.ref 181, .int kc] (I, L, s) = some (some (.int (-1)), I', L, s) ∧ jD 216 [.ref 240, .int kr] (J, K, s2) = some (some (.int 0), J', K, s2) ∧ qFa t f n I0 L0 J0 K0 I' L J' K) := by
  have hm := cx.2.2.2.1
  rcases go_find (kc := kc) (kr := kr) (N := N) cx h hna hp ha with ⟨a, ha, cs, e72, e215⟩ | ⟨I', J', e72, e215, fa⟩
  · left
    obtain ⟨I', L', J', K', e1, e2, e3, e4, e5⟩ := go_next cx hz h (by rw [cs]; decide) (by rw [cs]; decide)
    refine ⟨a, I', L', J', K', ha, cs, e72, e1, ?_, e3, e4, e5⟩
    simp only [D_216, E_216_0, ↓reduceIte, q_i, q_l, q_k, q_r, q_z, q_si, q_sl, jx_lt, jx_ri, jx_rl, jx_rv, if_true, if_false, Nat.reduceLeDiff, Nat.add_one_ne_zero, and_self, true_or, or_true, Nat.reduceEqDiff, or_self, or_false, false_or, mo_k hm, e215, e2]
  · right
    refine ⟨I', J', e72, ?_, fa⟩
    simp only [D_216, E_216_0, ↓reduceIte, q_i, q_l, q_k, q_r, q_z, q_si, q_sl, jx_lt, jx_ri, jx_rl, jx_rv, if_true, if_false, Nat.reduceLeDiff, Nat.add_one_ne_zero, and_self, true_or, or_true, Nat.reduceEqDiff, or_self, or_false, false_or, mo_k hm, e215, z202 hm (fa_5 fa)]
end PH2
