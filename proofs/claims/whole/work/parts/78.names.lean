/-! READING: names, on both sides -/
abbrev q_isk (x : Int64) : Prop := x = q_tm 31 ∨ x = q_tm 35 ∨ x = q_tm 36 ∨ x = q_tm 37 ∨ x = q_tm 38 ∨ x = q_tm 39 ∨ x = q_tm 40 ∨ x = q_tm 41 ∨ x = q_tm 42 ∨ x = q_tm 43 ∨ x = q_tm 44
theorem kw_eq : wl (q_lw.getD 0 0) = q_tm 31 ∧ wl (q_lw.getD 1 0) = q_tm 38 ∧ wl (q_lw.getD 2 0) = q_tm 35 ∧ wl (q_lw.getD 3 0) = q_tm 36 ∧ wl (q_lw.getD 4 0) = q_tm 37 ∧ wl (q_lw.getD 5 0) = q_tm 39 ∧ wl (q_lw.getD 6 0) = q_tm 40 ∧ wl (q_lw.getD 7 0) = q_tm 41 ∧ wl (q_lw.getD 8 0) = q_tm 42 ∧ wl (q_lw.getD 9 0) = q_tm 43 ∧ wl (q_lw.getD 10 0) = q_tm 44 := by decide +kernel
theorem ten (P : Prop) [Decidable P] : ((if P then (1 : Int32) else 0) = 0) = ¬ P := by
  by_cases c : P
  · rw [if_pos c]; exact propext ⟨fun z => absurd z (by decide), fun z => absurd c z⟩
  · rw [if_neg c]; exact propext ⟨fun _ => c, fun _ => rfl⟩
/-- kinds of names -/
def qNk (S U O : Nat) (kc kr v : Int32) : Prop := (kc = 3 ∧ kr = 0 ∧ ∃ a, a < S ∧ v = w a) ∨ (kc = 5 ∧ kr = 1 ∧ ∃ a, a < U ∧ v = w a) ∨ (kc = 8 ∧ kr = 2 ∧ ∃ a, a < O ∧ v = w a)
/-- the names read, of both; p of the class's are not yet the reference's -/
def qNa (S U O c p f : Nat) (I : qI) (L : qL) (J : qI) (K : qL) : Prop := c + p ≤ 20 ∧ p ≤ 1 ∧ I 181 4 = w (11 + c + p) ∧ J f 13 = w c ∧ (∀ i, i < c → L 182 (11 + i) = K (f + 21) i ∧ J (f + 23) i = I (185 + 1) (11 + i) ∧ qNk S U O (I (183 + 1) (11 + i)) (J (f + 22) i) (J (f + 23) i))
/-- a kind asked for -/
def qAsk (S U O : Nat) (kc kr : Int32) (N : Nat) : Prop := (kc = 3 ∧ kr = 0 ∧ N = S) ∨ (kc = 5 ∧ kr = 1 ∧ N = U) ∨ (kc = 8 ∧ kr = 2 ∧ N = O)
section PN
variable {s s2 : qS} {t f n : Nat} {b : Nat → Nat} {I0 J0 I J : qI} {L0 K0 L K : qL} {Z : qI → qL → qI → qL → Prop}
theorem m211 (cx : qCx s s2 t f n b I0 J0) : jD 211 [.ref 240] (J, K, s2) = some (some (.int (if J 240 9 = 2 ∧ ¬ q_isk (K 240 15) then 1 else 0)), J, K, s2) := by
  obtain ⟨-, -, -, hm, -, -, -, -, -, -, htx⟩ := cx
  have hi : ∀ c : Nat, 2 ≤ c → c < 59 → jD 204 [.ref 240, .ref c] (J, K, s2) = some (some (.int (if J 240 9 = 2 ∧ K 240 15 = q_tm c then 1 else 0)), J, K, s2) := fun c h1 h2 => m_is hm h2 (htx c h1 h2).2
  rw [D_211, E_211_0]
  by_cases c9 : J 240 9 = 2
  · simp only [↓reduceIte, q_i, q_l, q_k, q_r, q_z, q_si, q_sl, jx_lt, jx_ri, jx_rl, jx_rv, if_true, if_false, Nat.reduceLeDiff, Nat.add_one_ne_zero, and_self, true_or, or_true, Nat.reduceEqDiff, or_self, or_false, false_or, mo_k hm, c9, hi 31 (by decide) (by decide), hi 35 (by decide) (by decide), hi 36 (by decide) (by decide), hi 37 (by decide) (by decide), hi 38 (by decide) (by decide), E_211_1, E_211_2, E_211_3, E_211_4, hi 39 (by decide) (by decide), hi 40 (by decide) (by decide), hi 41 (by decide) (by decide), hi 42 (by decide) (by decide), hi 43 (by decide) (by decide), hi 44 (by decide) (by decide), true_and, ten]
    unfold q_isk
    by_cases c1 : K 240 15 = q_tm 31
    · simp only [c1, not_true_eq_false, true_or, if_false, if_true]
    · by_cases c2 : K 240 15 = q_tm 35
      · simp only [c1, c2, not_true_eq_false, not_false_eq_true, true_or, or_true, if_false, if_true, ite_self]
      · by_cases c3 : K 240 15 = q_tm 36
        · simp only [c1, c2, c3, not_true_eq_false, not_false_eq_true, true_or, or_true, if_false, if_true, ite_self]
        · by_cases c4 : K 240 15 = q_tm 37
          · simp only [c1, c2, c3, c4, not_true_eq_false, not_false_eq_true, true_or, or_true, if_false, if_true, ite_self]
          · by_cases c5 : K 240 15 = q_tm 38
            · simp only [c1, c2, c3, c4, c5, not_true_eq_false, not_false_eq_true, true_or, or_true, if_false, if_true, ite_self]
            · by_cases c6 : K 240 15 = q_tm 39
              · simp only [c1, c2, c3, c4, c5, c6, not_true_eq_false, not_false_eq_true, true_or, or_true, if_false, if_true, ite_self]
              · by_cases c7 : K 240 15 = q_tm 40
                · simp only [c1, c2, c3, c4, c5, c6, c7, not_true_eq_false, not_false_eq_true, true_or, or_true, if_false, if_true, ite_self]
                · by_cases c8 : K 240 15 = q_tm 41
                  · simp only [c1, c2, c3, c4, c5, c6, c7, c8, not_true_eq_false, not_false_eq_true, true_or, or_true, if_false, if_true, ite_self]
                  · by_cases d1 : K 240 15 = q_tm 42
                    · simp only [c1, c2, c3, c4, c5, c6, c7, c8, d1, not_true_eq_false, not_false_eq_true, true_or, or_true, if_false, if_true, ite_self]
                    · by_cases d2 : K 240 15 = q_tm 43
                      · simp only [c1, c2, c3, c4, c5, c6, c7, c8, d1, d2, not_true_eq_false, not_false_eq_true, true_or, or_true, if_false, if_true, ite_self]
                      · by_cases d3 : K 240 15 = q_tm 44
                        · simp only [c1, c2, c3, c4, c5, c6, c7, c8, d1, d2, d3, not_true_eq_false, not_false_eq_true, true_or, or_true, if_false, if_true, ite_self]
                        · simp only [c1, c2, c3, c4, c5, c6, c7, c8, d1, d2, d3, not_true_eq_false, not_false_eq_true, or_false, if_false, if_true, show ¬ (1 : Int32) = 0 by decide, false_or]
  · simp only [↓reduceIte, q_i, q_l, q_k, q_r, q_z, q_si, q_sl, jx_lt, jx_ri, jx_rl, jx_rv, if_true, if_false, Nat.reduceLeDiff, Nat.add_one_ne_zero, and_self, true_or, or_true, Nat.reduceEqDiff, or_self, or_false, false_or, mo_k hm, c9, E_211_1, false_and]
/-- the class's first name that is the word at hand -/
theorem c_find (hr : qRdr s t) {m : Nat} (hm : m ≤ 31) (h4 : I 181 4 = w m) (hs : I 187 4 = 1) : (∃ i, i < m ∧ jD 74 [.ref 181] (I, L, s) = some (some (.int (w i)), I, L, s) ∧ L 182 i = L 187 5 ∧ ∀ j, j < i → L 182 j ≠ L 187 5) ∨ (jD 74 [.ref 181] (I, L, s) = some (some (.int (-1)), I, L, s) ∧ ∀ i, i < m → L 182 i ≠ L 187 5) := by
  obtain ⟨k6, r0, r1, r2, r3, r5, k182, z182, -, -, k7, -⟩ := hr
  have key : ∀ d i, i + d = m → (∀ j, j < i → L 182 j ≠ L 187 5) → (∃ i', i' < m ∧ jd 74 1 [some (.ref 181), some (.int (w i))] [] (I, L, s) = some (some (.int (w i')), I, L, s) ∧ L 182 i' = L 187 5 ∧ ∀ j, j < i' → L 182 j ≠ L 187 5) ∨ (jd 74 1 [some (.ref 181), some (.int (w i))] [] (I, L, s) = some (some (.int (-1)), I, L, s) ∧ ∀ i, i < m → L 182 i ≠ L 187 5) := by
    intro d
    induction d with
    | zero =>
      intro i hi hno
      obtain rfl : i = m := by omega
      refine Or.inr ⟨?_, hno⟩
      rw [E_74_1]
      simp only [↓reduceIte, q_i, q_l, q_k, q_r, q_z, q_si, q_sl, jx_lt, jx_ri, jx_rl, jx_rv, if_true, if_false, Nat.reduceLeDiff, Nat.add_one_ne_zero, and_self, true_or, or_true, Nat.reduceEqDiff, or_self, or_false, false_or, k6, r0, k7, hs, h4, Int32.le_refl, E_74_3]
    | succ d ih =>
      intro i hi hno
      have step : jd 74 1 [some (.ref 181), some (.int (w i))] [] (I, L, s) = if lg_cmp (L 182 i) (L 187 5) = 0 then some (some (.int (w i)), I, L, s) else jd 74 1 [some (.ref 181), some (.int (w (i + 1)))] [] (I, L, s) := by
        rw [E_74_1]
        simp only [↓reduceIte, q_i, q_l, q_k, q_r, q_z, q_si, q_sl, jx_lt, jx_ri, jx_rl, jx_rv, if_true, if_false, Nat.reduceLeDiff, Nat.add_one_ne_zero, and_self, true_or, or_true, Nat.reduceEqDiff, or_self, or_false, false_or, k6, r0, r1, k7, k182, z182, hs, h4, w_nle (show i < m by omega) (by omega), show (20 : Nat) ≤ 21 by decide, show (21 : Nat) ≤ 30 by decide, show Int32.ofNat 31 = w 31 from rfl, w_nle (show i < 31 by omega) (show 31 < 1000000 by omega), w_nn (a := i) (by omega), show ¬ 31 ≤ i by omega, w_tc (a := i) (by omega), E_74_2, w_inc]
      by_cases e : L 182 i = L 187 5
      · refine Or.inl ⟨i, by omega, ?_, e, hno⟩
        rw [step, if_pos (by rw [lg_cmp_eq]; exact e)]
      · rw [step, if_neg (by rw [lg_cmp_eq]; exact e)]
        exact ih (i + 1) (by omega) fun j hj => by
          by_cases e2 : j = i
          · rw [e2]; exact e
          · exact hno j (by omega)
  rw [D_74, E_74_0]
  exact key m 0 (by omega) fun j hj => absurd hj (Nat.not_lt_zero j)
theorem c_find0 (hr : qRdr s t) (hs : I 187 4 ≠ 1) : jD 74 [.ref 181] (I, L, s) = some (some (.int (-1)), I, L, s) := by
  obtain ⟨k6, r0, r1, r2, r3, r5, k182, z182, -, -, k7, -⟩ := hr
  rw [D_74, E_74_0, E_74_1]
  simp only [↓reduceIte, q_i, q_l, q_k, q_r, q_z, q_si, q_sl, jx_lt, jx_ri, jx_rl, jx_rv, if_true, if_false, Nat.reduceLeDiff, Nat.add_one_ne_zero, and_self, true_or, or_true, Nat.reduceEqDiff, or_self, or_false, false_or, k6, r0, k7, hs, E_74_3]
end PN
