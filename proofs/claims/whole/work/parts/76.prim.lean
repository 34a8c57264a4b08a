/-! READING: faults, words, numbers, on both sides -/
def q_tw (c : Nat) : Int64 := q_it (fun i x => x * 32 + Int32.toInt64 ((jt_tx c).getD i 0) - 97 + 1) (jt_tx c).length 0
def q_tm (c : Nat) : Int64 := q_it (fun i x => 32 * x + Int32.toInt64 ((jt_tx c).getD i 0 - 97 + 1)) (jt_tx c).length 0
theorem tx_len : ∀ c, c < 59 → (jt_tx c).length < 30 := by decide +kernel
def qCw (t a : Nat) : Prop := a = 181 ∨ a = 184 ∨ a = 186 ∨ a = 187 ∨ (t ≤ a ∧ a < t + 39)
def qMw (f a : Nat) : Prop := a = 240 ∨ (f ≤ a ∧ a < f + 24)
def qCx (s s2 : qS) (t f n : Nat) (b : Nat → Nat) (I0 J0 : qI) : Prop := qRdr s t ∧ n ≤ 1100 ∧ qTxt I0 b ∧ qMo s2 240 ∧ qr s2 240 4 = f ∧ qMf s2 f ∧ f ≠ 0 ∧ 260 ≤ f ∧ qTxm J0 b ∧ J0 240 7 = w n ∧ ∀ a, 2 ≤ a → a < 59 → qk s a = 40 ∧ qk s2 a = 40
def qFx (t f n : Nat) (I0 : qI) (L0 : qL) (J0 : qI) (K0 : qL) (I : qI) (L : qL) (J : qI) (K : qL) : Prop := (∀ a, ¬ qCw t a → I a = I0 a) ∧ (∀ a, a ≠ 182 → a ≠ 187 → L a = L0 a) ∧ (∀ a, ¬ qMw f a → J a = J0 a ∧ K a = K0 a) ∧ (∀ k, k < 8 ∨ 14 < k → J 240 k = J0 240 k) ∧ I 187 1 = w n ∧ qNm I L ∧ ∃ c, c ≤ 20 ∧ J f 13 = w c
def qFa (t f n : Nat) (I0 : qI) (L0 : qL) (J0 : qI) (K0 : qL) (I : qI) (L : qL) (J : qI) (K : qL) : Prop := qFx t f n I0 L0 J0 K0 I L J K ∧ ∃ r a, 0 < r ∧ r < 10 ∧ I 181 6 = w r ∧ I 181 7 = w a ∧ J 240 9 = 5 ∧ J 240 13 = w r ∧ J 240 14 = w a
def qGo (Z : qI → qL → qI → qL → Prop) (t f n : Nat) (I0 : qI) (L0 : qL) (J0 : qI) (K0 : qL) (I : qI) (L : qL) (J : qI) (K : qL) : Prop := qFx t f n I0 L0 J0 K0 I L J K ∧ (J 240 13 = 0 ∧ I 181 6 = 0) ∧ J 240 9 ≠ 5 ∧ qTk I L J K n ∧ Z I L J K
def qStab (Z : qI → qL → qI → qL → Prop) : Prop := ∀ I L J K g h g' h', Z I L J K → Z (q_up I 187 g) (q_upl L 187 h) (q_up J 240 g') (q_upl K 240 h')
theorem upl_self {L : qL} {a : Nat} : q_upl L a (L a) = L := by
  funext k
  unfold q_upl
  by_cases c : k = a
  · rw [if_pos c, c]
  · rw [if_neg c]
theorem upl_ne {L : qL} {a b : Nat} {h : Nat → Int64} (hb : b ≠ a) : q_upl L a h b = L b := if_neg hb
section PZ
variable {s s2 : qS} {t f n : Nat} {b : Nat → Nat} {I0 J0 I J : qI} {L0 K0 L K : qL} {Z : qI → qL → qI → qL → Prop}
theorem text_c {c : Nat} (hc : c < 59) (hk : qk s c = 40) : jD 88 [.ref c] (I, L, s) = some (some (.long (q_tw c)), I, L, s) := by
  have hl := tx_len c hc
  rw [D_88, E_88_0]
  refine (q_loop (F := fun i x => jd 88 1 [some (.ref c), some (.long x), none, some (.int (w i))] [] (I, L, s)) (n := (jt_tx c).length) (g := fun i x => x * 32 + Int32.toInt64 ((jt_tx c).getD i 0) - 97 + 1) (fun i x hi => ?_) 0).trans ?_
  · show jd 88 1 _ _ _ = jd 88 1 _ _ _
    rw [E_88_1]
    simp only [↓reduceIte, q_i, q_l, q_k, q_r, q_z, q_si, q_sl, jx_lt, jx_ri, jx_rl, jx_rv, if_true, if_false, Nat.reduceLeDiff, Nat.add_one_ne_zero, and_self, true_or, or_true, Nat.reduceEqDiff, or_self, or_false, false_or, hk]
    rw [if_neg (show ¬ w (jt_tx c).length ≤ w i from w_nle hi (by omega)), if_neg (by rw [w_tc (by omega)]; exact fun z => z.elim (w_nn (by omega)) (by omega)), w_tc (by omega), w_inc]
  · show jd 88 1 _ _ _ = _
    rw [E_88_1]
    simp only [↓reduceIte, q_i, q_l, q_k, q_r, q_z, q_si, q_sl, jx_lt, jx_ri, jx_rl, jx_rv, if_true, if_false, Nat.reduceLeDiff, Nat.add_one_ne_zero, and_self, true_or, or_true, Nat.reduceEqDiff, or_self, or_false, false_or, hk]
    rw [if_pos (show w (jt_tx c).length ≤ w (jt_tx c).length from Int32.le_refl _), E_88_2]
    rfl
theorem text_m {c : Nat} (hc : c < 59) (hk : qk s2 c = 40) : jD 201 [.ref c] (J, K, s2) = some (some (.long (q_tm c)), J, K, s2) := by
  have hl := tx_len c hc
  rw [D_201, E_201_0]
  refine (q_loop (F := fun i x => jd 201 1 [some (.ref c), some (.long x), none, some (.int (w i))] [] (J, K, s2)) (n := (jt_tx c).length) (g := fun i x => 32 * x + Int32.toInt64 ((jt_tx c).getD i 0 - 97 + 1)) (fun i x hi => ?_) 0).trans ?_
  · show jd 201 1 _ _ _ = jd 201 1 _ _ _
    rw [E_201_1]
    simp only [↓reduceIte, q_i, q_l, q_k, q_r, q_z, q_si, q_sl, jx_lt, jx_ri, jx_rl, jx_rv, if_true, if_false, Nat.reduceLeDiff, Nat.add_one_ne_zero, and_self, true_or, or_true, Nat.reduceEqDiff, or_self, or_false, false_or, hk]
    rw [if_neg (show ¬ w (jt_tx c).length ≤ w i from w_nle hi (by omega)), if_neg (by rw [w_tc (by omega)]; exact fun z => z.elim (w_nn (by omega)) (by omega)), w_tc (by omega), w_inc]
  · show jd 201 1 _ _ _ = _
    rw [E_201_1]
    simp only [↓reduceIte, q_i, q_l, q_k, q_r, q_z, q_si, q_sl, jx_lt, jx_ri, jx_rl, jx_rv, if_true, if_false, Nat.reduceLeDiff, Nat.add_one_ne_zero, and_self, true_or, or_true, Nat.reduceEqDiff, or_self, or_false, false_or, hk]
    rw [if_pos (show w (jt_tx c).length ≤ w (jt_tx c).length from Int32.le_refl _), E_201_2]
    rfl
/-! after a fault nothing more is done -/
theorem z202 (hm : qMo s2 240) (h : J 240 9 = 5) : jD 202 [.ref 240] (J, K, s2) = some (none, J, K, s2) := by
  rw [D_202, E_202_0]
  simp only [↓reduceIte, q_i, q_l, q_k, q_r, q_z, q_si, q_sl, jx_lt, jx_ri, jx_rl, jx_rv, if_true, if_false, Nat.reduceLeDiff, Nat.add_one_ne_zero, and_self, true_or, or_true, Nat.reduceEqDiff, or_self, or_false, false_or, mo_k hm, h]
theorem z203 (hm : qMo s2 240) (h : J 240 9 = 5) (r : Int32) : jD 203 [.ref 240, .int r] (J, K, s2) = some (none, J, K, s2) := by
  rw [D_203, E_203_0]
  simp only [↓reduceIte, q_i, q_l, q_k, q_r, q_z, q_si, q_sl, jx_lt, jx_ri, jx_rl, jx_rv, if_true, if_false, Nat.reduceLeDiff, Nat.add_one_ne_zero, and_self, true_or, or_true, Nat.reduceEqDiff, or_self, or_false, false_or, mo_k hm, h]
theorem z204 (hm : qMo s2 240) (h : J 240 9 = 5) (c : Nat) : jD 204 [.ref 240, .ref c] (J, K, s2) = some (some (.int 0), J, K, s2) := by
  rw [D_204, E_204_0]
  simp only [↓reduceIte, q_i, q_l, q_k, q_r, q_z, q_si, q_sl, jx_lt, jx_ri, jx_rl, jx_rv, if_true, if_false, Nat.reduceLeDiff, Nat.add_one_ne_zero, and_self, true_or, or_true, Nat.reduceEqDiff, or_self, or_false, false_or, mo_k hm, h, show ¬ (5 : Int32) = 2 by decide, E_204_1, E_204_2]
theorem z205 (hm : qMo s2 240) (h : J 240 9 = 5) (c : Int32) : jD 205 [.ref 240, .int c] (J, K, s2) = some (some (.int 0), J, K, s2) := by
  rw [D_205, E_205_0]
  simp only [↓reduceIte, q_i, q_l, q_k, q_r, q_z, q_si, q_sl, jx_lt, jx_ri, jx_rl, jx_rv, if_true, if_false, Nat.reduceLeDiff, Nat.add_one_ne_zero, and_self, true_or, or_true, Nat.reduceEqDiff, or_self, or_false, false_or, mo_k hm, h, show ¬ (5 : Int32) = 4 by decide, E_205_1, E_205_2, E_205_3]
theorem z206 (hm : qMo s2 240) (h : J 240 9 = 5) (c : Nat) : jD 206 [.ref 240, .ref c] (J, K, s2) = some (none, J, K, s2) := by
  simp only [D_206, E_206_0, E_206_1, ↓reduceIte, q_i, q_l, q_k, q_r, q_z, q_si, q_sl, jx_lt, jx_ri, jx_rl, jx_rv, if_true, if_false, Nat.reduceLeDiff, Nat.add_one_ne_zero, and_self, true_or, or_true, Nat.reduceEqDiff, or_self, or_false, false_or, mo_k hm, z204 hm h, z203 hm h, z202 hm h]
theorem z207 (hm : qMo s2 240) (h : J 240 9 = 5) (x y : Int32) : jD 207 [.ref 240, .int x, .int y] (J, K, s2) = some (some (.int x), J, K, s2) := by
  simp only [D_207, E_207_0, E_207_2, E_207_4, ↓reduceIte, q_i, q_l, q_k, q_r, q_z, q_si, q_sl, jx_lt, jx_ri, jx_rl, jx_rv, if_true, if_false, Nat.reduceLeDiff, Nat.add_one_ne_zero, and_self, true_or, or_true, Nat.reduceEqDiff, or_self, or_false, false_or, mo_k hm, h, z203 hm h, show ¬ (5 : Int32) = 3 by decide]
theorem z208 (hm : qMo s2 240) (h : J 240 9 = 5) (x y : Int32) : jD 208 [.ref 240, .int x, .int y] (J, K, s2) = some (some (.int x), J, K, s2) := by
  simp only [D_208, E_208_0, ↓reduceIte, q_i, q_l, q_k, q_r, q_z, q_si, q_sl, jx_lt, jx_ri, jx_rl, jx_rv, if_true, if_false, Nat.reduceLeDiff, Nat.add_one_ne_zero, and_self, true_or, or_true, Nat.reduceEqDiff, or_self, or_false, false_or, mo_k hm, z207 hm h, z202 hm h]
theorem z209 (hm : qMo s2 240) (h : J 240 9 = 5) (c : Nat) (x y : Int32) : jD 209 [.ref 240, .ref c, .int x, .int y] (J, K, s2) = some (some (.int x), J, K, s2) := by
  simp only [D_209, E_209_0, ↓reduceIte, q_i, q_l, q_k, q_r, q_z, q_si, q_sl, jx_lt, jx_ri, jx_rl, jx_rv, if_true, if_false, Nat.reduceLeDiff, Nat.add_one_ne_zero, and_self, true_or, or_true, Nat.reduceEqDiff, or_self, or_false, false_or, mo_k hm, z206 hm h, z208 hm h]
theorem z211 (hm : qMo s2 240) (h : J 240 9 = 5) : jD 211 [.ref 240] (J, K, s2) = some (some (.int 0), J, K, s2) := by
  rw [D_211, E_211_0]
  simp only [↓reduceIte, q_i, q_l, q_k, q_r, q_z, q_si, q_sl, jx_lt, jx_ri, jx_rl, jx_rv, if_true, if_false, Nat.reduceLeDiff, Nat.add_one_ne_zero, and_self, true_or, or_true, Nat.reduceEqDiff, or_self, or_false, false_or, mo_k hm, h, show ¬ (5 : Int32) = 2 by decide, E_211_1]
theorem z210 (hm : qMo s2 240) (h4 : qr s2 240 4 = f) (hf : qMf s2 f) (h0 : f ≠ 0) (h : J 240 9 = 5) (x : Int32) : jD 210 [.ref 240, .int x] (J, K, s2) = some (some (.int x), J, K, s2) := by
  simp only [D_210, E_210_0, ↓reduceIte, q_i, q_l, q_k, q_r, q_z, q_si, q_sl, jx_lt, jx_ri, jx_rl, jx_rv, if_true, if_false, Nat.reduceLeDiff, Nat.add_one_ne_zero, and_self, true_or, or_true, Nat.reduceEqDiff, or_self, or_false, false_or, mo_k hm, h4, h0, mf_k hf, z208 hm h]
theorem z212 (hm : qMo s2 240) (h4 : qr s2 240 4 = f) (hf : qMf s2 f) (h0 : f ≠ 0) (h : J 240 9 = 5) (x y : Int32) : jD 212 [.ref 240, .int x, .int y] (J, K, s2) = some (none, J, K, s2) := by
  have e1 : jd 212 1 [some (.ref 240), none, none] [] (J, K, s2) = some (none, J, K, s2) := by
    rw [E_212_1]
    simp only [↓reduceIte, q_i, q_l, q_k, q_r, q_z, q_si, q_sl, jx_lt, jx_ri, jx_rl, jx_rv, if_true, if_false, Nat.reduceLeDiff, Nat.add_one_ne_zero, and_self, true_or, or_true, Nat.reduceEqDiff, or_self, or_false, false_or, mo_k hm, h4, h0, mf_k hf, z203 hm h, E_212_2, z202 hm h]
    by_cases c : J f 0 = 0
    · simp only [c, if_true]
    · simp only [c, if_false]
  rw [D_212, E_212_0]
  by_cases c : x = y
  · simp only [↓reduceIte, q_i, q_l, q_k, q_r, q_z, q_si, q_sl, jx_lt, jx_ri, jx_rl, jx_rv, if_true, if_false, Nat.reduceLeDiff, Nat.add_one_ne_zero, and_self, true_or, or_true, Nat.reduceEqDiff, or_self, or_false, false_or, c, mo_k hm, z203 hm h, e1]
  · simp only [↓reduceIte, q_i, q_l, q_k, q_r, q_z, q_si, q_sl, jx_lt, jx_ri, jx_rl, jx_rv, if_true, if_false, Nat.reduceLeDiff, Nat.add_one_ne_zero, and_self, true_or, or_true, Nat.reduceEqDiff, or_self, or_false, false_or, c, e1]
/-- a name among those of the reference -/
theorem m_name (hf : qMf s2 f) {c : Nat} (hc : c ≤ 20) (h13 : J f 13 = w c) (x : Int64) : (jD 185 [.ref f, .long x] (J, K, s2) = some (some (.int (-1)), J, K, s2) ∧ ∀ i, i < c → K (f + 21) i ≠ x) ∨ ∃ i, i < c ∧ jD 185 [.ref f, .long x] (J, K, s2) = some (some (.int (w i)), J, K, s2) ∧ K (f + 21) i = x ∧ ∀ j, j < i → K (f + 21) j ≠ x := by
  have key : ∀ d i, i + d = c → (∀ j, j < i → K (f + 21) j ≠ x) → (jd 185 1 [some (.ref f), some (.long x), none, some (.int (w i))] [] (J, K, s2) = some (some (.int (-1)), J, K, s2) ∧ ∀ i, i < c → K (f + 21) i ≠ x) ∨ ∃ i', i' < c ∧ jd 185 1 [some (.ref f), some (.long x), none, some (.int (w i))] [] (J, K, s2) = some (some (.int (w i')), J, K, s2) ∧ K (f + 21) i' = x ∧ ∀ j, j < i' → K (f + 21) j ≠ x := by
    intro d
    induction d with
    | zero =>
      intro i hi hno
      obtain rfl : i = c := by omega
      refine Or.inl ⟨?_, hno⟩
      rw [E_185_1]
      simp only [↓reduceIte, q_i, q_l, q_k, q_r, q_z, q_si, q_sl, jx_lt, jx_ri, jx_rl, jx_rv, if_true, if_false, Nat.reduceLeDiff, Nat.add_one_ne_zero, and_self, true_or, or_true, Nat.reduceEqDiff, or_self, or_false, false_or, mf_k hf, h13, Int32.le_refl, E_185_3]
    | succ d ih =>
      intro i hi hno
      have step : jd 185 1 [some (.ref f), some (.long x), none, some (.int (w i))] [] (J, K, s2) = if lg_cmp (K (f + 21) i) x = 0 then some (some (.int (w i)), J, K, s2) else jd 185 1 [some (.ref f), some (.long x), none, some (.int (w (i + 1)))] [] (J, K, s2) := by
        rw [E_185_1]
        simp only [↓reduceIte, q_i, q_l, q_k, q_r, q_z, q_si, q_sl, jx_lt, jx_ri, jx_rl, jx_rv, if_true, if_false, Nat.reduceLeDiff, Nat.add_one_ne_zero, and_self, true_or, or_true, Nat.reduceEqDiff, or_self, or_false, false_or, mf_k hf, mf_r34 hf, mf_k34 hf, mf_z34 hf, h13, w_nle (show i < c by omega) (by omega), w_nn (a := i) (by omega), show ¬ 20 ≤ i by omega, w_tc (a := i) (by omega), E_185_2, w_inc]
      by_cases e : K (f + 21) i = x
      · refine Or.inr ⟨i, by omega, ?_, e, hno⟩
        rw [step, if_pos (by rw [lg_cmp_eq]; exact e)]
      · rw [step, if_neg (by rw [lg_cmp_eq]; exact e)]
        exact ih (i + 1) (by omega) fun j hj => by
          by_cases e2 : j = i
          · rw [e2]; exact e
          · exact hno j (by omega)
  have := key c 0 (by omega) fun j hj => absurd hj (Nat.not_lt_zero j)
  rw [D_185, E_185_0]
  exact this
theorem z213 (hm : qMo s2 240) (h4 : qr s2 240 4 = f) (hf : qMf s2 f) (h0 : f ≠ 0) {c : Nat} (hc : c ≤ 20) (h13 : J f 13 = w c) (h : J 240 9 = 5) : jD 213 [.ref 240] (J, K, s2) = some (some (.long (K 240 15)), J, K, s2) := by
  have e2 : jd 213 2 [some (.ref 240), none, none] [] (J, K, s2) = some (some (.long (K 240 15)), J, K, s2) := by
    rw [E_213_2]
    simp only [↓reduceIte, q_i, q_l, q_k, q_r, q_z, q_si, q_sl, jx_lt, jx_ri, jx_rl, jx_rv, if_true, if_false, Nat.reduceLeDiff, Nat.add_one_ne_zero, and_self, true_or, or_true, Nat.reduceEqDiff, or_self, or_false, false_or, mo_k hm, z202 hm h]
  rw [D_213, E_213_0]
  simp only [↓reduceIte, q_i, q_l, q_k, q_r, q_z, q_si, q_sl, jx_lt, jx_ri, jx_rl, jx_rv, if_true, if_false, Nat.reduceLeDiff, Nat.add_one_ne_zero, and_self, true_or, or_true, Nat.reduceEqDiff, or_self, or_false, false_or, mo_k hm, z211 hm h, z203 hm h]
  rw [E_213_1]
  rcases m_name (J := J) (K := K) hf hc h13 (K 240 15) with ⟨e, -⟩ | ⟨i, hi, e, -⟩
  · simp only [↓reduceIte, q_i, q_l, q_k, q_r, q_z, q_si, q_sl, jx_lt, jx_ri, jx_rl, jx_rv, if_true, if_false, Nat.reduceLeDiff, Nat.add_one_ne_zero, and_self, true_or, or_true, Nat.reduceEqDiff, or_self, or_false, false_or, mo_k hm, h4, h0, mf_k hf, e, e2]
  · simp only [↓reduceIte, q_i, q_l, q_k, q_r, q_z, q_si, q_sl, jx_lt, jx_ri, jx_rl, jx_rv, if_true, if_false, Nat.reduceLeDiff, Nat.add_one_ne_zero, and_self, true_or, or_true, Nat.reduceEqDiff, or_self, or_false, false_or, mo_k hm, h4, h0, mf_k hf, e, show ¬ w i = (-1 : Int32) from w_m1 (by omega), z203 hm h, e2]
theorem z215b (hm : qMo s2 240) (h4 : qr s2 240 4 = f) (hf : qMf s2 f) (h0 : f ≠ 0) {c : Nat} (hc : c ≤ 20) (h13 : J f 13 = w c) (h : J 240 9 = 5) (x : Int32) : jd 215 1 [some (.ref 240), some (.int x), none] [] (J, K, s2) = some (some (.int 0), J, K, s2) := by
  have e3 : ∀ v : Int32, jd 215 3 [some (.ref 240), none, some (.int v)] [] (J, K, s2) = some (some (.int 0), J, K, s2) := fun v => by
    rw [E_215_3]
    simp only [↓reduceIte, q_i, q_l, q_k, q_r, q_z, q_si, q_sl, jx_lt, jx_ri, jx_rl, jx_rv, if_true, if_false, Nat.reduceLeDiff, Nat.add_one_ne_zero, and_self, true_or, or_true, Nat.reduceEqDiff, or_self, or_false, false_or, mo_k hm, h, E_215_5]
  have e2 : ∀ v : Int32, jd 215 2 [some (.ref 240), none, some (.int v)] [] (J, K, s2) = some (some (.int 0), J, K, s2) := fun v => by
    rw [E_215_2]
    simp only [↓reduceIte, q_i, q_l, q_k, q_r, q_z, q_si, q_sl, jx_lt, jx_ri, jx_rl, jx_rv, if_true, if_false, Nat.reduceLeDiff, Nat.add_one_ne_zero, and_self, true_or, or_true, Nat.reduceEqDiff, or_self, or_false, false_or, mo_k hm, z203 hm h, e3]
  rw [E_215_1]
  rcases m_name (J := J) (K := K) hf hc h13 (K 240 15) with ⟨e, -⟩ | ⟨i, hi, e, -⟩
  · simp only [↓reduceIte, q_i, q_l, q_k, q_r, q_z, q_si, q_sl, jx_lt, jx_ri, jx_rl, jx_rv, if_true, if_false, Nat.reduceLeDiff, Nat.add_one_ne_zero, and_self, true_or, or_true, Nat.reduceEqDiff, or_self, or_false, false_or, mo_k hm, h4, h0, mf_k hf, e, e2]
  · simp only [↓reduceIte, q_i, q_l, q_k, q_r, q_z, q_si, q_sl, jx_lt, jx_ri, jx_rl, jx_rv, if_true, if_false, Nat.reduceLeDiff, Nat.add_one_ne_zero, and_self, true_or, or_true, Nat.reduceEqDiff, or_self, or_false, false_or, mo_k hm, h4, h0, mf_k hf, e, show ¬ w i = (-1 : Int32) from w_m1 (by omega), mf_r35 hf, mf_k35 hf, mf_z35 hf, w_nn (a := i) (by omega), show ¬ 20 ≤ i by omega, w_tc (a := i) (by omega)]
    by_cases c1 : J (f + 22) i = x
    · simp only [c1, if_true, e3]
    · simp only [c1, if_false, e2]
theorem z215 (hm : qMo s2 240) (h4 : qr s2 240 4 = f) (hf : qMf s2 f) (h0 : f ≠ 0) {c : Nat} (hc : c ≤ 20) (h13 : J f 13 = w c) (h : J 240 9 = 5) (x : Int32) : jD 215 [.ref 240, .int x] (J, K, s2) = some (some (.int 0), J, K, s2) := by
  rw [D_215, E_215_0]
  simp only [↓reduceIte, q_i, q_l, q_k, q_r, q_z, q_si, q_sl, jx_lt, jx_ri, jx_rl, jx_rv, if_true, if_false, Nat.reduceLeDiff, Nat.add_one_ne_zero, and_self, true_or, or_true, Nat.reduceEqDiff, or_self, or_false, false_or, mo_k hm, z211 hm h, z203 hm h]
  exact z215b hm h4 hf h0 hc h13 h x
theorem z216 (hm : qMo s2 240) (h4 : qr s2 240 4 = f) (hf : qMf s2 f) (h0 : f ≠ 0) {c : Nat} (hc : c ≤ 20) (h13 : J f 13 = w c) (h : J 240 9 = 5) (x : Int32) : jD 216 [.ref 240, .int x] (J, K, s2) = some (some (.int 0), J, K, s2) := by
  simp only [D_216, E_216_0, ↓reduceIte, q_i, q_l, q_k, q_r, q_z, q_si, q_sl, jx_lt, jx_ri, jx_rl, jx_rv, if_true, if_false, Nat.reduceLeDiff, Nat.add_one_ne_zero, and_self, true_or, or_true, Nat.reduceEqDiff, or_self, or_false, false_or, mo_k hm, z215 hm h4 hf h0 hc h13 h, z202 hm h]
theorem z217 (hm : qMo s2 240) (h4 : qr s2 240 4 = f) (hf : qMf s2 f) (h0 : f ≠ 0) {c : Nat} (hc : c ≤ 20) (h13 : J f 13 = w c) (h : J 240 9 = 5) : jD 217 [.ref 240] (J, K, s2) = some (some (.int 0), J, K, s2) := by
  simp only [D_217, E_217_0, E_217_1, ↓reduceIte, q_i, q_l, q_k, q_r, q_z, q_si, q_sl, jx_lt, jx_ri, jx_rl, jx_rv, if_true, if_false, Nat.reduceLeDiff, Nat.add_one_ne_zero, and_self, true_or, or_true, Nat.reduceEqDiff, or_self, or_false, false_or, mo_k hm, z215 hm h4 hf h0 hc h13 h, z202 hm h, h]
end PZ
