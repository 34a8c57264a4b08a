/-! READING: steps of both sides -/
section PB
variable {s s2 : qS} {t f n : Nat} {b : Nat → Nat} {I0 J0 I J : qI} {L0 K0 L K : qL} {Z : qI → qL → qI → qL → Prop}
theorem fx_tok {g : Nat → Int32} {h : Nat → Int64} {g' : Nat → Int32} {h' : Nat → Int64} (hf : 260 ≤ f) (hx : qFx t f n I0 L0 J0 K0 I L J K) (h1 : g 1 = w n) (h2 : ∀ k, k < 8 ∨ 14 < k → g' k = J 240 k) : qFx t f n I0 L0 J0 K0 (q_up I 187 g) (q_upl L 187 h) (q_up J 240 g') (q_upl K 240 h') := by
  obtain ⟨a1, a2, a3, a4, a5, a6, c, hc, a7⟩ := hx
  refine ⟨fun a ha => ?_, fun a x y => ?_, fun a ha => ?_, fun k hk => ?_, ?_, fun k hk => ?_, c, hc, ?_⟩
  · rw [q_up_ne (by unfold qCw at ha; omega)]; exact a1 a ha
  · rw [upl_ne y]; exact a2 a x y
  · rw [q_up_ne (by unfold qMw at ha; omega), upl_ne (by unfold qMw at ha; omega)]; exact a3 a ha
  · rw [q_up_eq, h2 k hk]; exact a4 k hk
  · rw [q_up_eq]; exact h1
  · rw [upl_ne (by decide), q_up_ne (by decide), q_up_ne (by decide)]; exact a6 k hk
  · rw [q_up_ne (by omega)]; exact a7
theorem go_txt (cx : qCx s s2 t f n b I0 J0) (hx : qFx t f n I0 L0 J0 K0 I L J K) : qTxt I b ∧ qTxm J b ∧ J 240 7 = w n := by
  obtain ⟨hr, hn, hb, -, -, -, -, hf, hb2, h7, -⟩ := cx
  have ht : t = 101 ∨ t = 140 := hr.2.2.2.2.2.2.2.2.2.2.2.2.2.2
  refine ⟨fun k hk => ?_, fun k hk => ?_, ?_⟩
  · rw [hx.1 (179 + 1) (by unfold qCw; omega)]; exact hb k hk
  · rw [(hx.2.2.1 (240 + 1) (by unfold qMw; omega)).1]; exact hb2 k hk
  · rw [hx.2.2.2.1 7 (by omega)]; exact h7
theorem go_next (cx : qCx s s2 t f n b I0 J0) (hz : qStab Z) (h : qGo Z t f n I0 L0 J0 K0 I L J K) (h0 : I 187 4 ≠ 0) (h5 : I 187 4 ≠ 5) : ∃ I' L' J' K', jD 86 [.ref 187] (I, L, s) = some (none, I', L', s) ∧ jD 202 [.ref 240] (J, K, s2) = some (none, J', K', s2) ∧ qGo Z t f n I0 L0 J0 K0 I' L' J' K' ∧ (∀ a, a ≠ 187 → I' a = I a) ∧ (∀ a, a ≠ 240 → J' a = J a) := by
  obtain ⟨hx, h13, h9, ⟨a, e1, e2, ha, hk⟩, hZ⟩ := h
  obtain ⟨t1, t2, t3⟩ := go_txt cx hx
  obtain ⟨p, hp, p1, p2⟩ : ∃ p, p ≤ n ∧ I 187 2 = w p ∧ J 240 8 = w p := by
    rcases hk with hk | hk | hk
    · exact absurd hk.1 h0
    · exact absurd hk.1 h5
    · exact hk.1
  obtain ⟨g, hh, g', h', c1, c2, c3, c4, c5, c6⟩ := next_rel (L := L) (K := K) cx.1 t1 cx.2.1 hx.2.2.2.2.1 p1 cx.2.2.2.1 t2 t3 p2 h9 hp
  refine ⟨_, _, _, _, c1, c2, ⟨fx_tok cx.2.2.2.2.2.2.2.1 hx c3 fun k hk => c4 k (by omega), ?_, ?_, c6, hz _ _ _ _ _ _ _ _ hZ⟩, fun a ha => q_up_ne ha, fun a ha => q_up_ne ha⟩
  · rw [q_up_eq, c4 13 (by omega), q_up_ne (by decide)]; exact h13
  · rw [q_up_eq]; exact c5
theorem c51 (hr : qRdr s t) (r : Int32) : jD 51 [.ref 181, .int r] (I, L, s) = some (some (.int 0), q_up I 181 (q_set (q_set (I 181) 6 r) 7 (I 187 3)), L, s) := by
  obtain ⟨k6, r0, r1, r2, r3, r5, -, -, -, -, k7, -⟩ := hr
  have e : q_up I 181 (q_set (I 181) 6 r) 187 = I 187 := q_up_ne (by decide)
  simp only [D_51, E_51_0, ↓reduceIte, q_i, q_l, q_k, q_r, q_z, q_si, q_sl, jx_lt, jx_ri, jx_rl, jx_rv, if_true, if_false, Nat.reduceLeDiff, Nat.add_one_ne_zero, and_self, true_or, or_true, Nat.reduceEqDiff, or_self, or_false, false_or, k6, r0, k7, q_up_eq, q_up_up, e]
theorem c52 (hr : qRdr s t) (r : Int32) : jD 52 [.ref 181, .int r] (I, L, s) = some (some (.int (-1)), q_up I 181 (q_set (q_set (I 181) 6 r) 7 (I 187 3)), L, s) := by
  simp only [D_52, E_52_0, ↓reduceIte, q_i, q_l, q_k, q_r, q_z, q_si, q_sl, jx_lt, jx_ri, jx_rl, jx_rv, if_true, if_false, Nat.reduceLeDiff, Nat.add_one_ne_zero, and_self, true_or, or_true, Nat.reduceEqDiff, or_self, or_false, false_or, hr.1, c51 hr]
theorem m203 (hm : qMo s2 240) (h9 : J 240 9 ≠ 5) (r : Int32) : jD 203 [.ref 240, .int r] (J, K, s2) = some (none, q_up J 240 (q_set (q_set (q_set (J 240) 13 r) 14 (J 240 10)) 9 5), K, s2) := by
  rw [D_203, E_203_0]
  simp only [↓reduceIte, q_i, q_l, q_k, q_r, q_z, q_si, q_sl, jx_lt, jx_ri, jx_rl, jx_rv, if_true, if_false, Nat.reduceLeDiff, Nat.add_one_ne_zero, and_self, true_or, or_true, Nat.reduceEqDiff, or_self, or_false, false_or, mo_k hm, h9, E_203_1, q_up_eq, q_up_up]
  have e : q_set (J 240) 13 r 10 = J 240 10 := q_set_ne (by decide)
  rw [e]
theorem go_fault (cx : qCx s s2 t f n b I0 J0) (h : qGo Z t f n I0 L0 J0 K0 I L J K) {r : Nat} (hr0 : 0 < r) (hr9 : r < 10) : qFa t f n I0 L0 J0 K0 (q_up I 181 (q_set (q_set (I 181) 6 (w r)) 7 (I 187 3))) L (q_up J 240 (q_set (q_set (q_set (J 240) 13 (w r)) 14 (J 240 10)) 9 5)) K := by
  obtain ⟨⟨a1, a2, a3, a4, a5, a6, c, hc, a7⟩, h13, h9, ⟨a, e1, e2, ha, hk⟩, hZ⟩ := h
  have hf := cx.2.2.2.2.2.2.2.1
  refine ⟨⟨fun a ha => ?_, a2, fun a ha => ⟨?_, (a3 a ha).2⟩, fun k hk => ?_, ?_, fun k hk => ?_, c, hc, ?_⟩, r, a, hr0, hr9, ?_, ?_, ?_, ?_, ?_⟩
  · rw [q_up_ne (by unfold qCw at ha; omega)]; exact a1 a ha
  · rw [q_up_ne (by unfold qMw at ha; omega)]; exact (a3 a ha).1
  · rw [q_up_eq, q_set_ne (by omega), q_set_ne (by omega), q_set_ne (by omega)]; exact a4 k hk
  · rw [q_up_ne (by decide)]; exact a5
  · rw [q_up_ne (by decide), q_up_ne (by decide)]; exact a6 k hk
  · rw [q_up_ne (by omega)]; exact a7
  · rw [q_up_eq, q_set_ne (by decide), q_set_eq]
  · rw [q_up_eq, q_set_eq, e1]
  · rw [q_up_eq, q_set_eq]
  · rw [q_up_eq, q_set_ne (by decide), q_set_ne (by decide), q_set_eq]
  · rw [q_up_eq, q_set_ne (by decide), q_set_eq, e2]
/-! words -/
theorem c_is (hr : qRdr s t) {c : Nat} (hc : c < 59) (hk : qk s c = 40) : jD 87 [.ref 187, .ref c] (I, L, s) = some (some (.int (if I 187 4 = 1 ∧ L 187 5 = q_tw c then 1 else 0)), I, L, s) := by
  obtain ⟨-, -, -, -, -, -, -, -, -, -, k7, -⟩ := hr
  rw [D_87, E_87_0]
  by_cases c1 : I 187 4 = 1
  · by_cases c2 : L 187 5 = q_tw c
    · have hl : lg_cmp (L 187 5) (q_tw c) = 0 := by rw [lg_cmp_eq]; exact c2
      rw [show (if I 187 4 = 1 ∧ L 187 5 = q_tw c then (1 : Int32) else 0) = 1 from if_pos ⟨c1, c2⟩]
      simp only [↓reduceIte, q_i, q_l, q_k, q_r, q_z, q_si, q_sl, jx_lt, jx_ri, jx_rl, jx_rv, if_true, if_false, Nat.reduceLeDiff, Nat.add_one_ne_zero, and_self, true_or, or_true, Nat.reduceEqDiff, or_self, or_false, false_or, k7, text_c hc hk, c1, hl, E_87_2]
    · have hl : ¬ lg_cmp (L 187 5) (q_tw c) = 0 := by rw [lg_cmp_eq]; exact c2
      rw [show (if I 187 4 = 1 ∧ L 187 5 = q_tw c then (1 : Int32) else 0) = 0 from if_neg fun z => c2 z.2]
      simp only [↓reduceIte, q_i, q_l, q_k, q_r, q_z, q_si, q_sl, jx_lt, jx_ri, jx_rl, jx_rv, if_true, if_false, Nat.reduceLeDiff, Nat.add_one_ne_zero, and_self, true_or, or_true, Nat.reduceEqDiff, or_self, or_false, false_or, k7, text_c hc hk, c1, hl, E_87_1, E_87_2]
  · rw [show (if I 187 4 = 1 ∧ L 187 5 = q_tw c then (1 : Int32) else 0) = 0 from if_neg fun z => c1 z.1]
    simp only [↓reduceIte, q_i, q_l, q_k, q_r, q_z, q_si, q_sl, jx_lt, jx_ri, jx_rl, jx_rv, if_true, if_false, Nat.reduceLeDiff, Nat.add_one_ne_zero, and_self, true_or, or_true, Nat.reduceEqDiff, or_self, or_false, false_or, k7, c1, E_87_1, E_87_2]
theorem m_is (hm : qMo s2 240) {c : Nat} (hc : c < 59) (hk : qk s2 c = 40) : jD 204 [.ref 240, .ref c] (J, K, s2) = some (some (.int (if J 240 9 = 2 ∧ K 240 15 = q_tm c then 1 else 0)), J, K, s2) := by
  rw [D_204, E_204_0]
  by_cases c1 : J 240 9 = 2
  · by_cases c2 : K 240 15 = q_tm c
    · have hl : lg_cmp (K 240 15) (q_tm c) = 0 := by rw [lg_cmp_eq]; exact c2
      rw [show (if J 240 9 = 2 ∧ K 240 15 = q_tm c then (1 : Int32) else 0) = 1 from if_pos ⟨c1, c2⟩]
      simp only [↓reduceIte, q_i, q_l, q_k, q_r, q_z, q_si, q_sl, jx_lt, jx_ri, jx_rl, jx_rv, if_true, if_false, Nat.reduceLeDiff, Nat.add_one_ne_zero, and_self, true_or, or_true, Nat.reduceEqDiff, or_self, or_false, false_or, mo_k hm, text_m hc hk, c1, hl, E_204_2]
    · have hl : ¬ lg_cmp (K 240 15) (q_tm c) = 0 := by rw [lg_cmp_eq]; exact c2
      rw [show (if J 240 9 = 2 ∧ K 240 15 = q_tm c then (1 : Int32) else 0) = 0 from if_neg fun z => c2 z.2]
      simp only [↓reduceIte, q_i, q_l, q_k, q_r, q_z, q_si, q_sl, jx_lt, jx_ri, jx_rl, jx_rv, if_true, if_false, Nat.reduceLeDiff, Nat.add_one_ne_zero, and_self, true_or, or_true, Nat.reduceEqDiff, or_self, or_false, false_or, mo_k hm, text_m hc hk, c1, hl, E_204_1, E_204_2]
  · rw [show (if J 240 9 = 2 ∧ K 240 15 = q_tm c then (1 : Int32) else 0) = 0 from if_neg fun z => c1 z.1]
    simp only [↓reduceIte, q_i, q_l, q_k, q_r, q_z, q_si, q_sl, jx_lt, jx_ri, jx_rl, jx_rv, if_true, if_false, Nat.reduceLeDiff, Nat.add_one_ne_zero, and_self, true_or, or_true, Nat.reduceEqDiff, or_self, or_false, false_or, mo_k hm, c1, E_204_1, E_204_2]
/-- the sorts of both tokens -/
theorem tk_sort (h : qTk I L J K n) : (I 187 4 = 1 ↔ J 240 9 = 2) ∧ (I 187 4 = 2 ↔ J 240 9 = 3) ∧ (I 187 4 = 0 ↔ J 240 9 = 1) ∧ (I 187 4 = 1 → L 187 5 = K 240 15) ∧ (I 187 4 = 2 → I 187 6 = J 240 12) ∧ (I 187 4 = 3 ↔ J 240 9 = 4 ∧ J 240 11 = 59) ∧ (I 187 4 = 4 ↔ J 240 9 = 4 ∧ J 240 11 = 44) := by
  obtain ⟨a, -, -, -, hk⟩ := h
  rcases hk with ⟨h1, h2⟩ | ⟨h1, h2⟩ | ⟨-, ⟨h1, h2, h3⟩ | ⟨h1, h2, h3⟩ | ⟨h1, h2, h3⟩ | ⟨h1, h2, h3⟩⟩
  · simp [h1, h2]
  · simp [h1, h2]
  · simp [h1, h2, h3]
  · simp [h1, h2, h3]
  · simp [h1, h2, h3]
  · simp [h1, h2, h3]
theorem is_rel (h : qTk I L J K n) {c m : Nat} (hcm : q_tw c = q_tm m) : (I 187 4 = 1 ∧ L 187 5 = q_tw c) ↔ (J 240 9 = 2 ∧ K 240 15 = q_tm m) := by
  obtain ⟨h1, -, -, h2, -⟩ := tk_sort h
  constructor
  · rintro ⟨a, e⟩
    exact ⟨h1.mp a, by rw [← h2 a, e, hcm]⟩
  · rintro ⟨a, e⟩
    exact ⟨h1.mpr a, by rw [h2 (h1.mpr a), e, hcm]⟩
theorem go_word (cx : qCx s s2 t f n b I0 J0) (hz : qStab Z) (h : qGo Z t f n I0 L0 J0 K0 I L J K) {c m : Nat} (hc : 2 ≤ c ∧ c < 59) (hm9 : 2 ≤ m ∧ m < 59) (hcm : q_tw c = q_tm m) : (∃ I' L' J' K', jD 68 [.ref 181, .ref c] (I, L, s) = some (some (.int 1), I', L', s) ∧ jD 206 [.ref 240, .ref m] (J, K, s2) = some (none, J', K', s2) ∧ qGo Z t f n I0 L0 J0 K0 I' L' J' K') ∨ (∃ I' L' J' K', jD 68 [.ref 181, .ref c] (I, L, s) = some (some (.int 0), I', L', s) ∧ jD 206 [.ref 240, .ref m] (J, K, s2) = some (none, J', K', s2) ∧ qFa t f n I0 L0 J0 K0 I' L' J' K') := by
  obtain ⟨hr, hn, -, hm, h4, hf, h0, hf9, -, -, htx⟩ := id cx
  have hc1 := c_is (I := I) (L := L) hr hc.2 (htx c hc.1 hc.2).1
  have hm1 := m_is (J := J) (K := K) hm hm9.2 (htx m hm9.1 hm9.2).2
  have hrel := is_rel h.2.2.2.1 hcm
  obtain ⟨k6, r0, r1, r2, r3, r5, -, -, -, -, k7, -⟩ := id hr
  by_cases y : J 240 9 = 2 ∧ K 240 15 = q_tm m
  · left
    obtain ⟨I', L', J', K', e1, e2, e3, -⟩ := go_next cx hz h (by rw [(hrel.mpr y).1]; decide) (by rw [(hrel.mpr y).1]; decide)
    refine ⟨I', L', J', K', ?_, ?_, e3⟩
    · rw [if_pos (hrel.mpr y)] at hc1
      simp only [D_68, E_68_0, E_68_1, ↓reduceIte, q_i, q_l, q_k, q_r, q_z, q_si, q_sl, jx_lt, jx_ri, jx_rl, jx_rv, if_true, if_false, Nat.reduceLeDiff, Nat.add_one_ne_zero, and_self, true_or, or_true, Nat.reduceEqDiff, or_self, or_false, false_or, k6, r0, k7, hc1, e1, show ¬ (1 : Int32) = 0 by decide]
    · rw [if_pos y] at hm1
      simp only [D_206, E_206_0, E_206_1, ↓reduceIte, q_i, q_l, q_k, q_r, q_z, q_si, q_sl, jx_lt, jx_ri, jx_rl, jx_rv, if_true, if_false, Nat.reduceLeDiff, Nat.add_one_ne_zero, and_self, true_or, or_true, Nat.reduceEqDiff, or_self, or_false, false_or, mo_k hm, hm1, e2, show ¬ (1 : Int32) = 0 by decide]
  · right
    have hfa := go_fault cx h (r := 1) (by decide) (by decide)
    have h95 : q_up J 240 (q_set (q_set (q_set (J 240) 13 1) 14 (J 240 10)) 9 5) 240 9 = 5 := by rw [q_up_eq, q_set_eq]
    refine ⟨_, _, _, _, ?_, ?_, hfa⟩
    · rw [if_neg (fun z => y (hrel.mp z))] at hc1
      simp only [D_68, E_68_0, ↓reduceIte, q_i, q_l, q_k, q_r, q_z, q_si, q_sl, jx_lt, jx_ri, jx_rl, jx_rv, if_true, if_false, Nat.reduceLeDiff, Nat.add_one_ne_zero, and_self, true_or, or_true, Nat.reduceEqDiff, or_self, or_false, false_or, k6, r0, k7, hc1, c51 hr]
      rfl
    · rw [if_neg y] at hm1
      simp only [D_206, E_206_0, E_206_1, ↓reduceIte, q_i, q_l, q_k, q_r, q_z, q_si, q_sl, jx_lt, jx_ri, jx_rl, jx_rv, if_true, if_false, Nat.reduceLeDiff, Nat.add_one_ne_zero, and_self, true_or, or_true, Nat.reduceEqDiff, or_self, or_false, false_or, mo_k hm, hm1, m203 hm h.2.2.1, z202 hm h95]
      rfl
/-! numbers -/
theorem go_num (cx : qCx s s2 t f n b I0 J0) (hz : qStab Z) (h : qGo Z t f n I0 L0 J0 K0 I L J K) (lo hi : Int32) : (∃ v I' L' J' K', ¬ v < lo ∧ v ≤ hi ∧ jD 69 [.ref 181, .int lo, .int hi] (I, L, s) = some (some (.int v), I', L', s) ∧ jD 208 [.ref 240, .int lo, .int hi] (J, K, s2) = some (some (.int v), J', K', s2) ∧ qGo Z t f n I0 L0 J0 K0 I' L' J' K' ∧ (∀ a, a ≠ 187 → I' a = I a) ∧ (∀ a, a ≠ 240 → J' a = J a)) ∨ (∃ I' L' J' K', jD 69 [.ref 181, .int lo, .int hi] (I, L, s) = some (some (.int (-1)), I', L', s) ∧ jD 208 [.ref 240, .int lo, .int hi] (J, K, s2) = some (some (.int lo), J', K', s2) ∧ qFa t f n I0 L0 J0 K0 I' L' J' K') := by
  obtain ⟨hr, hn, -, hm, h4, hf, h0, hf9, -, -, htx⟩ := id cx
  obtain ⟨k6, r0, r1, r2, r3, r5, -, -, -, -, k7, -⟩ := id hr
  obtain ⟨-, hs2, -, -, hv, -⟩ := tk_sort h.2.2.2.1
  have h9 := h.2.2.1
  have h95 : ∀ r, q_up J 240 (q_set (q_set (q_set (J 240) 13 r) 14 (J 240 10)) 9 5) 240 9 = 5 := fun r => by rw [q_up_eq, q_set_eq]
  have hin : ∀ v : Int32, jD 195 [.int v, .int lo, .int hi] (J, K, s2) = some (some (.int (if ¬ v < lo ∧ v ≤ hi then 1 else 0)), J, K, s2) := fun v => by
    rw [D_195, E_195_0]
    by_cases c1 : v < lo
    · rw [if_pos c1, if_neg (fun z => z.1 c1), E_195_1, E_195_2, if_pos (Or.inl rfl)]
    · rw [if_neg c1]
      by_cases c2 : v ≤ hi
      · rw [if_neg (Int32.not_lt.mpr c2), if_pos ⟨c1, c2⟩, E_195_2, if_pos (Or.inr rfl)]
      · rw [if_pos (Int32.not_le.mp c2), if_neg (fun z => c2 z.2), E_195_1, E_195_2, if_pos (Or.inl rfl)]
  by_cases c : I 187 4 = 2
  · have c' := hs2.mp c
    have hv' := hv c
    by_cases ci : ¬ I 187 6 < lo ∧ I 187 6 ≤ hi
    · left
      obtain ⟨I', L', J', K', e1, e2, e3, e4, e5⟩ := go_next cx hz h (by rw [c]; decide) (by rw [c]; decide)
      refine ⟨I 187 6, I', L', J', K', ci.1, ci.2, ?_, ?_, e3, e4, e5⟩
      · simp only [D_69, E_69_0, E_69_1, E_69_3, ↓reduceIte, q_i, q_l, q_k, q_r, q_z, q_si, q_sl, jx_lt, jx_ri, jx_rl, jx_rv, if_true, if_false, Nat.reduceLeDiff, Nat.add_one_ne_zero, and_self, true_or, or_true, Nat.reduceEqDiff, or_self, or_false, false_or, k6, r0, k7, c, ci.1, ci.2, e1]
      · rw [hv'] at ci ⊢
        simp only [D_208, E_208_0, D_207, E_207_0, E_207_1, E_207_2, E_207_3, E_207_4, ↓reduceIte, q_i, q_l, q_k, q_r, q_z, q_si, q_sl, jx_lt, jx_ri, jx_rl, jx_rv, if_true, if_false, Nat.reduceLeDiff, Nat.add_one_ne_zero, and_self, true_or, or_true, Nat.reduceEqDiff, or_self, or_false, false_or, mo_k hm, c', hin, ci, show ¬ (1 : Int32) = 0 by decide, show ¬ (3 : Int32) = 5 by decide, e2, not_false_eq_true]
    · right
      have hfa := go_fault cx h (r := 4) (by decide) (by decide)
      refine ⟨_, _, _, _, ?_, ?_, hfa⟩
      · have e2 : jd 69 1 [some (.ref 181), some (.int lo), some (.int hi), none] [] (I, L, s) = jd 69 2 [some (.ref 181), none, none, none] [] (I, L, s) := by
          rw [E_69_1]
          simp only [↓reduceIte, q_i, q_l, q_k, q_r, q_z, q_si, q_sl, jx_lt, jx_ri, jx_rl, jx_rv, if_true, if_false, Nat.reduceLeDiff, Nat.add_one_ne_zero, and_self, true_or, or_true, Nat.reduceEqDiff, or_self, or_false, false_or, k6, r0, k7]
          by_cases c1 : I 187 6 < lo
          · rw [if_pos c1]
          · rw [if_neg c1, if_neg (fun z => ci ⟨c1, z⟩)]
        simp only [D_69, E_69_0, ↓reduceIte, q_i, q_l, q_k, q_r, q_z, q_si, q_sl, jx_lt, jx_ri, jx_rl, jx_rv, if_true, if_false, Nat.reduceLeDiff, Nat.add_one_ne_zero, and_self, true_or, or_true, Nat.reduceEqDiff, or_self, or_false, false_or, k6, r0, k7, c, e2, E_69_2, c52 hr]
        rfl
      · rw [hv'] at ci
        simp only [D_208, E_208_0, D_207, E_207_0, E_207_1, E_207_2, E_207_4, ↓reduceIte, q_i, q_l, q_k, q_r, q_z, q_si, q_sl, jx_lt, jx_ri, jx_rl, jx_rv, if_true, if_false, Nat.reduceLeDiff, Nat.add_one_ne_zero, and_self, true_or, or_true, Nat.reduceEqDiff, or_self, or_false, false_or, mo_k hm, c', hin, ci, m203 hm h9, h95, z202 hm (h95 4)]
        rfl
  · right
    have c' : ¬ J 240 9 = 3 := fun z => c (hs2.mpr z)
    have hfa := go_fault cx h (r := 1) (by decide) (by decide)
    refine ⟨_, _, _, _, ?_, ?_, hfa⟩
    · simp only [D_69, E_69_0, ↓reduceIte, q_i, q_l, q_k, q_r, q_z, q_si, q_sl, jx_lt, jx_ri, jx_rl, jx_rv, if_true, if_false, Nat.reduceLeDiff, Nat.add_one_ne_zero, and_self, true_or, or_true, Nat.reduceEqDiff, or_self, or_false, false_or, k6, r0, k7, c, c52 hr]
      rfl
    · simp only [D_208, E_208_0, D_207, E_207_0, E_207_2, E_207_4, ↓reduceIte, q_i, q_l, q_k, q_r, q_z, q_si, q_sl, jx_lt, jx_ri, jx_rl, jx_rv, if_true, if_false, Nat.reduceLeDiff, Nat.add_one_ne_zero, and_self, true_or, or_true, Nat.reduceEqDiff, or_self, or_false, false_or, mo_k hm, c', m203 hm h9, h95, z202 hm (h95 1)]
      rfl
/-- a word, then a number -/
theorem go_wnum (cx : qCx s s2 t f n b I0 J0) (hz : qStab Z) (h : qGo Z t f n I0 L0 J0 K0 I L J K) {c m : Nat} (hc : 2 ≤ c ∧ c < 59) (hm9 : 2 ≤ m ∧ m < 59) (hcm : q_tw c = q_tm m) (lo hi : Int32) : (∃ v I1 L1 I' L' J' K', ¬ v < lo ∧ v ≤ hi ∧ jD 68 [.ref 181, .ref c] (I, L, s) = some (some (.int 1), I1, L1, s) ∧ jD 69 [.ref 181, .int lo, .int hi] (I1, L1, s) = some (some (.int v), I', L', s) ∧ jD 209 [.ref 240, .ref m, .int lo, .int hi] (J, K, s2) = some (some (.int v), J', K', s2) ∧ qGo Z t f n I0 L0 J0 K0 I' L' J' K') ∨ (∃ u I' L' J' K', ((jD 68 [.ref 181, .ref c] (I, L, s) = some (some (.int 0), I', L', s)) ∨ ∃ I1 L1, jD 68 [.ref 181, .ref c] (I, L, s) = some (some (.int 1), I1, L1, s) ∧ jD 69 [.ref 181, .int lo, .int hi] (I1, L1, s) = some (some (.int (-1)), I', L', s)) ∧ jD 209 [.ref 240, .ref m, .int lo, .int hi] (J, K, s2) = some (some (.int u), J', K', s2) ∧ qFa t f n I0 L0 J0 K0 I' L' J' K') := by
  have hm := cx.2.2.2.1
  rcases go_word cx hz h hc hm9 hcm with ⟨I1, L1, J1, K1, e1, e2, e3⟩ | ⟨I1, L1, J1, K1, e1, e2, e3⟩
  · rcases go_num cx hz e3 lo hi with ⟨v, I', L', J', K', v1, v2, d1, d2, d3, -⟩ | ⟨I', L', J', K', d1, d2, d3⟩
    · left
      refine ⟨v, I1, L1, I', L', J', K', v1, v2, e1, d1, ?_, d3⟩
      simp only [D_209, E_209_0, ↓reduceIte, q_i, q_l, q_k, q_r, q_z, q_si, q_sl, jx_lt, jx_ri, jx_rl, jx_rv, if_true, if_false, Nat.reduceLeDiff, Nat.add_one_ne_zero, and_self, true_or, or_true, Nat.reduceEqDiff, or_self, or_false, false_or, mo_k hm, e2, d2]
    · right
      refine ⟨lo, I', L', J', K', Or.inr ⟨I1, L1, e1, d1⟩, ?_, d3⟩
      simp only [D_209, E_209_0, ↓reduceIte, q_i, q_l, q_k, q_r, q_z, q_si, q_sl, jx_lt, jx_ri, jx_rl, jx_rv, if_true, if_false, Nat.reduceLeDiff, Nat.add_one_ne_zero, and_self, true_or, or_true, Nat.reduceEqDiff, or_self, or_false, false_or, mo_k hm, e2, d2]
  · right
    have h5 : J1 240 9 = 5 := by
      obtain ⟨-, r, a, -, -, -, -, h5, -⟩ := e3
      exact h5
    refine ⟨lo, I1, L1, J1, K1, Or.inl e1, ?_, e3⟩
    simp only [D_209, E_209_0, ↓reduceIte, q_i, q_l, q_k, q_r, q_z, q_si, q_sl, jx_lt, jx_ri, jx_rl, jx_rv, if_true, if_false, Nat.reduceLeDiff, Nat.add_one_ne_zero, and_self, true_or, or_true, Nat.reduceEqDiff, or_self, or_false, false_or, mo_k hm, e2, z208 hm h5]
end PB
