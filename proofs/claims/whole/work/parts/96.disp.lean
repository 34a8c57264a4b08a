/-! READING: which line it is, on both sides -/
def q_lm (x : Nat) : Nat := [0, 0, 0, 8, 14, 6, 8, 1100, 6, 10, 10, 6].getD x 0
theorem tm_all : ((List.range 59).all fun a => (List.range 59).all fun b => decide (a < 31) || (decide (b < 31) || (decide (a = b) || !decide (q_tm a = q_tm b)))) = true := by decide +kernel
theorem tm_ne (a b : Nat) (ha : 31 ≤ a ∧ a < 59) (hb : 31 ≤ b ∧ b < 59) (h : a ≠ b) : q_tm a ≠ q_tm b := by
  have h1 := List.all_eq_true.mp (List.all_eq_true.mp tm_all a (List.mem_range.mpr ha.2)) b (List.mem_range.mpr hb.2)
  rw [decide_eq_false (show ¬ a < 31 by omega), decide_eq_false (show ¬ b < 31 by omega), decide_eq_false h] at h1
  simpa using h1
section PDs
variable {s s2 : qS} {t f c : Nat} {I J J' : qI} {L K K' : qL} {C : Nat → Nat}
theorem lim_eq {x : Nat} (h1 : 3 ≤ x) (h2 : x < 12) (M : jM) : jD 54 [.int (w x)] M = some (some (.int (w (q_lm x))), M) := by
  rw [D_54]
  have h9 : x = 3 ∨ x = 4 ∨ x = 5 ∨ x = 6 ∨ x = 7 ∨ x = 8 ∨ x = 9 ∨ x = 10 ∨ x = 11 := by omega
  rcases h9 with rfl | rfl | rfl | rfl | rfl | rfl | rfl | rfl | rfl
  · exact (E_54_0_3 M).trans (E_54_1 M)
  · exact (E_54_0_4 M).trans (E_54_2 M)
  · exact (E_54_0_5 M).trans (E_54_3 M)
  · exact (E_54_0_6 M).trans (E_54_4 M)
  · exact (E_54_0_7 M).trans (E_54_9 M)
  · exact (E_54_0_8 M).trans (E_54_5 M)
  · exact (E_54_0_9 M).trans (E_54_6 M)
  · exact (E_54_0_10 M).trans (E_54_7 M)
  · exact (E_54_0_11 M).trans (E_54_8 M)
theorem line_end {X X' Y : Option (Option Value × jM)} {C : Nat → Nat} {n : Nat} {I0 J0 : qI} {L0 K0 : qL} (h : X = X') (hl : qLine C X' Y s s2 t f n I0 L0 J0 K0) : qLine C X (jx_rv Y fun M => some (none, M)) s s2 t f n I0 L0 J0 K0 := by
  rcases hl with ⟨C1, I', L', J', K', a1, a2, a3⟩ | ⟨I', L', J', K', a1, a2, a3⟩
  · exact Or.inl ⟨C1, I', L', J', K', h.trans a1, by rw [a2]; rfl, a3⟩
  · exact Or.inr ⟨I', L', J', K', h.trans a1, by rw [a2]; rfl, a3⟩
/-! the class -/
theorem c53_pre (hr : qRdr s t) {i c0 : Nat} (e74 : jD 74 [.ref 181] (I, L, s) = some (some (.int (w i)), I, L, s)) (hi : i < 11) (hN : qNm I L) (hd : qd I t 0 0 = w c0) (hc : c0 ≤ 20) : jD 53 [.ref 181] (I, L, s) = jd 53 4 [some (.ref 181), none, some (.int (w (q_ln.getD i 0))), none, none] [.int (if c0 = 0 then 0 else 1)] (I, L, s) := by
  obtain ⟨k6, r0, r1, r2, r3, r5, k182, z182, row2, row3, k7, r7, rt, hfl, ht⟩ := id hr
  have t0 : ¬ t = 0 := by omega
  obtain ⟨-, n2, n3⟩ := hN i hi
  rw [D_53, E_53_0]
  simp only [↓reduceIte, q_i, q_l, q_k, q_r, q_z, q_si, q_sl, jx_lt, jx_ri, jx_rl, jx_rv, if_true, if_false, Nat.reduceLeDiff, Nat.add_one_ne_zero, and_self, true_or, or_true, Nat.reduceEqDiff, or_self, or_false, false_or, k6, e74, show ¬ w i = (-1 : Int32) from w_m1 (by omega), r2, row2.1, look_eq row2, q_at_w (n := 31) (k := i) (by omega) (by omega), n2]
  rw [E_53_2]
  simp only [↓reduceIte, q_i, q_l, q_k, q_r, q_z, q_si, q_sl, jx_lt, jx_ri, jx_rl, jx_rv, if_true, if_false, Nat.reduceLeDiff, Nat.add_one_ne_zero, and_self, true_or, or_true, Nat.reduceEqDiff, or_self, or_false, false_or, k6, r3, row3.1, look_eq row3, q_at_w (n := 31) (k := i) (by omega) (by omega), n3, r5, t0, hfl.1, days_eq hfl, hd]
  by_cases z : c0 = 0
  · rw [if_pos (by rw [z]; decide), if_pos z, E_53_3]
  · rw [if_neg (by rw [show (0 : Int32) = w 0 from rfl, w_le (by omega) (by omega)]; omega), if_neg z]
theorem c53_a {x : Nat} (hx : x = 0) : jd 53 4 [some (.ref 181), none, some (.int (w x)), none, none] [.int 0] (I, L, s) = jd 53 7 [some (.ref 181), none, some (.int 0), none, none] [] (I, L, s) := by
  subst hx
  rw [E_53_4, if_pos rfl, if_pos (by decide), E_53_5, if_pos rfl, E_53_6, if_pos (by decide)]
  rfl
theorem c53_b (hr : qRdr s t) {x : Nat} (hx : x ≠ 0) (hx9 : x < 1000) : jd 53 4 [some (.ref 181), none, some (.int (w x)), none, none] [.int 0] (I, L, s) = some (some (.int 0), q_up I 181 (q_set (q_set (I 181) 6 (w 6)) 7 (I 187 3)), L, s) := by
  rw [E_53_4, if_pos rfl, if_neg (fun z => hx ((w_zero (by omega)).mp z))]
  simp only [↓reduceIte, q_i, q_l, q_k, q_r, q_z, q_si, q_sl, jx_lt, jx_ri, jx_rl, jx_rv, if_true, if_false, Nat.reduceLeDiff, Nat.add_one_ne_zero, and_self, true_or, or_true, Nat.reduceEqDiff, or_self, or_false, false_or, hr.1, show (6 : Int32) = w 6 from rfl, c51 hr]
theorem c53_c (hr : qRdr s t) : jd 53 4 [some (.ref 181), none, some (.int (w 0)), none, none] [.int 1] (I, L, s) = some (some (.int 0), q_up I 181 (q_set (q_set (I 181) 6 (w 3)) 7 (I 187 3)), L, s) := by
  rw [E_53_4, if_neg (by decide), E_53_5, if_neg (by decide), if_pos (by decide)]
  simp only [↓reduceIte, q_i, q_l, q_k, q_r, q_z, q_si, q_sl, jx_lt, jx_ri, jx_rl, jx_rv, if_true, if_false, Nat.reduceLeDiff, Nat.add_one_ne_zero, and_self, true_or, or_true, Nat.reduceEqDiff, or_self, or_false, false_or, hr.1, show (3 : Int32) = w 3 from rfl, c51 hr]
theorem c53_d : jd 53 4 [some (.ref 181), none, some (.int (w 1)), none, none] [.int 1] (I, L, s) = jd 53 7 [some (.ref 181), none, some (.int 1), none, none] [] (I, L, s) := by
  rw [E_53_4, if_neg (by decide), E_53_5, if_neg (by decide), if_neg (by decide), E_53_6, if_pos (by decide)]
  rfl
theorem c53_6 (hr : qRdr s t) {x k : Nat} (h1 : 3 ≤ x) (h2 : x < 12) (hk : q_at 12 (I (t + 1 + 2 * 0 + 1)) (w x) = w k) : jd 53 4 [some (.ref 181), none, some (.int (w x)), none, none] [.int 1] (I, L, s) = if w k < w (q_lm x) then jd 53 7 [some (.ref 181), none, some (.int (w x)), none, none] [] (I, L, s) else some (some (.int 0), q_up I 181 (q_set (q_set (I 181) 6 (w 5)) 7 (I 187 3)), L, s) := by
  obtain ⟨k6, r0, r1, r2, r3, r5, k182, z182, row2, row3, k7, r7, rt, hfl, ht⟩ := id hr
  have t0 : ¬ t = 0 := by omega
  have r00 := fl_k hfl (k := 0) (n := 12) (by omega) rfl
  have hx0 : ¬ w x = (0 : Int32) := fun z => by
    have := (w_zero (by omega)).mp z
    omega
  have hx3 : ¬ w x < (3 : Int32) := by rw [show (3 : Int32) = w 3 from rfl, w_lt (by omega) (by omega)]; omega
  rw [E_53_4, if_neg (by decide), E_53_5, if_neg (by decide), if_neg hx0, E_53_6, if_neg hx3]
  by_cases c : w k < w (q_lm x)
  · simp only [↓reduceIte, q_i, q_l, q_k, q_r, q_z, q_si, q_sl, jx_lt, jx_ri, jx_rl, jx_rv, if_true, if_false, Nat.reduceLeDiff, Nat.add_one_ne_zero, and_self, true_or, or_true, Nat.reduceEqDiff, or_self, or_false, false_or, k6, r5, t0, hfl.1, r00.1, r00.2.1, look_eq r00.2, hk, lim_eq h1 h2, c]
  · simp only [↓reduceIte, q_i, q_l, q_k, q_r, q_z, q_si, q_sl, jx_lt, jx_ri, jx_rl, jx_rv, if_true, if_false, Nat.reduceLeDiff, Nat.add_one_ne_zero, and_self, true_or, or_true, Nat.reduceEqDiff, or_self, or_false, false_or, k6, r5, t0, hfl.1, r00.1, r00.2.1, look_eq r00.2, hk, lim_eq h1 h2, c]
    simp only [↓reduceIte, q_i, q_l, q_k, q_r, q_z, q_si, q_sl, jx_lt, jx_ri, jx_rl, jx_rv, if_true, if_false, Nat.reduceLeDiff, Nat.add_one_ne_zero, and_self, true_or, or_true, Nat.reduceEqDiff, or_self, or_false, false_or, k6, show (5 : Int32) = w 5 from rfl, c51 hr]
theorem lm_lt {x : Nat} (h2 : x < 12) : q_lm x < 2000 := by
  have : ∀ x, x < 12 → q_lm x < 2000 := by decide
  exact this x h2
theorem c53_e (hr : qRdr s t) {x k m : Nat} (h1 : 3 ≤ x) (h2 : x < 12) (hk : q_at 12 (I (t + 1 + 2 * 0 + 1)) (w x) = w k) (hl : k < m) (hm : q_lm x = m) : jd 53 4 [some (.ref 181), none, some (.int (w x)), none, none] [.int 1] (I, L, s) = jd 53 7 [some (.ref 181), none, some (.int (w x)), none, none] [] (I, L, s) := by
  have := lm_lt h2
  rw [c53_6 hr h1 h2 hk, if_pos (by rw [w_lt (by omega) (by omega)]; omega)]
theorem c53_f (hr : qRdr s t) {x k m : Nat} (h1 : 3 ≤ x) (h2 : x < 12) (hk : q_at 12 (I (t + 1 + 2 * 0 + 1)) (w x) = w k) (hl : ¬ k < m) (hk9 : k < 2000) (hm : q_lm x = m) : jd 53 4 [some (.ref 181), none, some (.int (w x)), none, none] [.int 1] (I, L, s) = some (some (.int 0), q_up I 181 (q_set (q_set (I 181) 6 (w 5)) 7 (I 187 3)), L, s) := by
  have := lm_lt h2
  rw [c53_6 hr h1 h2 hk, if_neg (by rw [w_lt (by omega) (by omega)]; omega)]
/-! the reference -/
theorem z212b (hm : qMo s2 240) (h4 : qr s2 240 4 = f) (hf : qMf s2 f) (h0 : f ≠ 0) (h : J 240 9 = 5) : jd 212 1 [some (.ref 240), none, none] [] (J, K, s2) = some (none, J, K, s2) := by
  rw [E_212_1]
  simp only [↓reduceIte, q_i, q_l, q_k, q_r, q_z, q_si, q_sl, jx_lt, jx_ri, jx_rl, jx_rv, if_true, if_false, Nat.reduceLeDiff, Nat.add_one_ne_zero, and_self, true_or, or_true, Nat.reduceEqDiff, or_self, or_false, false_or, mo_k hm, h4, h0, mf_k hf, z203 hm h, E_212_2, z202 hm h]
  by_cases z : J f 0 = 0
  · simp only [z, if_true]
  · simp only [z, if_false]
theorem m212_f5 (hm : qMo s2 240) (h4 : qr s2 240 4 = f) (hf : qMf s2 f) (h0 : f ≠ 0) (h9 : J 240 9 ≠ 5) {x y : Int32} (hxy : x = y) : jD 212 [.ref 240, .int x, .int y] (J, K, s2) = some (none, q_up J 240 (q_set (q_set (q_set (J 240) 13 (w 5)) 14 (J 240 10)) 9 5), K, s2) := by
  have h51 : (q_up J 240 (q_set (q_set (q_set (J 240) 13 (w 5)) 14 (J 240 10)) 9 5)) 240 9 = 5 := by rw [q_up_eq, q_set_eq]
  rw [D_212, E_212_0, if_pos hxy]
  simp only [↓reduceIte, q_i, q_l, q_k, q_r, q_z, q_si, q_sl, jx_lt, jx_ri, jx_rl, jx_rv, if_true, if_false, Nat.reduceLeDiff, Nat.add_one_ne_zero, and_self, true_or, or_true, Nat.reduceEqDiff, or_self, or_false, false_or, mo_k hm, show (5 : Int32) = w 5 from rfl, m203 hm h9]
  exact z212b hm h4 hf h0 h51
theorem m212_f6 (hm : qMo s2 240) (h4 : qr s2 240 4 = f) (hf : qMf s2 f) (h0 : f ≠ 0) (h9 : J 240 9 ≠ 5) {x y : Int32} (hxy : x ≠ y) (hd : J f 0 = 0) : jD 212 [.ref 240, .int x, .int y] (J, K, s2) = some (none, q_up J 240 (q_set (q_set (q_set (J 240) 13 (w 6)) 14 (J 240 10)) 9 5), K, s2) := by
  have h51 : (q_up J 240 (q_set (q_set (q_set (J 240) 13 (w 6)) 14 (J 240 10)) 9 5)) 240 9 = 5 := by rw [q_up_eq, q_set_eq]
  rw [D_212, E_212_0, if_neg hxy, E_212_1]
  simp only [↓reduceIte, q_i, q_l, q_k, q_r, q_z, q_si, q_sl, jx_lt, jx_ri, jx_rl, jx_rv, if_true, if_false, Nat.reduceLeDiff, Nat.add_one_ne_zero, and_self, true_or, or_true, Nat.reduceEqDiff, or_self, or_false, false_or, mo_k hm, h4, h0, mf_k hf, hd, m203 hm h9]
  rw [E_212_2]
  have e := z202 (K := K) hm h51
  simp only [↓reduceIte, q_i, q_l, q_k, q_r, q_z, q_si, q_sl, jx_lt, jx_ri, jx_rl, jx_rv, if_true, if_false, Nat.reduceLeDiff, Nat.add_one_ne_zero, and_self, true_or, or_true, Nat.reduceEqDiff, or_self, or_false, false_or, mo_k hm, e]
  exact congrArg (fun M => jx_rv M fun M1 => some (none, M1)) e
theorem m220_f (hm : qMo s2 240) (h4 : qr s2 240 4 = f) (hf : qMf s2 f) (h0 : f ≠ 0) (h9 : J 240 9 ≠ 5) (hd : ¬ J f 0 ≤ 0) (h51 : (q_up J 240 (q_set (q_set (q_set (J 240) 13 (w 3)) 14 (J 240 10)) 9 5)) 240 9 = 5) : jD 220 [.ref 240] (J, K, s2) = some (none, q_up J 240 (q_set (q_set (q_set (J 240) 13 (w 3)) 14 (J 240 10)) 9 5), K, s2) := by
  have e1 : jd 220 1 [some (.ref 240), none, none, none] [] (q_up J 240 (q_set (q_set (q_set (J 240) 13 (w 3)) 14 (J 240 10)) 9 5), K, s2) = some (none, q_up J 240 (q_set (q_set (q_set (J 240) 13 (w 3)) 14 (J 240 10)) 9 5), K, s2) := by
    rw [E_220_1]
    simp only [↓reduceIte, q_i, q_l, q_k, q_r, q_z, q_si, q_sl, jx_lt, jx_ri, jx_rl, jx_rv, if_true, if_false, Nat.reduceLeDiff, Nat.add_one_ne_zero, and_self, true_or, or_true, Nat.reduceEqDiff, or_self, or_false, false_or, mo_k hm, z202 hm h51, z209 hm h51, h51]
  rw [D_220, E_220_0]
  simp only [↓reduceIte, q_i, q_l, q_k, q_r, q_z, q_si, q_sl, jx_lt, jx_ri, jx_rl, jx_rv, if_true, if_false, Nat.reduceLeDiff, Nat.add_one_ne_zero, and_self, true_or, or_true, Nat.reduceEqDiff, or_self, or_false, false_or, mo_k hm, h4, h0, mf_k hf, hd, m203 hm h9]
  exact e1
theorem z221 (hm : qMo s2 240) (h4 : qr s2 240 4 = f) (hf : qMf s2 f) (h0 : f ≠ 0) (e : jD 212 [.ref 240, .int (J f 3), .int 8] (J, K, s2) = some (none, J', K', s2)) (h5 : J' 240 9 = 5) (hc : c ≤ 20) (h13 : J' f 13 = w c) : jD 221 [.ref 240] (J, K, s2) = some (none, J', K', s2) := by
  have z204' := fun m => z204 (J := J') (K := K') hm h5 m
  rw [D_221, E_221_0]
  simp only [↓reduceIte, q_i, q_l, q_k, q_r, q_z, q_si, q_sl, jx_lt, jx_ri, jx_rl, jx_rv, if_true, if_false, Nat.reduceLeDiff, Nat.add_one_ne_zero, and_self, true_or, or_true, Nat.reduceEqDiff, or_self, or_false, false_or, mo_k hm, h4, h0, mf_k hf, e, z213 hm h4 hf h0 hc h13 h5, z204']
  rw [E_221_1]
  simp only [↓reduceIte, q_i, q_l, q_k, q_r, q_z, q_si, q_sl, jx_lt, jx_ri, jx_rl, jx_rv, if_true, if_false, Nat.reduceLeDiff, Nat.add_one_ne_zero, and_self, true_or, or_true, Nat.reduceEqDiff, or_self, or_false, false_or, mo_k hm, z204']
  rw [E_221_2]
  simp only [↓reduceIte, q_i, q_l, q_k, q_r, q_z, q_si, q_sl, jx_lt, jx_ri, jx_rl, jx_rv, if_true, if_false, Nat.reduceLeDiff, Nat.add_one_ne_zero, and_self, true_or, or_true, Nat.reduceEqDiff, or_self, or_false, false_or, mo_k hm, z204']
  rw [E_221_3, E_221_4, if_pos rfl]
  simp only [↓reduceIte, q_i, q_l, q_k, q_r, q_z, q_si, q_sl, jx_lt, jx_ri, jx_rl, jx_rv, if_true, if_false, Nat.reduceLeDiff, Nat.add_one_ne_zero, and_self, true_or, or_true, Nat.reduceEqDiff, or_self, or_false, false_or, mo_k hm, z203 hm h5]
  rw [E_221_5]
  simp only [↓reduceIte, q_i, q_l, q_k, q_r, q_z, q_si, q_sl, jx_lt, jx_ri, jx_rl, jx_rv, if_true, if_false, Nat.reduceLeDiff, Nat.add_one_ne_zero, and_self, true_or, or_true, Nat.reduceEqDiff, or_self, or_false, false_or, mo_k hm, z202 hm h5, h5]
theorem z222 (hm : qMo s2 240) (h4 : qr s2 240 4 = f) (hf : qMf s2 f) (h0 : f ≠ 0) (e : jD 212 [.ref 240, .int (J f 4), .int 14] (J, K, s2) = some (none, J', K', s2)) (h5 : J' 240 9 = 5) (hc : c ≤ 20) (h13 : J' f 13 = w c) : jD 222 [.ref 240] (J, K, s2) = some (none, J', K', s2) := by
  rw [D_222, E_222_0]
  simp only [↓reduceIte, q_i, q_l, q_k, q_r, q_z, q_si, q_sl, jx_lt, jx_ri, jx_rl, jx_rv, if_true, if_false, Nat.reduceLeDiff, Nat.add_one_ne_zero, and_self, true_or, or_true, Nat.reduceEqDiff, or_self, or_false, false_or, mo_k hm, h4, h0, mf_k hf, e, z216 hm h4 hf h0 hc h13 h5, z215 hm h4 hf h0 hc h13 h5, h5]
  rw [E_222_2]
  simp only [↓reduceIte, q_i, q_l, q_k, q_r, q_z, q_si, q_sl, jx_lt, jx_ri, jx_rl, jx_rv, if_true, if_false, Nat.reduceLeDiff, Nat.add_one_ne_zero, and_self, true_or, or_true, Nat.reduceEqDiff, or_self, or_false, false_or, mo_k hm, z202 hm h5, z209 hm h5, h5]
theorem z223c (hm : qMo s2 240) (h4 : qr s2 240 4 = f) (hf : qMf s2 f) (h0 : f ≠ 0) (e : jD 212 [.ref 240, .int (J f 5), .int 6] (J, K, s2) = some (none, J', K', s2)) (h5 : J' 240 9 = 5) (hc : c ≤ 20) (h13 : J' f 13 = w c) : jD 223 [.ref 240] (J, K, s2) = some (none, J', K', s2) := by
  have e3 : jD 223 [.ref 240] (J, K, s2) = qK0 (K' 240 15) (J', K', s2) := by
    rw [D_223, E_223_0]
    simp only [↓reduceIte, q_i, q_l, q_k, q_r, q_z, q_si, q_sl, jx_lt, jx_ri, jx_rl, jx_rv, if_true, if_false, Nat.reduceLeDiff, Nat.add_one_ne_zero, and_self, true_or, or_true, Nat.reduceEqDiff, or_self, or_false, false_or, mo_k hm, h4, h0, mf_k hf, e, z213 hm h4 hf h0 hc h13 h5]
    rfl
  rw [e3]
  exact z223a hm h4 hf h0 hc h13 h5 _
theorem z224 (hm : qMo s2 240) (h4 : qr s2 240 4 = f) (hf : qMf s2 f) (h0 : f ≠ 0) (e : jD 212 [.ref 240, .int 0, .int 1] (J, K, s2) = some (none, J', K', s2)) (h5 : J' 240 9 = 5) (hc : c ≤ 20) (h13 : J' f 13 = w c) : jD 224 [.ref 240] (J, K, s2) = some (none, J', K', s2) := by
  rw [D_224, E_224_0]
  simp only [↓reduceIte, q_i, q_l, q_k, q_r, q_z, q_si, q_sl, jx_lt, jx_ri, jx_rl, jx_rv, if_true, if_false, Nat.reduceLeDiff, Nat.add_one_ne_zero, and_self, true_or, or_true, Nat.reduceEqDiff, or_self, or_false, false_or, mo_k hm, h4, h0, mf_k hf, e, z215 hm h4 hf h0 hc h13 h5, h5]
  exact z224_1 hm h4 hf h0 hc h13 h5 _
theorem z225 (hm : qMo s2 240) (h4 : qr s2 240 4 = f) (hf : qMf s2 f) (h0 : f ≠ 0) (e : jD 212 [.ref 240, .int (J f 6), .int 8] (J, K, s2) = some (none, J', K', s2)) (h5 : J' 240 9 = 5) (hc : c ≤ 20) (h13 : J' f 13 = w c) : jD 225 [.ref 240] (J, K, s2) = some (none, J', K', s2) := by
  rw [D_225, E_225_0]
  simp only [↓reduceIte, q_i, q_l, q_k, q_r, q_z, q_si, q_sl, jx_lt, jx_ri, jx_rl, jx_rv, if_true, if_false, Nat.reduceLeDiff, Nat.add_one_ne_zero, and_self, true_or, or_true, Nat.reduceEqDiff, or_self, or_false, false_or, mo_k hm, h4, h0, mf_k hf, e, z216 hm h4 hf h0 hc h13 h5, z210 hm h4 hf h0 h5, h5]
theorem z226 (hm : qMo s2 240) (h4 : qr s2 240 4 = f) (hf : qMf s2 f) (h0 : f ≠ 0) (e : jD 212 [.ref 240, .int 0, .int 1] (J, K, s2) = some (none, J', K', s2)) (h5 : J' 240 9 = 5) (hc : c ≤ 20) (h13 : J' f 13 = w c) : jD 226 [.ref 240] (J, K, s2) = some (none, J', K', s2) := by
  rw [D_226, E_226_0]
  simp only [↓reduceIte, q_i, q_l, q_k, q_r, q_z, q_si, q_sl, jx_lt, jx_ri, jx_rl, jx_rv, if_true, if_false, Nat.reduceLeDiff, Nat.add_one_ne_zero, and_self, true_or, or_true, Nat.reduceEqDiff, or_self, or_false, false_or, mo_k hm, h4, h0, mf_k hf, e, z215 hm h4 hf h0 hc h13 h5, h5]
  rw [E_226_1]
  simp only [↓reduceIte, q_i, q_l, q_k, q_r, q_z, q_si, q_sl, jx_lt, jx_ri, jx_rl, jx_rv, if_true, if_false, Nat.reduceLeDiff, Nat.add_one_ne_zero, and_self, true_or, or_true, Nat.reduceEqDiff, or_self, or_false, false_or, mo_k hm, z202 hm h5, z217 hm h4 hf h0 hc h13 h5, h5]
theorem z227 (hm : qMo s2 240) (h4 : qr s2 240 4 = f) (hf : qMf s2 f) (h0 : f ≠ 0) (e : jD 212 [.ref 240, .int (J f 8), .int 6] (J, K, s2) = some (none, J', K', s2)) (h5 : J' 240 9 = 5) (hc : c ≤ 20) (h13 : J' f 13 = w c) : jD 227 [.ref 240] (J, K, s2) = some (none, J', K', s2) := by
  rw [D_227, E_227_0]
  simp only [↓reduceIte, q_i, q_l, q_k, q_r, q_z, q_si, q_sl, jx_lt, jx_ri, jx_rl, jx_rv, if_true, if_false, Nat.reduceLeDiff, Nat.add_one_ne_zero, and_self, true_or, or_true, Nat.reduceEqDiff, or_self, or_false, false_or, mo_k hm, h4, h0, mf_k hf, e, z213 hm h4 hf h0 hc h13 h5, z217 hm h4 hf h0 hc h13 h5, h5]
theorem z228 (hm : qMo s2 240) (h4 : qr s2 240 4 = f) (hf : qMf s2 f) (h0 : f ≠ 0) (e : jD 212 [.ref 240, .int (J f 9), .int 10] (J, K, s2) = some (none, J', K', s2)) (h5 : J' 240 9 = 5) (hc : c ≤ 20) (h13 : J' f 13 = w c) : jD 228 [.ref 240] (J, K, s2) = some (none, J', K', s2) := by
  rw [D_228, E_228_0]
  simp only [↓reduceIte, q_i, q_l, q_k, q_r, q_z, q_si, q_sl, jx_lt, jx_ri, jx_rl, jx_rv, if_true, if_false, Nat.reduceLeDiff, Nat.add_one_ne_zero, and_self, true_or, or_true, Nat.reduceEqDiff, or_self, or_false, false_or, mo_k hm, h4, h0, mf_k hf, e, z216 hm h4 hf h0 hc h13 h5, z210 hm h4 hf h0 h5, z206 hm h5, h5]
theorem z229 (hm : qMo s2 240) (h4 : qr s2 240 4 = f) (hf : qMf s2 f) (h0 : f ≠ 0) (e : jD 212 [.ref 240, .int (J f 11), .int 10] (J, K, s2) = some (none, J', K', s2)) (h5 : J' 240 9 = 5) (hc : c ≤ 20) (h13 : J' f 13 = w c) : jD 229 [.ref 240] (J, K, s2) = some (none, J', K', s2) := by
  rw [D_229, E_229_0]
  simp only [↓reduceIte, q_i, q_l, q_k, q_r, q_z, q_si, q_sl, jx_lt, jx_ri, jx_rl, jx_rv, if_true, if_false, Nat.reduceLeDiff, Nat.add_one_ne_zero, and_self, true_or, or_true, Nat.reduceEqDiff, or_self, or_false, false_or, mo_k hm, h4, h0, mf_k hf, e, z207 hm h5, h5]
  rw [E_229_1]
  simp only [↓reduceIte, q_i, q_l, q_k, q_r, q_z, q_si, q_sl, jx_lt, jx_ri, jx_rl, jx_rv, if_true, if_false, Nat.reduceLeDiff, Nat.add_one_ne_zero, and_self, true_or, or_true, Nat.reduceEqDiff, or_self, or_false, false_or, mo_k hm, z202 hm h5, h5]
theorem z230 (hm : qMo s2 240) (h4 : qr s2 240 4 = f) (hf : qMf s2 f) (h0 : f ≠ 0) (e : jD 212 [.ref 240, .int (J f 12), .int 6] (J, K, s2) = some (none, J', K', s2)) (h5 : J' 240 9 = 5) (hc : c ≤ 20) (h13 : J' f 13 = w c) : jD 230 [.ref 240] (J, K, s2) = some (none, J', K', s2) := by
  rw [D_230, E_230_0]
  simp only [↓reduceIte, q_i, q_l, q_k, q_r, q_z, q_si, q_sl, jx_lt, jx_ri, jx_rl, jx_rv, if_true, if_false, Nat.reduceLeDiff, Nat.add_one_ne_zero, and_self, true_or, or_true, Nat.reduceEqDiff, or_self, or_false, false_or, mo_k hm, h4, h0, mf_k hf, e, z208 hm h5, z209 hm h5, h5]

theorem m219_220 (hm : qMo s2 240) (htx : ∀ a, 2 ≤ a → a < 59 → qk s2 a = 40) (h9 : J 240 9 = 2) (h15 : K 240 15 = q_tm 31) : jD 219 [.ref 240] (J, K, s2) = jx_rv (jD 220 [.ref 240] (J, K, s2)) fun M => some (none, M) := by
  have m31 : jD 204 [.ref 240, .ref 31] (J, K, s2) = some (some (.int 1), J, K, s2) := by
    rw [m_is hm (by decide) (htx 31 (by decide) (by decide)), if_pos ⟨h9, h15⟩]
  rw [D_219]
  rw [E_219_0]
  simp only [↓reduceIte, q_i, q_l, q_k, q_r, q_z, q_si, q_sl, jx_lt, jx_ri, jx_rl, jx_rv, if_true, if_false, Nat.reduceLeDiff, Nat.add_one_ne_zero, and_self, true_or, or_true, Nat.reduceEqDiff, or_self, or_false, false_or, mo_k hm, m31, show ¬ (1 : Int32) = 0 by decide, E_219_12]
theorem m219_221 (hm : qMo s2 240) (htx : ∀ a, 2 ≤ a → a < 59 → qk s2 a = 40) (h9 : J 240 9 = 2) (h15 : K 240 15 = q_tm 35) : jD 219 [.ref 240] (J, K, s2) = jx_rv (jD 221 [.ref 240] (J, K, s2)) fun M => some (none, M) := by
  have m31 : jD 204 [.ref 240, .ref 31] (J, K, s2) = some (some (.int 0), J, K, s2) := by
    rw [m_is hm (by decide) (htx 31 (by decide) (by decide)), if_neg (fun z => absurd (h15.symm.trans z.2) (tm_ne 35 31 (by decide) (by decide) (by decide)))]
  have m35 : jD 204 [.ref 240, .ref 35] (J, K, s2) = some (some (.int 1), J, K, s2) := by
    rw [m_is hm (by decide) (htx 35 (by decide) (by decide)), if_pos ⟨h9, h15⟩]
  rw [D_219]
  rw [E_219_0]
  simp only [↓reduceIte, q_i, q_l, q_k, q_r, q_z, q_si, q_sl, jx_lt, jx_ri, jx_rl, jx_rv, if_true, if_false, Nat.reduceLeDiff, Nat.add_one_ne_zero, and_self, true_or, or_true, Nat.reduceEqDiff, or_self, or_false, false_or, mo_k hm, m31]
  rw [E_219_1]
  simp only [↓reduceIte, q_i, q_l, q_k, q_r, q_z, q_si, q_sl, jx_lt, jx_ri, jx_rl, jx_rv, if_true, if_false, Nat.reduceLeDiff, Nat.add_one_ne_zero, and_self, true_or, or_true, Nat.reduceEqDiff, or_self, or_false, false_or, mo_k hm, m35, show ¬ (1 : Int32) = 0 by decide, E_219_12]
theorem m219_222 (hm : qMo s2 240) (htx : ∀ a, 2 ≤ a → a < 59 → qk s2 a = 40) (h9 : J 240 9 = 2) (h15 : K 240 15 = q_tm 36) : jD 219 [.ref 240] (J, K, s2) = jx_rv (jD 222 [.ref 240] (J, K, s2)) fun M => some (none, M) := by
  have m31 : jD 204 [.ref 240, .ref 31] (J, K, s2) = some (some (.int 0), J, K, s2) := by
    rw [m_is hm (by decide) (htx 31 (by decide) (by decide)), if_neg (fun z => absurd (h15.symm.trans z.2) (tm_ne 36 31 (by decide) (by decide) (by decide)))]
  have m35 : jD 204 [.ref 240, .ref 35] (J, K, s2) = some (some (.int 0), J, K, s2) := by
    rw [m_is hm (by decide) (htx 35 (by decide) (by decide)), if_neg (fun z => absurd (h15.symm.trans z.2) (tm_ne 36 35 (by decide) (by decide) (by decide)))]
  have m36 : jD 204 [.ref 240, .ref 36] (J, K, s2) = some (some (.int 1), J, K, s2) := by
    rw [m_is hm (by decide) (htx 36 (by decide) (by decide)), if_pos ⟨h9, h15⟩]
  rw [D_219]
  rw [E_219_0]
  simp only [↓reduceIte, q_i, q_l, q_k, q_r, q_z, q_si, q_sl, jx_lt, jx_ri, jx_rl, jx_rv, if_true, if_false, Nat.reduceLeDiff, Nat.add_one_ne_zero, and_self, true_or, or_true, Nat.reduceEqDiff, or_self, or_false, false_or, mo_k hm, m31]
  rw [E_219_1]
  simp only [↓reduceIte, q_i, q_l, q_k, q_r, q_z, q_si, q_sl, jx_lt, jx_ri, jx_rl, jx_rv, if_true, if_false, Nat.reduceLeDiff, Nat.add_one_ne_zero, and_self, true_or, or_true, Nat.reduceEqDiff, or_self, or_false, false_or, mo_k hm, m35]
  rw [E_219_2]
  simp only [↓reduceIte, q_i, q_l, q_k, q_r, q_z, q_si, q_sl, jx_lt, jx_ri, jx_rl, jx_rv, if_true, if_false, Nat.reduceLeDiff, Nat.add_one_ne_zero, and_self, true_or, or_true, Nat.reduceEqDiff, or_self, or_false, false_or, mo_k hm, m36, show ¬ (1 : Int32) = 0 by decide, E_219_12]
theorem m219_223 (hm : qMo s2 240) (htx : ∀ a, 2 ≤ a → a < 59 → qk s2 a = 40) (h9 : J 240 9 = 2) (h15 : K 240 15 = q_tm 37) : jD 219 [.ref 240] (J, K, s2) = jx_rv (jD 223 [.ref 240] (J, K, s2)) fun M => some (none, M) := by
  have m31 : jD 204 [.ref 240, .ref 31] (J, K, s2) = some (some (.int 0), J, K, s2) := by
    rw [m_is hm (by decide) (htx 31 (by decide) (by decide)), if_neg (fun z => absurd (h15.symm.trans z.2) (tm_ne 37 31 (by decide) (by decide) (by decide)))]
  have m35 : jD 204 [.ref 240, .ref 35] (J, K, s2) = some (some (.int 0), J, K, s2) := by
    rw [m_is hm (by decide) (htx 35 (by decide) (by decide)), if_neg (fun z => absurd (h15.symm.trans z.2) (tm_ne 37 35 (by decide) (by decide) (by decide)))]
  have m36 : jD 204 [.ref 240, .ref 36] (J, K, s2) = some (some (.int 0), J, K, s2) := by
    rw [m_is hm (by decide) (htx 36 (by decide) (by decide)), if_neg (fun z => absurd (h15.symm.trans z.2) (tm_ne 37 36 (by decide) (by decide) (by decide)))]
  have m37 : jD 204 [.ref 240, .ref 37] (J, K, s2) = some (some (.int 1), J, K, s2) := by
    rw [m_is hm (by decide) (htx 37 (by decide) (by decide)), if_pos ⟨h9, h15⟩]
  rw [D_219]
  rw [E_219_0]
  simp only [↓reduceIte, q_i, q_l, q_k, q_r, q_z, q_si, q_sl, jx_lt, jx_ri, jx_rl, jx_rv, if_true, if_false, Nat.reduceLeDiff, Nat.add_one_ne_zero, and_self, true_or, or_true, Nat.reduceEqDiff, or_self, or_false, false_or, mo_k hm, m31]
  rw [E_219_1]
  simp only [↓reduceIte, q_i, q_l, q_k, q_r, q_z, q_si, q_sl, jx_lt, jx_ri, jx_rl, jx_rv, if_true, if_false, Nat.reduceLeDiff, Nat.add_one_ne_zero, and_self, true_or, or_true, Nat.reduceEqDiff, or_self, or_false, false_or, mo_k hm, m35]
  rw [E_219_2]
  simp only [↓reduceIte, q_i, q_l, q_k, q_r, q_z, q_si, q_sl, jx_lt, jx_ri, jx_rl, jx_rv, if_true, if_false, Nat.reduceLeDiff, Nat.add_one_ne_zero, and_self, true_or, or_true, Nat.reduceEqDiff, or_self, or_false, false_or, mo_k hm, m36]
  rw [E_219_3]
  simp only [↓reduceIte, q_i, q_l, q_k, q_r, q_z, q_si, q_sl, jx_lt, jx_ri, jx_rl, jx_rv, if_true, if_false, Nat.reduceLeDiff, Nat.add_one_ne_zero, and_self, true_or, or_true, Nat.reduceEqDiff, or_self, or_false, false_or, mo_k hm, m37, show ¬ (1 : Int32) = 0 by decide, E_219_12]
theorem m219_224 (hm : qMo s2 240) (htx : ∀ a, 2 ≤ a → a < 59 → qk s2 a = 40) (h9 : J 240 9 = 2) (h15 : K 240 15 = q_tm 38) : jD 219 [.ref 240] (J, K, s2) = jx_rv (jD 224 [.ref 240] (J, K, s2)) fun M => some (none, M) := by
  have m31 : jD 204 [.ref 240, .ref 31] (J, K, s2) = some (some (.int 0), J, K, s2) := by
    rw [m_is hm (by decide) (htx 31 (by decide) (by decide)), if_neg (fun z => absurd (h15.symm.trans z.2) (tm_ne 38 31 (by decide) (by decide) (by decide)))]
  have m35 : jD 204 [.ref 240, .ref 35] (J, K, s2) = some (some (.int 0), J, K, s2) := by
    rw [m_is hm (by decide) (htx 35 (by decide) (by decide)), if_neg (fun z => absurd (h15.symm.trans z.2) (tm_ne 38 35 (by decide) (by decide) (by decide)))]
  have m36 : jD 204 [.ref 240, .ref 36] (J, K, s2) = some (some (.int 0), J, K, s2) := by
    rw [m_is hm (by decide) (htx 36 (by decide) (by decide)), if_neg (fun z => absurd (h15.symm.trans z.2) (tm_ne 38 36 (by decide) (by decide) (by decide)))]
  have m37 : jD 204 [.ref 240, .ref 37] (J, K, s2) = some (some (.int 0), J, K, s2) := by
    rw [m_is hm (by decide) (htx 37 (by decide) (by decide)), if_neg (fun z => absurd (h15.symm.trans z.2) (tm_ne 38 37 (by decide) (by decide) (by decide)))]
  have m38 : jD 204 [.ref 240, .ref 38] (J, K, s2) = some (some (.int 1), J, K, s2) := by
    rw [m_is hm (by decide) (htx 38 (by decide) (by decide)), if_pos ⟨h9, h15⟩]
  rw [D_219]
  rw [E_219_0]
  simp only [↓reduceIte, q_i, q_l, q_k, q_r, q_z, q_si, q_sl, jx_lt, jx_ri, jx_rl, jx_rv, if_true, if_false, Nat.reduceLeDiff, Nat.add_one_ne_zero, and_self, true_or, or_true, Nat.reduceEqDiff, or_self, or_false, false_or, mo_k hm, m31]
  rw [E_219_1]
  simp only [↓reduceIte, q_i, q_l, q_k, q_r, q_z, q_si, q_sl, jx_lt, jx_ri, jx_rl, jx_rv, if_true, if_false, Nat.reduceLeDiff, Nat.add_one_ne_zero, and_self, true_or, or_true, Nat.reduceEqDiff, or_self, or_false, false_or, mo_k hm, m35]
  rw [E_219_2]
  simp only [↓reduceIte, q_i, q_l, q_k, q_r, q_z, q_si, q_sl, jx_lt, jx_ri, jx_rl, jx_rv, if_true, if_false, Nat.reduceLeDiff, Nat.add_one_ne_zero, and_self, true_or, or_true, Nat.reduceEqDiff, or_self, or_false, false_or, mo_k hm, m36]
  rw [E_219_3]
  simp only [↓reduceIte, q_i, q_l, q_k, q_r, q_z, q_si, q_sl, jx_lt, jx_ri, jx_rl, jx_rv, if_true, if_false, Nat.reduceLeDiff, Nat.add_one_ne_zero, and_self, true_or, or_true, Nat.reduceEqDiff, or_self, or_false, false_or, mo_k hm, m37]
  rw [E_219_4]
  simp only [↓reduceIte, q_i, q_l, q_k, q_r, q_z, q_si, q_sl, jx_lt, jx_ri, jx_rl, jx_rv, if_true, if_false, Nat.reduceLeDiff, Nat.add_one_ne_zero, and_self, true_or, or_true, Nat.reduceEqDiff, or_self, or_false, false_or, mo_k hm, m38, show ¬ (1 : Int32) = 0 by decide, E_219_12]
theorem m219_225 (hm : qMo s2 240) (htx : ∀ a, 2 ≤ a → a < 59 → qk s2 a = 40) (h9 : J 240 9 = 2) (h15 : K 240 15 = q_tm 39) : jD 219 [.ref 240] (J, K, s2) = jx_rv (jD 225 [.ref 240] (J, K, s2)) fun M => some (none, M) := by
  have m31 : jD 204 [.ref 240, .ref 31] (J, K, s2) = some (some (.int 0), J, K, s2) := by
    rw [m_is hm (by decide) (htx 31 (by decide) (by decide)), if_neg (fun z => absurd (h15.symm.trans z.2) (tm_ne 39 31 (by decide) (by decide) (by decide)))]
  have m35 : jD 204 [.ref 240, .ref 35] (J, K, s2) = some (some (.int 0), J, K, s2) := by
    rw [m_is hm (by decide) (htx 35 (by decide) (by decide)), if_neg (fun z => absurd (h15.symm.trans z.2) (tm_ne 39 35 (by decide) (by decide) (by decide)))]
  have m36 : jD 204 [.ref 240, .ref 36] (J, K, s2) = some (some (.int 0), J, K, s2) := by
    rw [m_is hm (by decide) (htx 36 (by decide) (by decide)), if_neg (fun z => absurd (h15.symm.trans z.2) (tm_ne 39 36 (by decide) (by decide) (by decide)))]
  have m37 : jD 204 [.ref 240, .ref 37] (J, K, s2) = some (some (.int 0), J, K, s2) := by
    rw [m_is hm (by decide) (htx 37 (by decide) (by decide)), if_neg (fun z => absurd (h15.symm.trans z.2) (tm_ne 39 37 (by decide) (by decide) (by decide)))]
  have m38 : jD 204 [.ref 240, .ref 38] (J, K, s2) = some (some (.int 0), J, K, s2) := by
    rw [m_is hm (by decide) (htx 38 (by decide) (by decide)), if_neg (fun z => absurd (h15.symm.trans z.2) (tm_ne 39 38 (by decide) (by decide) (by decide)))]
  have m39 : jD 204 [.ref 240, .ref 39] (J, K, s2) = some (some (.int 1), J, K, s2) := by
    rw [m_is hm (by decide) (htx 39 (by decide) (by decide)), if_pos ⟨h9, h15⟩]
  rw [D_219]
  rw [E_219_0]
  simp only [↓reduceIte, q_i, q_l, q_k, q_r, q_z, q_si, q_sl, jx_lt, jx_ri, jx_rl, jx_rv, if_true, if_false, Nat.reduceLeDiff, Nat.add_one_ne_zero, and_self, true_or, or_true, Nat.reduceEqDiff, or_self, or_false, false_or, mo_k hm, m31]
  rw [E_219_1]
  simp only [↓reduceIte, q_i, q_l, q_k, q_r, q_z, q_si, q_sl, jx_lt, jx_ri, jx_rl, jx_rv, if_true, if_false, Nat.reduceLeDiff, Nat.add_one_ne_zero, and_self, true_or, or_true, Nat.reduceEqDiff, or_self, or_false, false_or, mo_k hm, m35]
  rw [E_219_2]
  simp only [↓reduceIte, q_i, q_l, q_k, q_r, q_z, q_si, q_sl, jx_lt, jx_ri, jx_rl, jx_rv, if_true, if_false, Nat.reduceLeDiff, Nat.add_one_ne_zero, and_self, true_or, or_true, Nat.reduceEqDiff, or_self, or_false, false_or, mo_k hm, m36]
  rw [E_219_3]
  simp only [↓reduceIte, q_i, q_l, q_k, q_r, q_z, q_si, q_sl, jx_lt, jx_ri, jx_rl, jx_rv, if_true, if_false, Nat.reduceLeDiff, Nat.add_one_ne_zero, and_self, true_or, or_true, Nat.reduceEqDiff, or_self, or_false, false_or, mo_k hm, m37]
  rw [E_219_4]
  simp only [↓reduceIte, q_i, q_l, q_k, q_r, q_z, q_si, q_sl, jx_lt, jx_ri, jx_rl, jx_rv, if_true, if_false, Nat.reduceLeDiff, Nat.add_one_ne_zero, and_self, true_or, or_true, Nat.reduceEqDiff, or_self, or_false, false_or, mo_k hm, m38]
  rw [E_219_5]
  simp only [↓reduceIte, q_i, q_l, q_k, q_r, q_z, q_si, q_sl, jx_lt, jx_ri, jx_rl, jx_rv, if_true, if_false, Nat.reduceLeDiff, Nat.add_one_ne_zero, and_self, true_or, or_true, Nat.reduceEqDiff, or_self, or_false, false_or, mo_k hm, m39, show ¬ (1 : Int32) = 0 by decide, E_219_12]
theorem m219_226 (hm : qMo s2 240) (htx : ∀ a, 2 ≤ a → a < 59 → qk s2 a = 40) (h9 : J 240 9 = 2) (h15 : K 240 15 = q_tm 40) : jD 219 [.ref 240] (J, K, s2) = jx_rv (jD 226 [.ref 240] (J, K, s2)) fun M => some (none, M) := by
  have m31 : jD 204 [.ref 240, .ref 31] (J, K, s2) = some (some (.int 0), J, K, s2) := by
    rw [m_is hm (by decide) (htx 31 (by decide) (by decide)), if_neg (fun z => absurd (h15.symm.trans z.2) (tm_ne 40 31 (by decide) (by decide) (by decide)))]
  have m35 : jD 204 [.ref 240, .ref 35] (J, K, s2) = some (some (.int 0), J, K, s2) := by
    rw [m_is hm (by decide) (htx 35 (by decide) (by decide)), if_neg (fun z => absurd (h15.symm.trans z.2) (tm_ne 40 35 (by decide) (by decide) (by decide)))]
  have m36 : jD 204 [.ref 240, .ref 36] (J, K, s2) = some (some (.int 0), J, K, s2) := by
    rw [m_is hm (by decide) (htx 36 (by decide) (by decide)), if_neg (fun z => absurd (h15.symm.trans z.2) (tm_ne 40 36 (by decide) (by decide) (by decide)))]
  have m37 : jD 204 [.ref 240, .ref 37] (J, K, s2) = some (some (.int 0), J, K, s2) := by
    rw [m_is hm (by decide) (htx 37 (by decide) (by decide)), if_neg (fun z => absurd (h15.symm.trans z.2) (tm_ne 40 37 (by decide) (by decide) (by decide)))]
  have m38 : jD 204 [.ref 240, .ref 38] (J, K, s2) = some (some (.int 0), J, K, s2) := by
    rw [m_is hm (by decide) (htx 38 (by decide) (by decide)), if_neg (fun z => absurd (h15.symm.trans z.2) (tm_ne 40 38 (by decide) (by decide) (by decide)))]
  have m39 : jD 204 [.ref 240, .ref 39] (J, K, s2) = some (some (.int 0), J, K, s2) := by
    rw [m_is hm (by decide) (htx 39 (by decide) (by decide)), if_neg (fun z => absurd (h15.symm.trans z.2) (tm_ne 40 39 (by decide) (by decide) (by decide)))]
  have m40 : jD 204 [.ref 240, .ref 40] (J, K, s2) = some (some (.int 1), J, K, s2) := by
    rw [m_is hm (by decide) (htx 40 (by decide) (by decide)), if_pos ⟨h9, h15⟩]
  rw [D_219]
  rw [E_219_0]
  simp only [↓reduceIte, q_i, q_l, q_k, q_r, q_z, q_si, q_sl, jx_lt, jx_ri, jx_rl, jx_rv, if_true, if_false, Nat.reduceLeDiff, Nat.add_one_ne_zero, and_self, true_or, or_true, Nat.reduceEqDiff, or_self, or_false, false_or, mo_k hm, m31]
  rw [E_219_1]
  simp only [↓reduceIte, q_i, q_l, q_k, q_r, q_z, q_si, q_sl, jx_lt, jx_ri, jx_rl, jx_rv, if_true, if_false, Nat.reduceLeDiff, Nat.add_one_ne_zero, and_self, true_or, or_true, Nat.reduceEqDiff, or_self, or_false, false_or, mo_k hm, m35]
  rw [E_219_2]
  simp only [↓reduceIte, q_i, q_l, q_k, q_r, q_z, q_si, q_sl, jx_lt, jx_ri, jx_rl, jx_rv, if_true, if_false, Nat.reduceLeDiff, Nat.add_one_ne_zero, and_self, true_or, or_true, Nat.reduceEqDiff, or_self, or_false, false_or, mo_k hm, m36]
  rw [E_219_3]
  simp only [↓reduceIte, q_i, q_l, q_k, q_r, q_z, q_si, q_sl, jx_lt, jx_ri, jx_rl, jx_rv, if_true, if_false, Nat.reduceLeDiff, Nat.add_one_ne_zero, and_self, true_or, or_true, Nat.reduceEqDiff, or_self, or_false, false_or, mo_k hm, m37]
  rw [E_219_4]
  simp only [↓reduceIte, q_i, q_l, q_k, q_r, q_z, q_si, q_sl, jx_lt, jx_ri, jx_rl, jx_rv, if_true, if_false, Nat.reduceLeDiff, Nat.add_one_ne_zero, and_self, true_or, or_true, Nat.reduceEqDiff, or_self, or_false, false_or, mo_k hm, m38]
  rw [E_219_5]
  simp only [↓reduceIte, q_i, q_l, q_k, q_r, q_z, q_si, q_sl, jx_lt, jx_ri, jx_rl, jx_rv, if_true, if_false, Nat.reduceLeDiff, Nat.add_one_ne_zero, and_self, true_or, or_true, Nat.reduceEqDiff, or_self, or_false, false_or, mo_k hm, m39]
  rw [E_219_6]
  simp only [↓reduceIte, q_i, q_l, q_k, q_r, q_z, q_si, q_sl, jx_lt, jx_ri, jx_rl, jx_rv, if_true, if_false, Nat.reduceLeDiff, Nat.add_one_ne_zero, and_self, true_or, or_true, Nat.reduceEqDiff, or_self, or_false, false_or, mo_k hm, m40, show ¬ (1 : Int32) = 0 by decide, E_219_12]
theorem m219_227 (hm : qMo s2 240) (htx : ∀ a, 2 ≤ a → a < 59 → qk s2 a = 40) (h9 : J 240 9 = 2) (h15 : K 240 15 = q_tm 41) : jD 219 [.ref 240] (J, K, s2) = jx_rv (jD 227 [.ref 240] (J, K, s2)) fun M => some (none, M) := by
  have m31 : jD 204 [.ref 240, .ref 31] (J, K, s2) = some (some (.int 0), J, K, s2) := by
    rw [m_is hm (by decide) (htx 31 (by decide) (by decide)), if_neg (fun z => absurd (h15.symm.trans z.2) (tm_ne 41 31 (by decide) (by decide) (by decide)))]
  have m35 : jD 204 [.ref 240, .ref 35] (J, K, s2) = some (some (.int 0), J, K, s2) := by
    rw [m_is hm (by decide) (htx 35 (by decide) (by decide)), if_neg (fun z => absurd (h15.symm.trans z.2) (tm_ne 41 35 (by decide) (by decide) (by decide)))]
  have m36 : jD 204 [.ref 240, .ref 36] (J, K, s2) = some (some (.int 0), J, K, s2) := by
    rw [m_is hm (by decide) (htx 36 (by decide) (by decide)), if_neg (fun z => absurd (h15.symm.trans z.2) (tm_ne 41 36 (by decide) (by decide) (by decide)))]
  have m37 : jD 204 [.ref 240, .ref 37] (J, K, s2) = some (some (.int 0), J, K, s2) := by
    rw [m_is hm (by decide) (htx 37 (by decide) (by decide)), if_neg (fun z => absurd (h15.symm.trans z.2) (tm_ne 41 37 (by decide) (by decide) (by decide)))]
  have m38 : jD 204 [.ref 240, .ref 38] (J, K, s2) = some (some (.int 0), J, K, s2) := by
    rw [m_is hm (by decide) (htx 38 (by decide) (by decide)), if_neg (fun z => absurd (h15.symm.trans z.2) (tm_ne 41 38 (by decide) (by decide) (by decide)))]
  have m39 : jD 204 [.ref 240, .ref 39] (J, K, s2) = some (some (.int 0), J, K, s2) := by
    rw [m_is hm (by decide) (htx 39 (by decide) (by decide)), if_neg (fun z => absurd (h15.symm.trans z.2) (tm_ne 41 39 (by decide) (by decide) (by decide)))]
  have m40 : jD 204 [.ref 240, .ref 40] (J, K, s2) = some (some (.int 0), J, K, s2) := by
    rw [m_is hm (by decide) (htx 40 (by decide) (by decide)), if_neg (fun z => absurd (h15.symm.trans z.2) (tm_ne 41 40 (by decide) (by decide) (by decide)))]
  have m41 : jD 204 [.ref 240, .ref 41] (J, K, s2) = some (some (.int 1), J, K, s2) := by
    rw [m_is hm (by decide) (htx 41 (by decide) (by decide)), if_pos ⟨h9, h15⟩]
  rw [D_219]
  rw [E_219_0]
  simp only [↓reduceIte, q_i, q_l, q_k, q_r, q_z, q_si, q_sl, jx_lt, jx_ri, jx_rl, jx_rv, if_true, if_false, Nat.reduceLeDiff, Nat.add_one_ne_zero, and_self, true_or, or_true, Nat.reduceEqDiff, or_self, or_false, false_or, mo_k hm, m31]
  rw [E_219_1]
  simp only [↓reduceIte, q_i, q_l, q_k, q_r, q_z, q_si, q_sl, jx_lt, jx_ri, jx_rl, jx_rv, if_true, if_false, Nat.reduceLeDiff, Nat.add_one_ne_zero, and_self, true_or, or_true, Nat.reduceEqDiff, or_self, or_false, false_or, mo_k hm, m35]
  rw [E_219_2]
  simp only [↓reduceIte, q_i, q_l, q_k, q_r, q_z, q_si, q_sl, jx_lt, jx_ri, jx_rl, jx_rv, if_true, if_false, Nat.reduceLeDiff, Nat.add_one_ne_zero, and_self, true_or, or_true, Nat.reduceEqDiff, or_self, or_false, false_or, mo_k hm, m36]
  rw [E_219_3]
  simp only [↓reduceIte, q_i, q_l, q_k, q_r, q_z, q_si, q_sl, jx_lt, jx_ri, jx_rl, jx_rv, if_true, if_false, Nat.reduceLeDiff, Nat.add_one_ne_zero, and_self, true_or, or_true, Nat.reduceEqDiff, or_self, or_false, false_or, mo_k hm, m37]
  rw [E_219_4]
  simp only [↓reduceIte, q_i, q_l, q_k, q_r, q_z, q_si, q_sl, jx_lt, jx_ri, jx_rl, jx_rv, if_true, if_false, Nat.reduceLeDiff, Nat.add_one_ne_zero, and_self, true_or, or_true, Nat.reduceEqDiff, or_self, or_false, false_or, mo_k hm, m38]
  rw [E_219_5]
  simp only [↓reduceIte, q_i, q_l, q_k, q_r, q_z, q_si, q_sl, jx_lt, jx_ri, jx_rl, jx_rv, if_true, if_false, Nat.reduceLeDiff, Nat.add_one_ne_zero, and_self, true_or, or_true, Nat.reduceEqDiff, or_self, or_false, false_or, mo_k hm, m39]
  rw [E_219_6]
  simp only [↓reduceIte, q_i, q_l, q_k, q_r, q_z, q_si, q_sl, jx_lt, jx_ri, jx_rl, jx_rv, if_true, if_false, Nat.reduceLeDiff, Nat.add_one_ne_zero, and_self, true_or, or_true, Nat.reduceEqDiff, or_self, or_false, false_or, mo_k hm, m40]
  rw [E_219_7]
  simp only [↓reduceIte, q_i, q_l, q_k, q_r, q_z, q_si, q_sl, jx_lt, jx_ri, jx_rl, jx_rv, if_true, if_false, Nat.reduceLeDiff, Nat.add_one_ne_zero, and_self, true_or, or_true, Nat.reduceEqDiff, or_self, or_false, false_or, mo_k hm, m41, show ¬ (1 : Int32) = 0 by decide, E_219_12]
theorem m219_228 (hm : qMo s2 240) (htx : ∀ a, 2 ≤ a → a < 59 → qk s2 a = 40) (h9 : J 240 9 = 2) (h15 : K 240 15 = q_tm 42) : jD 219 [.ref 240] (J, K, s2) = jx_rv (jD 228 [.ref 240] (J, K, s2)) fun M => some (none, M) := by
  have m31 : jD 204 [.ref 240, .ref 31] (J, K, s2) = some (some (.int 0), J, K, s2) := by
    rw [m_is hm (by decide) (htx 31 (by decide) (by decide)), if_neg (fun z => absurd (h15.symm.trans z.2) (tm_ne 42 31 (by decide) (by decide) (by decide)))]
  have m35 : jD 204 [.ref 240, .ref 35] (J, K, s2) = some (some (.int 0), J, K, s2) := by
    rw [m_is hm (by decide) (htx 35 (by decide) (by decide)), if_neg (fun z => absurd (h15.symm.trans z.2) (tm_ne 42 35 (by decide) (by decide) (by decide)))]
  have m36 : jD 204 [.ref 240, .ref 36] (J, K, s2) = some (some (.int 0), J, K, s2) := by
    rw [m_is hm (by decide) (htx 36 (by decide) (by decide)), if_neg (fun z => absurd (h15.symm.trans z.2) (tm_ne 42 36 (by decide) (by decide) (by decide)))]
  have m37 : jD 204 [.ref 240, .ref 37] (J, K, s2) = some (some (.int 0), J, K, s2) := by
    rw [m_is hm (by decide) (htx 37 (by decide) (by decide)), if_neg (fun z => absurd (h15.symm.trans z.2) (tm_ne 42 37 (by decide) (by decide) (by decide)))]
  have m38 : jD 204 [.ref 240, .ref 38] (J, K, s2) = some (some (.int 0), J, K, s2) := by
    rw [m_is hm (by decide) (htx 38 (by decide) (by decide)), if_neg (fun z => absurd (h15.symm.trans z.2) (tm_ne 42 38 (by decide) (by decide) (by decide)))]
  have m39 : jD 204 [.ref 240, .ref 39] (J, K, s2) = some (some (.int 0), J, K, s2) := by
    rw [m_is hm (by decide) (htx 39 (by decide) (by decide)), if_neg (fun z => absurd (h15.symm.trans z.2) (tm_ne 42 39 (by decide) (by decide) (by decide)))]
  have m40 : jD 204 [.ref 240, .ref 40] (J, K, s2) = some (some (.int 0), J, K, s2) := by
    rw [m_is hm (by decide) (htx 40 (by decide) (by decide)), if_neg (fun z => absurd (h15.symm.trans z.2) (tm_ne 42 40 (by decide) (by decide) (by decide)))]
  have m41 : jD 204 [.ref 240, .ref 41] (J, K, s2) = some (some (.int 0), J, K, s2) := by
    rw [m_is hm (by decide) (htx 41 (by decide) (by decide)), if_neg (fun z => absurd (h15.symm.trans z.2) (tm_ne 42 41 (by decide) (by decide) (by decide)))]
  have m42 : jD 204 [.ref 240, .ref 42] (J, K, s2) = some (some (.int 1), J, K, s2) := by
    rw [m_is hm (by decide) (htx 42 (by decide) (by decide)), if_pos ⟨h9, h15⟩]
  rw [D_219]
  rw [E_219_0]
  simp only [↓reduceIte, q_i, q_l, q_k, q_r, q_z, q_si, q_sl, jx_lt, jx_ri, jx_rl, jx_rv, if_true, if_false, Nat.reduceLeDiff, Nat.add_one_ne_zero, and_self, true_or, or_true, Nat.reduceEqDiff, or_self, or_false, false_or, mo_k hm, m31]
  rw [E_219_1]
  simp only [↓reduceIte, q_i, q_l, q_k, q_r, q_z, q_si, q_sl, jx_lt, jx_ri, jx_rl, jx_rv, if_true, if_false, Nat.reduceLeDiff, Nat.add_one_ne_zero, and_self, true_or, or_true, Nat.reduceEqDiff, or_self, or_false, false_or, mo_k hm, m35]
  rw [E_219_2]
  simp only [↓reduceIte, q_i, q_l, q_k, q_r, q_z, q_si, q_sl, jx_lt, jx_ri, jx_rl, jx_rv, if_true, if_false, Nat.reduceLeDiff, Nat.add_one_ne_zero, and_self, true_or, or_true, Nat.reduceEqDiff, or_self, or_false, false_or, mo_k hm, m36]
  rw [E_219_3]
  simp only [↓reduceIte, q_i, q_l, q_k, q_r, q_z, q_si, q_sl, jx_lt, jx_ri, jx_rl, jx_rv, if_true, if_false, Nat.reduceLeDiff, Nat.add_one_ne_zero, and_self, true_or, or_true, Nat.reduceEqDiff, or_self, or_false, false_or, mo_k hm, m37]
  rw [E_219_4]
  simp only [↓reduceIte, q_i, q_l, q_k, q_r, q_z, q_si, q_sl, jx_lt, jx_ri, jx_rl, jx_rv, if_true, if_false, Nat.reduceLeDiff, Nat.add_one_ne_zero, and_self, true_or, or_true, Nat.reduceEqDiff, or_self, or_false, false_or, mo_k hm, m38]
  rw [E_219_5]
  simp only [↓reduceIte, q_i, q_l, q_k, q_r, q_z, q_si, q_sl, jx_lt, jx_ri, jx_rl, jx_rv, if_true, if_false, Nat.reduceLeDiff, Nat.add_one_ne_zero, and_self, true_or, or_true, Nat.reduceEqDiff, or_self, or_false, false_or, mo_k hm, m39]
  rw [E_219_6]
  simp only [↓reduceIte, q_i, q_l, q_k, q_r, q_z, q_si, q_sl, jx_lt, jx_ri, jx_rl, jx_rv, if_true, if_false, Nat.reduceLeDiff, Nat.add_one_ne_zero, and_self, true_or, or_true, Nat.reduceEqDiff, or_self, or_false, false_or, mo_k hm, m40]
  rw [E_219_7]
  simp only [↓reduceIte, q_i, q_l, q_k, q_r, q_z, q_si, q_sl, jx_lt, jx_ri, jx_rl, jx_rv, if_true, if_false, Nat.reduceLeDiff, Nat.add_one_ne_zero, and_self, true_or, or_true, Nat.reduceEqDiff, or_self, or_false, false_or, mo_k hm, m41]
  rw [E_219_8]
  simp only [↓reduceIte, q_i, q_l, q_k, q_r, q_z, q_si, q_sl, jx_lt, jx_ri, jx_rl, jx_rv, if_true, if_false, Nat.reduceLeDiff, Nat.add_one_ne_zero, and_self, true_or, or_true, Nat.reduceEqDiff, or_self, or_false, false_or, mo_k hm, m42, show ¬ (1 : Int32) = 0 by decide, E_219_12]
theorem m219_229 (hm : qMo s2 240) (htx : ∀ a, 2 ≤ a → a < 59 → qk s2 a = 40) (h9 : J 240 9 = 2) (h15 : K 240 15 = q_tm 43) : jD 219 [.ref 240] (J, K, s2) = jx_rv (jD 229 [.ref 240] (J, K, s2)) fun M => some (none, M) := by
  have m31 : jD 204 [.ref 240, .ref 31] (J, K, s2) = some (some (.int 0), J, K, s2) := by
    rw [m_is hm (by decide) (htx 31 (by decide) (by decide)), if_neg (fun z => absurd (h15.symm.trans z.2) (tm_ne 43 31 (by decide) (by decide) (by decide)))]
  have m35 : jD 204 [.ref 240, .ref 35] (J, K, s2) = some (some (.int 0), J, K, s2) := by
    rw [m_is hm (by decide) (htx 35 (by decide) (by decide)), if_neg (fun z => absurd (h15.symm.trans z.2) (tm_ne 43 35 (by decide) (by decide) (by decide)))]
  have m36 : jD 204 [.ref 240, .ref 36] (J, K, s2) = some (some (.int 0), J, K, s2) := by
    rw [m_is hm (by decide) (htx 36 (by decide) (by decide)), if_neg (fun z => absurd (h15.symm.trans z.2) (tm_ne 43 36 (by decide) (by decide) (by decide)))]
  have m37 : jD 204 [.ref 240, .ref 37] (J, K, s2) = some (some (.int 0), J, K, s2) := by
    rw [m_is hm (by decide) (htx 37 (by decide) (by decide)), if_neg (fun z => absurd (h15.symm.trans z.2) (tm_ne 43 37 (by decide) (by decide) (by decide)))]
  have m38 : jD 204 [.ref 240, .ref 38] (J, K, s2) = some (some (.int 0), J, K, s2) := by
    rw [m_is hm (by decide) (htx 38 (by decide) (by decide)), if_neg (fun z => absurd (h15.symm.trans z.2) (tm_ne 43 38 (by decide) (by decide) (by decide)))]
  have m39 : jD 204 [.ref 240, .ref 39] (J, K, s2) = some (some (.int 0), J, K, s2) := by
    rw [m_is hm (by decide) (htx 39 (by decide) (by decide)), if_neg (fun z => absurd (h15.symm.trans z.2) (tm_ne 43 39 (by decide) (by decide) (by decide)))]
  have m40 : jD 204 [.ref 240, .ref 40] (J, K, s2) = some (some (.int 0), J, K, s2) := by
    rw [m_is hm (by decide) (htx 40 (by decide) (by decide)), if_neg (fun z => absurd (h15.symm.trans z.2) (tm_ne 43 40 (by decide) (by decide) (by decide)))]
  have m41 : jD 204 [.ref 240, .ref 41] (J, K, s2) = some (some (.int 0), J, K, s2) := by
    rw [m_is hm (by decide) (htx 41 (by decide) (by decide)), if_neg (fun z => absurd (h15.symm.trans z.2) (tm_ne 43 41 (by decide) (by decide) (by decide)))]
  have m42 : jD 204 [.ref 240, .ref 42] (J, K, s2) = some (some (.int 0), J, K, s2) := by
    rw [m_is hm (by decide) (htx 42 (by decide) (by decide)), if_neg (fun z => absurd (h15.symm.trans z.2) (tm_ne 43 42 (by decide) (by decide) (by decide)))]
  have m43 : jD 204 [.ref 240, .ref 43] (J, K, s2) = some (some (.int 1), J, K, s2) := by
    rw [m_is hm (by decide) (htx 43 (by decide) (by decide)), if_pos ⟨h9, h15⟩]
  rw [D_219]
  rw [E_219_0]
  simp only [↓reduceIte, q_i, q_l, q_k, q_r, q_z, q_si, q_sl, jx_lt, jx_ri, jx_rl, jx_rv, if_true, if_false, Nat.reduceLeDiff, Nat.add_one_ne_zero, and_self, true_or, or_true, Nat.reduceEqDiff, or_self, or_false, false_or, mo_k hm, m31]
  rw [E_219_1]
  simp only [↓reduceIte, q_i, q_l, q_k, q_r, q_z, q_si, q_sl, jx_lt, jx_ri, jx_rl, jx_rv, if_true, if_false, Nat.reduceLeDiff, Nat.add_one_ne_zero, and_self, true_or, or_true, Nat.reduceEqDiff, or_self, or_false, false_or, mo_k hm, m35]
  rw [E_219_2]
  simp only [↓reduceIte, q_i, q_l, q_k, q_r, q_z, q_si, q_sl, jx_lt, jx_ri, jx_rl, jx_rv, if_true, if_false, Nat.reduceLeDiff, Nat.add_one_ne_zero, and_self, true_or, or_true, Nat.reduceEqDiff, or_self, or_false, false_or, mo_k hm, m36]
  rw [E_219_3]
  simp only [↓reduceIte, q_i, q_l, q_k, q_r, q_z, q_si, q_sl, jx_lt, jx_ri, jx_rl, jx_rv, if_true, if_false, Nat.reduceLeDiff, Nat.add_one_ne_zero, and_self, true_or, or_true, Nat.reduceEqDiff, or_self, or_false, false_or, mo_k hm, m37]
  rw [E_219_4]
  simp only [↓reduceIte, q_i, q_l, q_k, q_r, q_z, q_si, q_sl, jx_lt, jx_ri, jx_rl, jx_rv, if_true, if_false, Nat.reduceLeDiff, Nat.add_one_ne_zero, and_self, true_or, or_true, Nat.reduceEqDiff, or_self, or_false, false_or, mo_k hm, m38]
  rw [E_219_5]
  simp only [↓reduceIte, q_i, q_l, q_k, q_r, q_z, q_si, q_sl, jx_lt, jx_ri, jx_rl, jx_rv, if_true, if_false, Nat.reduceLeDiff, Nat.add_one_ne_zero, and_self, true_or, or_true, Nat.reduceEqDiff, or_self, or_false, false_or, mo_k hm, m39]
  rw [E_219_6]
  simp only [↓reduceIte, q_i, q_l, q_k, q_r, q_z, q_si, q_sl, jx_lt, jx_ri, jx_rl, jx_rv, if_true, if_false, Nat.reduceLeDiff, Nat.add_one_ne_zero, and_self, true_or, or_true, Nat.reduceEqDiff, or_self, or_false, false_or, mo_k hm, m40]
  rw [E_219_7]
  simp only [↓reduceIte, q_i, q_l, q_k, q_r, q_z, q_si, q_sl, jx_lt, jx_ri, jx_rl, jx_rv, if_true, if_false, Nat.reduceLeDiff, Nat.add_one_ne_zero, and_self, true_or, or_true, Nat.reduceEqDiff, or_self, or_false, false_or, mo_k hm, m41]
  rw [E_219_8]
  simp only [↓reduceIte, q_i, q_l, q_k, q_r, q_z, q_si, q_sl, jx_lt, jx_ri, jx_rl, jx_rv, if_true, if_false, Nat.reduceLeDiff, Nat.add_one_ne_zero, and_self, true_or, or_true, Nat.reduceEqDiff, or_self, or_false, false_or, mo_k hm, m42]
  rw [E_219_9]
  simp only [↓reduceIte, q_i, q_l, q_k, q_r, q_z, q_si, q_sl, jx_lt, jx_ri, jx_rl, jx_rv, if_true, if_false, Nat.reduceLeDiff, Nat.add_one_ne_zero, and_self, true_or, or_true, Nat.reduceEqDiff, or_self, or_false, false_or, mo_k hm, m43, show ¬ (1 : Int32) = 0 by decide, E_219_12]
theorem m219_230 (hm : qMo s2 240) (htx : ∀ a, 2 ≤ a → a < 59 → qk s2 a = 40) (h9 : J 240 9 = 2) (h15 : K 240 15 = q_tm 44) : jD 219 [.ref 240] (J, K, s2) = jx_rv (jD 230 [.ref 240] (J, K, s2)) fun M => some (none, M) := by
  have m31 : jD 204 [.ref 240, .ref 31] (J, K, s2) = some (some (.int 0), J, K, s2) := by
    rw [m_is hm (by decide) (htx 31 (by decide) (by decide)), if_neg (fun z => absurd (h15.symm.trans z.2) (tm_ne 44 31 (by decide) (by decide) (by decide)))]
  have m35 : jD 204 [.ref 240, .ref 35] (J, K, s2) = some (some (.int 0), J, K, s2) := by
    rw [m_is hm (by decide) (htx 35 (by decide) (by decide)), if_neg (fun z => absurd (h15.symm.trans z.2) (tm_ne 44 35 (by decide) (by decide) (by decide)))]
  have m36 : jD 204 [.ref 240, .ref 36] (J, K, s2) = some (some (.int 0), J, K, s2) := by
    rw [m_is hm (by decide) (htx 36 (by decide) (by decide)), if_neg (fun z => absurd (h15.symm.trans z.2) (tm_ne 44 36 (by decide) (by decide) (by decide)))]
  have m37 : jD 204 [.ref 240, .ref 37] (J, K, s2) = some (some (.int 0), J, K, s2) := by
    rw [m_is hm (by decide) (htx 37 (by decide) (by decide)), if_neg (fun z => absurd (h15.symm.trans z.2) (tm_ne 44 37 (by decide) (by decide) (by decide)))]
  have m38 : jD 204 [.ref 240, .ref 38] (J, K, s2) = some (some (.int 0), J, K, s2) := by
    rw [m_is hm (by decide) (htx 38 (by decide) (by decide)), if_neg (fun z => absurd (h15.symm.trans z.2) (tm_ne 44 38 (by decide) (by decide) (by decide)))]
  have m39 : jD 204 [.ref 240, .ref 39] (J, K, s2) = some (some (.int 0), J, K, s2) := by
    rw [m_is hm (by decide) (htx 39 (by decide) (by decide)), if_neg (fun z => absurd (h15.symm.trans z.2) (tm_ne 44 39 (by decide) (by decide) (by decide)))]
  have m40 : jD 204 [.ref 240, .ref 40] (J, K, s2) = some (some (.int 0), J, K, s2) := by
    rw [m_is hm (by decide) (htx 40 (by decide) (by decide)), if_neg (fun z => absurd (h15.symm.trans z.2) (tm_ne 44 40 (by decide) (by decide) (by decide)))]
  have m41 : jD 204 [.ref 240, .ref 41] (J, K, s2) = some (some (.int 0), J, K, s2) := by
    rw [m_is hm (by decide) (htx 41 (by decide) (by decide)), if_neg (fun z => absurd (h15.symm.trans z.2) (tm_ne 44 41 (by decide) (by decide) (by decide)))]
  have m42 : jD 204 [.ref 240, .ref 42] (J, K, s2) = some (some (.int 0), J, K, s2) := by
    rw [m_is hm (by decide) (htx 42 (by decide) (by decide)), if_neg (fun z => absurd (h15.symm.trans z.2) (tm_ne 44 42 (by decide) (by decide) (by decide)))]
  have m43 : jD 204 [.ref 240, .ref 43] (J, K, s2) = some (some (.int 0), J, K, s2) := by
    rw [m_is hm (by decide) (htx 43 (by decide) (by decide)), if_neg (fun z => absurd (h15.symm.trans z.2) (tm_ne 44 43 (by decide) (by decide) (by decide)))]
  have m44 : jD 204 [.ref 240, .ref 44] (J, K, s2) = some (some (.int 1), J, K, s2) := by
    rw [m_is hm (by decide) (htx 44 (by decide) (by decide)), if_pos ⟨h9, h15⟩]
  rw [D_219]
  rw [E_219_0]
  simp only [↓reduceIte, q_i, q_l, q_k, q_r, q_z, q_si, q_sl, jx_lt, jx_ri, jx_rl, jx_rv, if_true, if_false, Nat.reduceLeDiff, Nat.add_one_ne_zero, and_self, true_or, or_true, Nat.reduceEqDiff, or_self, or_false, false_or, mo_k hm, m31]
  rw [E_219_1]
  simp only [↓reduceIte, q_i, q_l, q_k, q_r, q_z, q_si, q_sl, jx_lt, jx_ri, jx_rl, jx_rv, if_true, if_false, Nat.reduceLeDiff, Nat.add_one_ne_zero, and_self, true_or, or_true, Nat.reduceEqDiff, or_self, or_false, false_or, mo_k hm, m35]
  rw [E_219_2]
  simp only [↓reduceIte, q_i, q_l, q_k, q_r, q_z, q_si, q_sl, jx_lt, jx_ri, jx_rl, jx_rv, if_true, if_false, Nat.reduceLeDiff, Nat.add_one_ne_zero, and_self, true_or, or_true, Nat.reduceEqDiff, or_self, or_false, false_or, mo_k hm, m36]
  rw [E_219_3]
  simp only [↓reduceIte, q_i, q_l, q_k, q_r, q_z, q_si, q_sl, jx_lt, jx_ri, jx_rl, jx_rv, if_true, if_false, Nat.reduceLeDiff, Nat.add_one_ne_zero, and_self, true_or, or_true, Nat.reduceEqDiff, or_self, or_false, false_or, mo_k hm, m37]
  rw [E_219_4]
  simp only [↓reduceIte, q_i, q_l, q_k, q_r, q_z, q_si, q_sl, jx_lt, jx_ri, jx_rl, jx_rv, if_true, if_false, Nat.reduceLeDiff, Nat.add_one_ne_zero, and_self, true_or, or_true, Nat.reduceEqDiff, or_self, or_false, false_or, mo_k hm, m38]
  rw [E_219_5]
  simp only [↓reduceIte, q_i, q_l, q_k, q_r, q_z, q_si, q_sl, jx_lt, jx_ri, jx_rl, jx_rv, if_true, if_false, Nat.reduceLeDiff, Nat.add_one_ne_zero, and_self, true_or, or_true, Nat.reduceEqDiff, or_self, or_false, false_or, mo_k hm, m39]
  rw [E_219_6]
  simp only [↓reduceIte, q_i, q_l, q_k, q_r, q_z, q_si, q_sl, jx_lt, jx_ri, jx_rl, jx_rv, if_true, if_false, Nat.reduceLeDiff, Nat.add_one_ne_zero, and_self, true_or, or_true, Nat.reduceEqDiff, or_self, or_false, false_or, mo_k hm, m40]
  rw [E_219_7]
  simp only [↓reduceIte, q_i, q_l, q_k, q_r, q_z, q_si, q_sl, jx_lt, jx_ri, jx_rl, jx_rv, if_true, if_false, Nat.reduceLeDiff, Nat.add_one_ne_zero, and_self, true_or, or_true, Nat.reduceEqDiff, or_self, or_false, false_or, mo_k hm, m41]
  rw [E_219_8]
  simp only [↓reduceIte, q_i, q_l, q_k, q_r, q_z, q_si, q_sl, jx_lt, jx_ri, jx_rl, jx_rv, if_true, if_false, Nat.reduceLeDiff, Nat.add_one_ne_zero, and_self, true_or, or_true, Nat.reduceEqDiff, or_self, or_false, false_or, mo_k hm, m42]
  rw [E_219_9]
  simp only [↓reduceIte, q_i, q_l, q_k, q_r, q_z, q_si, q_sl, jx_lt, jx_ri, jx_rl, jx_rv, if_true, if_false, Nat.reduceLeDiff, Nat.add_one_ne_zero, and_self, true_or, or_true, Nat.reduceEqDiff, or_self, or_false, false_or, mo_k hm, m43]
  rw [E_219_10]
  simp only [↓reduceIte, q_i, q_l, q_k, q_r, q_z, q_si, q_sl, jx_lt, jx_ri, jx_rl, jx_rv, if_true, if_false, Nat.reduceLeDiff, Nat.add_one_ne_zero, and_self, true_or, or_true, Nat.reduceEqDiff, or_self, or_false, false_or, mo_k hm, m44, show ¬ (1 : Int32) = 0 by decide, E_219_12]
theorem m219_n (hm : qMo s2 240) (htx : ∀ a, 2 ≤ a → a < 59 → qk s2 a = 40) (h9 : J 240 9 ≠ 5) (hno : ¬ (J 240 9 = 2 ∧ q_isk (K 240 15))) : jD 219 [.ref 240] (J, K, s2) = some (none, q_up J 240 (q_set (q_set (q_set (J 240) 13 (w 1)) 14 (J 240 10)) 9 5), K, s2) := by
  have m31 : jD 204 [.ref 240, .ref 31] (J, K, s2) = some (some (.int 0), J, K, s2) := by
    rw [m_is hm (by decide) (htx 31 (by decide) (by decide)), if_neg (fun z => hno ⟨z.1, Or.inl z.2⟩)]
  have m35 : jD 204 [.ref 240, .ref 35] (J, K, s2) = some (some (.int 0), J, K, s2) := by
    rw [m_is hm (by decide) (htx 35 (by decide) (by decide)), if_neg (fun z => hno ⟨z.1, Or.inr (Or.inl z.2)⟩)]
  have m36 : jD 204 [.ref 240, .ref 36] (J, K, s2) = some (some (.int 0), J, K, s2) := by
    rw [m_is hm (by decide) (htx 36 (by decide) (by decide)), if_neg (fun z => hno ⟨z.1, Or.inr (Or.inr (Or.inl z.2))⟩)]
  have m37 : jD 204 [.ref 240, .ref 37] (J, K, s2) = some (some (.int 0), J, K, s2) := by
    rw [m_is hm (by decide) (htx 37 (by decide) (by decide)), if_neg (fun z => hno ⟨z.1, Or.inr (Or.inr (Or.inr (Or.inl z.2)))⟩)]
  have m38 : jD 204 [.ref 240, .ref 38] (J, K, s2) = some (some (.int 0), J, K, s2) := by
    rw [m_is hm (by decide) (htx 38 (by decide) (by decide)), if_neg (fun z => hno ⟨z.1, Or.inr (Or.inr (Or.inr (Or.inr (Or.inl z.2))))⟩)]
  have m39 : jD 204 [.ref 240, .ref 39] (J, K, s2) = some (some (.int 0), J, K, s2) := by
    rw [m_is hm (by decide) (htx 39 (by decide) (by decide)), if_neg (fun z => hno ⟨z.1, Or.inr (Or.inr (Or.inr (Or.inr (Or.inr (Or.inl z.2)))))⟩)]
  have m40 : jD 204 [.ref 240, .ref 40] (J, K, s2) = some (some (.int 0), J, K, s2) := by
    rw [m_is hm (by decide) (htx 40 (by decide) (by decide)), if_neg (fun z => hno ⟨z.1, Or.inr (Or.inr (Or.inr (Or.inr (Or.inr (Or.inr (Or.inl z.2))))))⟩)]
  have m41 : jD 204 [.ref 240, .ref 41] (J, K, s2) = some (some (.int 0), J, K, s2) := by
    rw [m_is hm (by decide) (htx 41 (by decide) (by decide)), if_neg (fun z => hno ⟨z.1, Or.inr (Or.inr (Or.inr (Or.inr (Or.inr (Or.inr (Or.inr (Or.inl z.2)))))))⟩)]
  have m42 : jD 204 [.ref 240, .ref 42] (J, K, s2) = some (some (.int 0), J, K, s2) := by
    rw [m_is hm (by decide) (htx 42 (by decide) (by decide)), if_neg (fun z => hno ⟨z.1, Or.inr (Or.inr (Or.inr (Or.inr (Or.inr (Or.inr (Or.inr (Or.inr (Or.inl z.2))))))))⟩)]
  have m43 : jD 204 [.ref 240, .ref 43] (J, K, s2) = some (some (.int 0), J, K, s2) := by
    rw [m_is hm (by decide) (htx 43 (by decide) (by decide)), if_neg (fun z => hno ⟨z.1, Or.inr (Or.inr (Or.inr (Or.inr (Or.inr (Or.inr (Or.inr (Or.inr (Or.inr (Or.inl z.2)))))))))⟩)]
  have m44 : jD 204 [.ref 240, .ref 44] (J, K, s2) = some (some (.int 0), J, K, s2) := by
    rw [m_is hm (by decide) (htx 44 (by decide) (by decide)), if_neg (fun z => hno ⟨z.1, Or.inr (Or.inr (Or.inr (Or.inr (Or.inr (Or.inr (Or.inr (Or.inr (Or.inr (Or.inr (z.2))))))))))⟩)]
  rw [D_219]
  rw [E_219_0]
  simp only [↓reduceIte, q_i, q_l, q_k, q_r, q_z, q_si, q_sl, jx_lt, jx_ri, jx_rl, jx_rv, if_true, if_false, Nat.reduceLeDiff, Nat.add_one_ne_zero, and_self, true_or, or_true, Nat.reduceEqDiff, or_self, or_false, false_or, mo_k hm, m31]
  rw [E_219_1]
  simp only [↓reduceIte, q_i, q_l, q_k, q_r, q_z, q_si, q_sl, jx_lt, jx_ri, jx_rl, jx_rv, if_true, if_false, Nat.reduceLeDiff, Nat.add_one_ne_zero, and_self, true_or, or_true, Nat.reduceEqDiff, or_self, or_false, false_or, mo_k hm, m35]
  rw [E_219_2]
  simp only [↓reduceIte, q_i, q_l, q_k, q_r, q_z, q_si, q_sl, jx_lt, jx_ri, jx_rl, jx_rv, if_true, if_false, Nat.reduceLeDiff, Nat.add_one_ne_zero, and_self, true_or, or_true, Nat.reduceEqDiff, or_self, or_false, false_or, mo_k hm, m36]
  rw [E_219_3]
  simp only [↓reduceIte, q_i, q_l, q_k, q_r, q_z, q_si, q_sl, jx_lt, jx_ri, jx_rl, jx_rv, if_true, if_false, Nat.reduceLeDiff, Nat.add_one_ne_zero, and_self, true_or, or_true, Nat.reduceEqDiff, or_self, or_false, false_or, mo_k hm, m37]
  rw [E_219_4]
  simp only [↓reduceIte, q_i, q_l, q_k, q_r, q_z, q_si, q_sl, jx_lt, jx_ri, jx_rl, jx_rv, if_true, if_false, Nat.reduceLeDiff, Nat.add_one_ne_zero, and_self, true_or, or_true, Nat.reduceEqDiff, or_self, or_false, false_or, mo_k hm, m38]
  rw [E_219_5]
  simp only [↓reduceIte, q_i, q_l, q_k, q_r, q_z, q_si, q_sl, jx_lt, jx_ri, jx_rl, jx_rv, if_true, if_false, Nat.reduceLeDiff, Nat.add_one_ne_zero, and_self, true_or, or_true, Nat.reduceEqDiff, or_self, or_false, false_or, mo_k hm, m39]
  rw [E_219_6]
  simp only [↓reduceIte, q_i, q_l, q_k, q_r, q_z, q_si, q_sl, jx_lt, jx_ri, jx_rl, jx_rv, if_true, if_false, Nat.reduceLeDiff, Nat.add_one_ne_zero, and_self, true_or, or_true, Nat.reduceEqDiff, or_self, or_false, false_or, mo_k hm, m40]
  rw [E_219_7]
  simp only [↓reduceIte, q_i, q_l, q_k, q_r, q_z, q_si, q_sl, jx_lt, jx_ri, jx_rl, jx_rv, if_true, if_false, Nat.reduceLeDiff, Nat.add_one_ne_zero, and_self, true_or, or_true, Nat.reduceEqDiff, or_self, or_false, false_or, mo_k hm, m41]
  rw [E_219_8]
  simp only [↓reduceIte, q_i, q_l, q_k, q_r, q_z, q_si, q_sl, jx_lt, jx_ri, jx_rl, jx_rv, if_true, if_false, Nat.reduceLeDiff, Nat.add_one_ne_zero, and_self, true_or, or_true, Nat.reduceEqDiff, or_self, or_false, false_or, mo_k hm, m42]
  rw [E_219_9]
  simp only [↓reduceIte, q_i, q_l, q_k, q_r, q_z, q_si, q_sl, jx_lt, jx_ri, jx_rl, jx_rv, if_true, if_false, Nat.reduceLeDiff, Nat.add_one_ne_zero, and_self, true_or, or_true, Nat.reduceEqDiff, or_self, or_false, false_or, mo_k hm, m43]
  rw [E_219_10]
  simp only [↓reduceIte, q_i, q_l, q_k, q_r, q_z, q_si, q_sl, jx_lt, jx_ri, jx_rl, jx_rv, if_true, if_false, Nat.reduceLeDiff, Nat.add_one_ne_zero, and_self, true_or, or_true, Nat.reduceEqDiff, or_self, or_false, false_or, mo_k hm, m44]
  rw [E_219_11]
  simp only [↓reduceIte, q_i, q_l, q_k, q_r, q_z, q_si, q_sl, jx_lt, jx_ri, jx_rl, jx_rv, if_true, if_false, Nat.reduceLeDiff, Nat.add_one_ne_zero, and_self, true_or, or_true, Nat.reduceEqDiff, or_self, or_false, false_or, mo_k hm, show (1 : Int32) = w 1 from rfl, m203 hm h9, E_219_12]
section PAny
variable {n : Nat} {b : Nat → Nat} {I0 J0 : qI} {L0 K0 : qL}
theorem line_any (cx : qCx s s2 t f n b I0 J0) (h : qGo (qZp t f 0 C) t f n I0 L0 J0 K0 I L J K) : qLine C (jD 53 [.ref 181] (I, L, s)) (jD 219 [.ref 240] (J, K, s2)) s s2 t f n I0 L0 J0 K0 := by
  obtain ⟨hr, hn, -, hm, h4, hf, hf0, hf9, -, -, htx⟩ := id cx
  obtain ⟨k6, r0, r1, r2, r3, r5, k182, z182, row2, row3, k7, r7, rt, hfl, ht⟩ := id hr
  have htm : ∀ a, 2 ≤ a → a < 59 → qk s2 a = 40 := fun a h1 h2 => (htx a h1 h2).2
  have hz := h.2.2.2.2
  have hd : qd I t 0 0 = w (C 0) := (hz.2.1.1 0 (by omega)).1
  have l0 : C 0 ≤ 20 := (hz.2.1.1 0 (by omega)).2
  have hall := hz.2.1.2.2.2.2.1
  have hNm := h.1.2.2.2.2.2.1
  obtain ⟨n1, n2, n3, n4, n5⟩ := hz.1
  have h9 := h.2.2.1
  obtain ⟨t1, -, -, tx, -⟩ := tk_sort h.2.2.2.1
  have hJ0 : J f 0 = w (C 0) := zp_m hz (by omega)
  have q0 : ∀ x, x < 12 → q_at 12 (I (t + 1 + 2 * 0 + 1)) (w x) = w (C x) := fun x hx => (q_at_w (n := 12) (k := x) (by omega) hx).trans (zp_f hz hx).1
  have lim : ∀ x, x < 12 → C x ≤ q_lim x := fun x hx => (hz.2.1.1 x hx).2
  have fc : ∀ {r : Nat}, 0 < r → r < 10 → ∃ c, c ≤ 20 ∧ (q_up J 240 (q_set (q_set (q_set (J 240) 13 (w r)) 14 (J 240 10)) 9 5)) f 13 = w c := fun hr0 hr9 => fa_c (go_fault cx h hr0 hr9)
  have f5 : ∀ {r : Nat}, 0 < r → r < 10 → (q_up J 240 (q_set (q_set (q_set (J 240) 13 (w r)) 14 (J 240 10)) 9 5)) 240 9 = 5 := fun hr0 hr9 => fa_5 (go_fault cx h hr0 hr9)
  have hnone : jD 74 [.ref 181] (I, L, s) = some (some (.int (-1)), I, L, s) ∨ (∃ i, 11 ≤ i ∧ i < 31 ∧ I (183 + 1) i ≠ 0 ∧ jD 74 [.ref 181] (I, L, s) = some (some (.int (w i)), I, L, s)) → ¬ (J 240 9 = 2 ∧ q_isk (K 240 15)) → qLine C (jD 53 [.ref 181] (I, L, s)) (jD 219 [.ref 240] (J, K, s2)) s s2 t f n I0 L0 J0 K0 := by
    intro hc hno
    refine Or.inr ⟨_, _, _, _, ?_, m219_n hm htm h9 hno, go_fault cx h (r := 1) (by decide) (by decide)⟩
    have f1 : jd 53 1 [some (.ref 181), none, none, none, none] [] (I, L, s) = some (some (.int 0), q_up I 181 (q_set (q_set (I 181) 6 (w 1)) 7 (I 187 3)), L, s) := by
      rw [E_53_1]
      simp only [↓reduceIte, q_i, q_l, q_k, q_r, q_z, q_si, q_sl, jx_lt, jx_ri, jx_rl, jx_rv, if_true, if_false, Nat.reduceLeDiff, Nat.add_one_ne_zero, and_self, true_or, or_true, Nat.reduceEqDiff, or_self, or_false, false_or, k6, show (1 : Int32) = w 1 from rfl, c51 hr]
    rw [D_53, E_53_0]
    rcases hc with e | ⟨i, i1, i2, i3, e⟩
    · simp only [↓reduceIte, q_i, q_l, q_k, q_r, q_z, q_si, q_sl, jx_lt, jx_ri, jx_rl, jx_rv, if_true, if_false, Nat.reduceLeDiff, Nat.add_one_ne_zero, and_self, true_or, or_true, Nat.reduceEqDiff, or_self, or_false, false_or, k6, e, f1]
    · simp only [↓reduceIte, q_i, q_l, q_k, q_r, q_z, q_si, q_sl, jx_lt, jx_ri, jx_rl, jx_rv, if_true, if_false, Nat.reduceLeDiff, Nat.add_one_ne_zero, and_self, true_or, or_true, Nat.reduceEqDiff, or_self, or_false, false_or, k6, e, show ¬ w i = (-1 : Int32) from w_m1 (by omega), r2, row2.1, look_eq row2, q_at_w (n := 31) (k := i) (by omega) i2, i3, f1]
  by_cases cs : I 187 4 = 1
  · have cs' := t1.mp cs
    have hx := tx cs
    rcases c_find (L := L) hr (show 11 + (C 3 + C 5 + C 8) + 0 ≤ 31 by omega) n3 cs with ⟨i, hi, e74, ei, eno⟩ | ⟨e74, eno⟩
    · by_cases hi11 : i < 11
      · have pre := c53_pre (L := L) hr e74 hi11 hNm hd l0
        have key : K 240 15 = wl (q_lw.getD i 0) := by rw [← hx, ← ei]; exact (hNm i hi11).1
        obtain ⟨a0, a1, a2, a3, a4, a5, a6, a7, a8, a9, a10⟩ := kw_eq
        have h11 : i = 0 ∨ i = 1 ∨ i = 2 ∨ i = 3 ∨ i = 4 ∨ i = 5 ∨ i = 6 ∨ i = 7 ∨ i = 8 ∨ i = 9 ∨ i = 10 := by omega
        rcases h11 with rfl | rfl | rfl | rfl | rfl | rfl | rfl | rfl | rfl | rfl | rfl
        · have m219 := m219_220 (J := J) hm htm cs' (key.trans a0)
          rw [m219]
          by_cases c0 : C 0 = 0
          · rw [if_pos c0] at pre
            exact line_end (pre.trans (c53_a (by decide))) (line_flight cx h cs c0)
          · rw [if_neg c0] at pre
            refine Or.inr ⟨_, _, _, _, pre.trans (c53_c hr), ?_, go_fault cx h (r := 3) (by decide) (by decide)⟩
            rw [m220_f hm h4 hf hf0 h9 (fun z => c0 (by rw [hJ0] at z; have := (w_le (a := C 0) (b := 0) (by omega) (by omega)).mp z; omega)) (f5 (r := 3) (by decide) (by decide))]
            rfl
        · have m219 := m219_224 (J := J) hm htm cs' (key.trans a1)
          rw [m219]
          by_cases c0 : C 0 = 0
          · rw [if_pos c0] at pre
            refine Or.inr ⟨_, _, _, _, pre.trans (c53_b hr (by decide) (by decide)), ?_, go_fault cx h (r := 6) (by decide) (by decide)⟩
            obtain ⟨c, hc, h13⟩ := fc (r := 6) (by decide) (by decide)
            rw [z224 hm h4 hf hf0 (m212_f6 hm h4 hf hf0 h9 (by decide) (by rw [hJ0, c0]; rfl)) (f5 (r := 6) (by decide) (by decide)) hc h13]
            rfl
          · rw [if_neg c0] at pre
            exact line_end (pre.trans c53_d) (line_flies cx h cs c0)
        · have m219 := m219_221 (J := J) hm htm cs' (key.trans a2)
          rw [m219]
          by_cases c0 : C 0 = 0
          · rw [if_pos c0] at pre
            refine Or.inr ⟨_, _, _, _, pre.trans (c53_b hr (by decide) (by decide)), ?_, go_fault cx h (r := 6) (by decide) (by decide)⟩
            obtain ⟨c, hc, h13⟩ := fc (r := 6) (by decide) (by decide)
            have hJc : J f 3 = w (C 3) := zp_m hz (by omega)
            rw [z221 hm h4 hf hf0 (m212_f6 hm h4 hf hf0 h9 (by rw [hJc, hall c0 3 (by omega)]; decide) (by rw [hJ0, c0]; rfl)) (f5 (r := 6) (by decide) (by decide)) hc h13]
            rfl
          · rw [if_neg c0] at pre
            have lx : C 3 ≤ 8 := lim 3 (by omega)
            by_cases cl : C 3 < 8
            · exact line_end (pre.trans (c53_e hr (x := 3) (by omega) (by omega) (q0 3 (by omega)) cl (by decide))) (line_stop cx h cs c0 cl)
            · refine Or.inr ⟨_, _, _, _, pre.trans (c53_f hr (x := 3) (by omega) (by omega) (q0 3 (by omega)) (show ¬ C 3 < q_lm 3 from cl) (by omega) (by decide)), ?_, go_fault cx h (r := 5) (by decide) (by decide)⟩
              obtain ⟨c, hc, h13⟩ := fc (r := 5) (by decide) (by decide)
              have hJc : J f 3 = w (C 3) := zp_m hz (by omega)
              rw [z221 hm h4 hf hf0 (m212_f5 hm h4 hf hf0 h9 (by rw [hJc, show C 3 = 8 by omega]; rfl)) (f5 (r := 5) (by decide) (by decide)) hc h13]
              rfl
        · have m219 := m219_222 (J := J) hm htm cs' (key.trans a3)
          rw [m219]
          by_cases c0 : C 0 = 0
          · rw [if_pos c0] at pre
            refine Or.inr ⟨_, _, _, _, pre.trans (c53_b hr (by decide) (by decide)), ?_, go_fault cx h (r := 6) (by decide) (by decide)⟩
            obtain ⟨c, hc, h13⟩ := fc (r := 6) (by decide) (by decide)
            have hJc : J f 4 = w (C 4) := zp_m hz (by omega)
            rw [z222 hm h4 hf hf0 (m212_f6 hm h4 hf hf0 h9 (by rw [hJc, hall c0 4 (by omega)]; decide) (by rw [hJ0, c0]; rfl)) (f5 (r := 6) (by decide) (by decide)) hc h13]
            rfl
          · rw [if_neg c0] at pre
            have lx : C 4 ≤ 14 := lim 4 (by omega)
            by_cases cl : C 4 < 14
            · exact line_end (pre.trans (c53_e hr (x := 4) (by omega) (by omega) (q0 4 (by omega)) cl (by decide))) (line_way cx h cs c0 cl)
            · refine Or.inr ⟨_, _, _, _, pre.trans (c53_f hr (x := 4) (by omega) (by omega) (q0 4 (by omega)) (show ¬ C 4 < q_lm 4 from cl) (by omega) (by decide)), ?_, go_fault cx h (r := 5) (by decide) (by decide)⟩
              obtain ⟨c, hc, h13⟩ := fc (r := 5) (by decide) (by decide)
              have hJc : J f 4 = w (C 4) := zp_m hz (by omega)
              rw [z222 hm h4 hf hf0 (m212_f5 hm h4 hf hf0 h9 (by rw [hJc, show C 4 = 14 by omega]; rfl)) (f5 (r := 5) (by decide) (by decide)) hc h13]
              rfl
        · have m219 := m219_223 (J := J) hm htm cs' (key.trans a4)
          rw [m219]
          by_cases c0 : C 0 = 0
          · rw [if_pos c0] at pre
            refine Or.inr ⟨_, _, _, _, pre.trans (c53_b hr (by decide) (by decide)), ?_, go_fault cx h (r := 6) (by decide) (by decide)⟩
            obtain ⟨c, hc, h13⟩ := fc (r := 6) (by decide) (by decide)
            have hJc : J f 5 = w (C 5) := zp_m hz (by omega)
            rw [z223c hm h4 hf hf0 (m212_f6 hm h4 hf hf0 h9 (by rw [hJc, hall c0 5 (by omega)]; decide) (by rw [hJ0, c0]; rfl)) (f5 (r := 6) (by decide) (by decide)) hc h13]
            rfl
          · rw [if_neg c0] at pre
            have lx : C 5 ≤ 6 := lim 5 (by omega)
            by_cases cl : C 5 < 6
            · exact line_end (pre.trans (c53_e hr (x := 5) (by omega) (by omega) (q0 5 (by omega)) cl (by decide))) (line_umb cx h cs c0 cl)
            · refine Or.inr ⟨_, _, _, _, pre.trans (c53_f hr (x := 5) (by omega) (by omega) (q0 5 (by omega)) (show ¬ C 5 < q_lm 5 from cl) (by omega) (by decide)), ?_, go_fault cx h (r := 5) (by decide) (by decide)⟩
              obtain ⟨c, hc, h13⟩ := fc (r := 5) (by decide) (by decide)
              have hJc : J f 5 = w (C 5) := zp_m hz (by omega)
              rw [z223c hm h4 hf hf0 (m212_f5 hm h4 hf hf0 h9 (by rw [hJc, show C 5 = 6 by omega]; rfl)) (f5 (r := 5) (by decide) (by decide)) hc h13]
              rfl
        · have m219 := m219_225 (J := J) hm htm cs' (key.trans a5)
          rw [m219]
          by_cases c0 : C 0 = 0
          · rw [if_pos c0] at pre
            refine Or.inr ⟨_, _, _, _, pre.trans (c53_b hr (by decide) (by decide)), ?_, go_fault cx h (r := 6) (by decide) (by decide)⟩
            obtain ⟨c, hc, h13⟩ := fc (r := 6) (by decide) (by decide)
            have hJc : J f 6 = w (C 6) := zp_m hz (by omega)
            rw [z225 hm h4 hf hf0 (m212_f6 hm h4 hf hf0 h9 (by rw [hJc, hall c0 6 (by omega)]; decide) (by rw [hJ0, c0]; rfl)) (f5 (r := 6) (by decide) (by decide)) hc h13]
            rfl
          · rw [if_neg c0] at pre
            have lx : C 6 ≤ 8 := lim 6 (by omega)
            by_cases cl : C 6 < 8
            · exact line_end (pre.trans (c53_e hr (x := 6) (by omega) (by omega) (q0 6 (by omega)) cl (by decide))) (line_ring cx h cs c0 cl)
            · refine Or.inr ⟨_, _, _, _, pre.trans (c53_f hr (x := 6) (by omega) (by omega) (q0 6 (by omega)) (show ¬ C 6 < q_lm 6 from cl) (by omega) (by decide)), ?_, go_fault cx h (r := 5) (by decide) (by decide)⟩
              obtain ⟨c, hc, h13⟩ := fc (r := 5) (by decide) (by decide)
              have hJc : J f 6 = w (C 6) := zp_m hz (by omega)
              rw [z225 hm h4 hf hf0 (m212_f5 hm h4 hf hf0 h9 (by rw [hJc, show C 6 = 8 by omega]; rfl)) (f5 (r := 5) (by decide) (by decide)) hc h13]
              rfl
        · have m219 := m219_226 (J := J) hm htm cs' (key.trans a6)
          rw [m219]
          by_cases c0 : C 0 = 0
          · rw [if_pos c0] at pre
            refine Or.inr ⟨_, _, _, _, pre.trans (c53_b hr (by decide) (by decide)), ?_, go_fault cx h (r := 6) (by decide) (by decide)⟩
            obtain ⟨c, hc, h13⟩ := fc (r := 6) (by decide) (by decide)
            rw [z226 hm h4 hf hf0 (m212_f6 hm h4 hf hf0 h9 (by decide) (by rw [hJ0, c0]; rfl)) (f5 (r := 6) (by decide) (by decide)) hc h13]
            rfl
          · rw [if_neg c0] at pre
            have l7 : C 7 ≤ 6 := lim 7 (by omega)
            exact line_end (pre.trans (c53_e hr (x := 7) (by omega) (by omega) (q0 7 (by omega)) (show C 7 < 1100 by omega) (by decide))) (line_back cx h cs c0)
        · have m219 := m219_227 (J := J) hm htm cs' (key.trans a7)
          rw [m219]
          by_cases c0 : C 0 = 0
          · rw [if_pos c0] at pre
            refine Or.inr ⟨_, _, _, _, pre.trans (c53_b hr (by decide) (by decide)), ?_, go_fault cx h (r := 6) (by decide) (by decide)⟩
            obtain ⟨c, hc, h13⟩ := fc (r := 6) (by decide) (by decide)
            have hJc : J f 8 = w (C 8) := zp_m hz (by omega)
            rw [z227 hm h4 hf hf0 (m212_f6 hm h4 hf hf0 h9 (by rw [hJc, hall c0 8 (by omega)]; decide) (by rw [hJ0, c0]; rfl)) (f5 (r := 6) (by decide) (by decide)) hc h13]
            rfl
          · rw [if_neg c0] at pre
            have lx : C 8 ≤ 6 := lim 8 (by omega)
            by_cases cl : C 8 < 6
            · exact line_end (pre.trans (c53_e hr (x := 8) (by omega) (by omega) (q0 8 (by omega)) cl (by decide))) (line_own cx h cs c0 cl)
            · refine Or.inr ⟨_, _, _, _, pre.trans (c53_f hr (x := 8) (by omega) (by omega) (q0 8 (by omega)) (show ¬ C 8 < q_lm 8 from cl) (by omega) (by decide)), ?_, go_fault cx h (r := 5) (by decide) (by decide)⟩
              obtain ⟨c, hc, h13⟩ := fc (r := 5) (by decide) (by decide)
              have hJc : J f 8 = w (C 8) := zp_m hz (by omega)
              rw [z227 hm h4 hf hf0 (m212_f5 hm h4 hf hf0 h9 (by rw [hJc, show C 8 = 6 by omega]; rfl)) (f5 (r := 5) (by decide) (by decide)) hc h13]
              rfl
        · have m219 := m219_228 (J := J) hm htm cs' (key.trans a8)
          rw [m219]
          by_cases c0 : C 0 = 0
          · rw [if_pos c0] at pre
            refine Or.inr ⟨_, _, _, _, pre.trans (c53_b hr (by decide) (by decide)), ?_, go_fault cx h (r := 6) (by decide) (by decide)⟩
            obtain ⟨c, hc, h13⟩ := fc (r := 6) (by decide) (by decide)
            have hJc : J f 9 = w (C 9) := zp_m hz (by omega)
            rw [z228 hm h4 hf hf0 (m212_f6 hm h4 hf hf0 h9 (by rw [hJc, hall c0 9 (by omega)]; decide) (by rw [hJ0, c0]; rfl)) (f5 (r := 6) (by decide) (by decide)) hc h13]
            rfl
          · rw [if_neg c0] at pre
            have lx : C 9 ≤ 10 := lim 9 (by omega)
            by_cases cl : C 9 < 10
            · exact line_end (pre.trans (c53_e hr (x := 9) (by omega) (by omega) (q0 9 (by omega)) cl (by decide))) (line_out cx h cs c0 cl)
            · refine Or.inr ⟨_, _, _, _, pre.trans (c53_f hr (x := 9) (by omega) (by omega) (q0 9 (by omega)) (show ¬ C 9 < q_lm 9 from cl) (by omega) (by decide)), ?_, go_fault cx h (r := 5) (by decide) (by decide)⟩
              obtain ⟨c, hc, h13⟩ := fc (r := 5) (by decide) (by decide)
              have hJc : J f 9 = w (C 9) := zp_m hz (by omega)
              rw [z228 hm h4 hf hf0 (m212_f5 hm h4 hf hf0 h9 (by rw [hJc, show C 9 = 10 by omega]; rfl)) (f5 (r := 5) (by decide) (by decide)) hc h13]
              rfl
        · have m219 := m219_229 (J := J) hm htm cs' (key.trans a9)
          rw [m219]
          by_cases c0 : C 0 = 0
          · rw [if_pos c0] at pre
            refine Or.inr ⟨_, _, _, _, pre.trans (c53_b hr (by decide) (by decide)), ?_, go_fault cx h (r := 6) (by decide) (by decide)⟩
            obtain ⟨c, hc, h13⟩ := fc (r := 6) (by decide) (by decide)
            have hJc : J f 11 = w (C 10) := hz.2.1.2.2.1
            rw [z229 hm h4 hf hf0 (m212_f6 hm h4 hf hf0 h9 (by rw [hJc, hall c0 10 (by omega)]; decide) (by rw [hJ0, c0]; rfl)) (f5 (r := 6) (by decide) (by decide)) hc h13]
            rfl
          · rw [if_neg c0] at pre
            have lx : C 10 ≤ 10 := lim 10 (by omega)
            by_cases cl : C 10 < 10
            · exact line_end (pre.trans (c53_e hr (x := 10) (by omega) (by omega) (q0 10 (by omega)) cl (by decide))) (line_rain cx h cs c0 cl)
            · refine Or.inr ⟨_, _, _, _, pre.trans (c53_f hr (x := 10) (by omega) (by omega) (q0 10 (by omega)) (show ¬ C 10 < q_lm 10 from cl) (by omega) (by decide)), ?_, go_fault cx h (r := 5) (by decide) (by decide)⟩
              obtain ⟨c, hc, h13⟩ := fc (r := 5) (by decide) (by decide)
              have hJc : J f 11 = w (C 10) := hz.2.1.2.2.1
              rw [z229 hm h4 hf hf0 (m212_f5 hm h4 hf hf0 h9 (by rw [hJc, show C 10 = 10 by omega]; rfl)) (f5 (r := 5) (by decide) (by decide)) hc h13]
              rfl
        · have m219 := m219_230 (J := J) hm htm cs' (key.trans a10)
          rw [m219]
          by_cases c0 : C 0 = 0
          · rw [if_pos c0] at pre
            refine Or.inr ⟨_, _, _, _, pre.trans (c53_b hr (by decide) (by decide)), ?_, go_fault cx h (r := 6) (by decide) (by decide)⟩
            obtain ⟨c, hc, h13⟩ := fc (r := 6) (by decide) (by decide)
            have hJc : J f 12 = w (C 11) := hz.2.1.2.2.2.1
            rw [z230 hm h4 hf hf0 (m212_f6 hm h4 hf hf0 h9 (by rw [hJc, hall c0 11 (by omega)]; decide) (by rw [hJ0, c0]; rfl)) (f5 (r := 6) (by decide) (by decide)) hc h13]
            rfl
          · rw [if_neg c0] at pre
            have lx : C 11 ≤ 6 := lim 11 (by omega)
            by_cases cl : C 11 < 6
            · exact line_end (pre.trans (c53_e hr (x := 11) (by omega) (by omega) (q0 11 (by omega)) cl (by decide))) (line_wind cx h cs c0 cl)
            · refine Or.inr ⟨_, _, _, _, pre.trans (c53_f hr (x := 11) (by omega) (by omega) (q0 11 (by omega)) (show ¬ C 11 < q_lm 11 from cl) (by omega) (by decide)), ?_, go_fault cx h (r := 5) (by decide) (by decide)⟩
              obtain ⟨c, hc, h13⟩ := fc (r := 5) (by decide) (by decide)
              have hJc : J f 12 = w (C 11) := hz.2.1.2.2.2.1
              rw [z230 hm h4 hf hf0 (m212_f5 hm h4 hf hf0 h9 (by rw [hJc, show C 11 = 6 by omega]; rfl)) (f5 (r := 5) (by decide) (by decide)) hc h13]
              rfl
      · refine hnone (Or.inr ⟨i, by omega, by omega, ?_, e74⟩) fun z => ?_
        · obtain ⟨m1, m2, m3⟩ := n5 (i - 11) (by omega)
          rw [show 11 + (i - 11) = i by omega] at m3
          rcases m3 with ⟨z, -⟩ | ⟨z, -⟩ | ⟨z, -⟩ <;> rw [z] <;> decide
        · obtain ⟨k, hk, ek⟩ := (isk_iff hNm _).mp z.2
          exact eno k (by omega) (ek.trans hx.symm)
    · refine hnone (Or.inl e74) fun z => ?_
      obtain ⟨k, hk, ek⟩ := (isk_iff hNm _).mp z.2
      exact eno k (by omega) (ek.trans hx.symm)
  · exact hnone (Or.inl (c_find0 hr cs)) fun z => cs (t1.mpr z.1)
end PAny
end PDs
