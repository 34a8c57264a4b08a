/-! READING: the reference's next token -/
def qTxm (J : qI) (b : Nat → Nat) : Prop := ∀ k, k < 1100 → J (240 + 1) k &&& 255 = w (b k) ∧ b k < 256
theorem wl_let2 {x : Int64} : ∀ c, 97 ≤ c → c ≤ 122 → 32 * x + Int32.toInt64 (w c - 97 + 1) = x * 32 + wl (c - 96) := by
  intro c h1 h2
  have key : ∀ c, c < 123 → 97 ≤ c → Int32.toInt64 (w c - 97 + 1) = wl (c - 96) := by decide +kernel
  rw [key c (by omega) h1, Int64.mul_comm]
section TM
variable {J : qI} {K : qL} {s : qS} {n p a : Nat} {b : Nat → Nat} {g : Nat → Int32} {h : Nat → Int64}
theorem m_peek (hm : qMo s 240) (hb : qTxm J b) (hn : n ≤ 1100) (h7 : g 7 = w n) {j : Nat} (hj : j ≤ n) : jD 198 [.ref 240, .int (w j)] (q_up J 240 g, K, s) = some (some (.int (if j < n then w (b j) else -1)), q_up J 240 g, K, s) := by
  rw [D_198, E_198_0]
  simp only [↓reduceIte, q_i, q_l, q_k, q_r, q_z, q_si, q_sl, jx_lt, jx_ri, jx_rl, jx_rv, if_true, if_false, Nat.reduceLeDiff, Nat.add_one_ne_zero, and_self, true_or, or_true, Nat.reduceEqDiff, or_self, or_false, false_or, mo_k hm, mo_r5 hm, mo_k5 hm, mo_z5 hm, q_up_eq, h7, E_198_2]
  by_cases c : j < n
  · have e1 : q_up J 240 g (240 + 1) = J (240 + 1) := q_up_ne (by omega)
    rw [if_neg (w_nle c (by omega)), if_pos c]
    simp only [w_nn (a := j) (by omega), show ¬ 1100 ≤ j by omega, w_tc (a := j) (by omega), ↓reduceIte, q_i, q_l, q_k, q_r, q_z, q_si, q_sl, jx_lt, jx_ri, jx_rl, jx_rv, if_true, if_false, Nat.reduceLeDiff, Nat.add_one_ne_zero, and_self, true_or, or_true, Nat.reduceEqDiff, or_self, or_false, false_or, e1, (hb j (by omega)).1]
  · rw [if_pos (w_le' (by omega) (by omega)), if_neg c, E_198_1, E_198_2]
theorem isLet_eq {c : Nat} (hc : c < 256) : jD 199 [.int (w c)] (J, K, s) = some (some (.int (if 97 ≤ c ∧ c ≤ 122 then 1 else 0)), J, K, s) := by
  rw [D_199, E_199_0, show (97 : Int32) = w 97 from rfl, show (122 : Int32) = w 122 from rfl]
  by_cases c1 : c < 97
  · rw [if_pos (by rw [w_lt (by omega) (by omega)]; exact c1), if_neg (by omega), E_199_1, E_199_2, if_pos (Or.inl rfl)]
  · rw [if_neg (by rw [w_lt (by omega) (by omega)]; exact c1)]
    by_cases c2 : 122 < c
    · rw [if_pos (by rw [w_lt (by omega) (by omega)]; exact c2), if_neg (by omega), E_199_1, E_199_2, if_pos (Or.inl rfl)]
    · rw [if_neg (by rw [w_lt (by omega) (by omega)]; exact c2), if_pos (by omega), E_199_2, if_pos (Or.inr rfl)]
theorem isLet_0 : jD 199 [.int (-1)] (J, K, s) = some (some (.int 0), J, K, s) := by
  rw [D_199, E_199_0, if_pos (by decide), E_199_1, E_199_2, if_pos (Or.inl rfl)]
theorem isDig_eq {c : Nat} (hc : c < 256) : jD 200 [.int (w c)] (J, K, s) = some (some (.int (if 48 ≤ c ∧ c ≤ 57 then 1 else 0)), J, K, s) := by
  rw [D_200, E_200_0, show (48 : Int32) = w 48 from rfl, show (57 : Int32) = w 57 from rfl]
  by_cases c1 : c < 48
  · rw [if_pos (by rw [w_lt (by omega) (by omega)]; exact c1), if_neg (by omega), E_200_1, E_200_2, if_pos (Or.inl rfl)]
  · rw [if_neg (by rw [w_lt (by omega) (by omega)]; exact c1)]
    by_cases c2 : 57 < c
    · rw [if_pos (by rw [w_lt (by omega) (by omega)]; exact c2), if_neg (by omega), E_200_1, E_200_2, if_pos (Or.inl rfl)]
    · rw [if_neg (by rw [w_lt (by omega) (by omega)]; exact c2), if_pos (by omega), E_200_2, if_pos (Or.inr rfl)]
theorem isDig_0 : jD 200 [.int (-1)] (J, K, s) = some (some (.int 0), J, K, s) := by
  rw [D_200, E_200_0, if_pos (by decide), E_200_1, E_200_2, if_pos (Or.inl rfl)]
theorem m_skip (hm : qMo s 240) (hb : qTxm J b) (hn : n ≤ 1100) (h7 : g 7 = w n) (ha : a ≤ n) (hse : a < n → b a ≠ 32) : ∀ d p, p + d = a → (∀ k, p ≤ k → k < a → b k = 32) → jd 202 1 [some (.ref 240), none, none] [] (q_up J 240 (q_set g 8 (w p)), K, s) = jd 202 2 [some (.ref 240), none, none] [] (q_up J 240 (q_set g 8 (w a)), K, s) := by
  have h7' : ∀ p, q_set g 8 (w p) 7 = w n := fun p => by simp only [q_set]; exact h7
  have h8 : ∀ p, q_set g 8 (w p) 8 = w p := fun p => q_set_eq
  intro d
  induction d with
  | zero =>
    intro p hp hsp
    obtain rfl : p = a := by omega
    rw [E_202_1]
    simp only [↓reduceIte, q_i, q_l, q_k, q_r, q_z, q_si, q_sl, jx_lt, jx_ri, jx_rl, jx_rv, if_true, if_false, Nat.reduceLeDiff, Nat.add_one_ne_zero, and_self, true_or, or_true, Nat.reduceEqDiff, or_self, or_false, false_or, mo_k hm, q_up_eq, h8, m_peek hm hb hn (h7' p) ha]
    by_cases c : p < n
    · have hb9 := (hb p (by omega)).2
      rw [if_pos c, if_neg (show ¬ w (b p) = (32 : Int32) from fun z => hse c ((w_eq (a := b p) (b := 32) (by omega) (by omega)).mp z))]
    · rw [if_neg c, if_neg (by decide)]
  | succ d ih =>
    intro p hp hsp
    rw [E_202_1]
    simp only [↓reduceIte, q_i, q_l, q_k, q_r, q_z, q_si, q_sl, jx_lt, jx_ri, jx_rl, jx_rv, if_true, if_false, Nat.reduceLeDiff, Nat.add_one_ne_zero, and_self, true_or, or_true, Nat.reduceEqDiff, or_self, or_false, false_or, mo_k hm, q_up_eq, q_up_up, h8, m_peek hm hb hn (h7' p) (show p ≤ n by omega)]
    rw [if_pos (show p < n by omega), hsp p (Nat.le_refl _) (by omega), if_pos (show w 32 = 32 from rfl), set_set, w_inc]
    exact ih (p + 1) (by omega) (fun k a1 a2 => hsp k (by omega) a2)
theorem m_word (hm : qMo s 240) (hb : qTxm J b) (hn : n ≤ 1100) (h7 : g 7 = w n) {e : Nat} (he : e ≤ n) (hend : e < n → ¬ qLet (b e)) : ∀ d j, j + d = e → a ≤ j → (∀ k, j ≤ k → k < e → qLet (b k)) → jd 202 4 [some (.ref 240), none, some (.int (w (j - a)))] [] (q_up J 240 (q_set g 8 (w j)), q_upl K 240 (q_setl h 15 (q_wf b a (min (j - a) 8))), s) = jd 202 6 [some (.ref 240), none, some (.int (w (e - a)))] [] (q_up J 240 (q_set g 8 (w e)), q_upl K 240 (q_setl h 15 (q_wf b a (min (e - a) 8))), s) := by
  have h7' : ∀ p, q_set g 8 (w p) 7 = w n := fun p => by simp only [q_set]; exact h7
  have h8 : ∀ p, q_set g 8 (w p) 8 = w p := fun p => q_set_eq
  intro d
  induction d with
  | zero =>
    intro j hj ha hlt
    obtain rfl : j = e := by omega
    rw [E_202_4]
    simp only [↓reduceIte, q_i, q_l, q_k, q_r, q_z, q_si, q_sl, jx_lt, jx_ri, jx_rl, jx_rv, if_true, if_false, Nat.reduceLeDiff, Nat.add_one_ne_zero, and_self, true_or, or_true, Nat.reduceEqDiff, or_self, or_false, false_or, mo_k hm, q_up_eq, h8, m_peek hm hb hn (h7' j) he]
    by_cases c : j < n
    · have hb9 := (hb j (by omega)).2
      rw [if_pos c]
      simp only [isLet_eq hb9]
      rw [if_neg (show ¬ (97 ≤ b j ∧ b j ≤ 122) from hend c)]
      simp only [if_true]
    · rw [if_neg c]
      simp only [isLet_0, if_true]
  | succ d ih =>
    intro j hj ha hlt
    have hb9 := (hb j (by omega)).2
    have hl := hlt j (Nat.le_refl _) (by omega)
    have hl' : 97 ≤ b j ∧ b j ≤ 122 := hl
    have hnext := ih (j + 1) (by omega) (by omega) (fun k a1 a2 => hlt k (by omega) a2)
    have h5 : ∀ x, jd 202 5 [some (.ref 240), none, some (.int (w (j - a)))] [] (q_up J 240 (q_set g 8 (w j)), q_upl K 240 (q_setl h 15 x), s) = jd 202 4 [some (.ref 240), none, some (.int (w (j + 1 - a)))] [] (q_up J 240 (q_set g 8 (w (j + 1))), q_upl K 240 (q_setl h 15 x), s) := fun x => by
      rw [E_202_5]
      simp only [↓reduceIte, q_i, q_l, q_k, q_r, q_z, q_si, q_sl, jx_lt, jx_ri, jx_rl, jx_rv, if_true, if_false, Nat.reduceLeDiff, Nat.add_one_ne_zero, and_self, true_or, or_true, Nat.reduceEqDiff, or_self, or_false, false_or, mo_k hm, q_up_eq, q_up_up, h8, set_set, w_inc]
      rw [show j - a + 1 = j + 1 - a by omega]
    rw [E_202_4]
    simp only [↓reduceIte, q_i, q_l, q_k, q_r, q_z, q_si, q_sl, jx_lt, jx_ri, jx_rl, jx_rv, if_true, if_false, Nat.reduceLeDiff, Nat.add_one_ne_zero, and_self, true_or, or_true, Nat.reduceEqDiff, or_self, or_false, false_or, mo_k hm, q_up_eq, h8, m_peek hm hb hn (h7' j) (show j ≤ n by omega)]
    rw [if_pos (show j < n by omega)]
    simp only [isLet_eq hb9, hl', and_self, if_true, show ¬ (1 : Int32) = 0 by decide, if_false]
    by_cases c : 8 ≤ j - a
    · rw [if_pos (by rw [show (8 : Int32) = w 8 from rfl]; exact w_le' c (by omega)), h5]
      rw [show min (j - a) 8 = min (j + 1 - a) 8 by omega]
      exact hnext
    · rw [if_neg (by rw [show (8 : Int32) = w 8 from rfl, w_le (by omega) (by omega)]; exact c)]
      have hx : q_upl K 240 (q_setl h 15 (q_wf b a (min (j - a) 8))) 240 15 = q_wf b a (j - a) := by
        have e0 : q_upl K 240 (q_setl h 15 (q_wf b a (min (j - a) 8))) 240 = q_setl h 15 (q_wf b a (min (j - a) 8)) := if_pos rfl
        rw [e0, show min (j - a) 8 = j - a by omega]
        exact if_pos rfl
      have hq : q_wf b a (min (j + 1 - a) 8) = q_wf b a (j - a) * 32 + wl (b j - 96) := by
        rw [show min (j + 1 - a) 8 = (j - a) + 1 by omega]
        show q_wf b a (j - a) * 32 + wl (b (a + (j - a)) - 96) = _
        rw [show a + (j - a) = j by omega]
      have e3 : ∀ y, q_upl (q_upl K 240 (q_setl h 15 (q_wf b a (min (j - a) 8)))) 240 (q_setl (q_upl K 240 (q_setl h 15 (q_wf b a (min (j - a) 8))) 240) 15 y) = q_upl K 240 (q_setl h 15 y) := fun y => by
        funext k
        unfold q_upl
        by_cases c : k = 240
        · rw [if_pos c, if_pos c]
          funext i
          unfold q_setl
          rw [if_pos rfl]
          by_cases c2 : i = 15
          · rw [if_pos c2, if_pos c2]
          · rw [if_neg c2, if_neg c2, if_neg c2]
        · rw [if_neg c, if_neg c, if_neg c]
      simp only [↓reduceIte, q_i, q_l, q_k, q_r, q_z, q_si, q_sl, jx_lt, jx_ri, jx_rl, jx_rv, if_true, if_false, Nat.reduceLeDiff, Nat.add_one_ne_zero, and_self, true_or, or_true, Nat.reduceEqDiff, or_self, or_false, false_or, mo_k hm, q_up_eq, h8, m_peek hm hb hn (h7' j) (show j ≤ n by omega), show j < n by omega, hx, wl_let2 _ hl'.1 hl'.2, e3, h5]
      rw [← hq]
      exact hnext
theorem m_num (hm : qMo s 240) (hb : qTxm J b) (hn : n ≤ 1100) (h7 : g 7 = w n) {e : Nat} (he : e ≤ n) (hend : e < n → ¬ qDig (b e)) : ∀ d j, j + d = e → a ≤ j → (∀ k, j ≤ k → k < e → qDig (b k)) → jd 202 8 [some (.ref 240), none, some (.int (w (j - a)))] [] (q_up J 240 (q_set (q_set g 12 (q_nf b a (min (j - a) 3))) 8 (w j)), K, s) = jd 202 10 [some (.ref 240), none, some (.int (w (e - a)))] [] (q_up J 240 (q_set (q_set g 12 (q_nf b a (min (e - a) 3))) 8 (w e)), K, s) := by
  have h7' : ∀ x p, q_set (q_set g 12 x) 8 (w p) 7 = w n := fun x p => by simp only [q_set]; exact h7
  have h8 : ∀ x p, q_set (q_set g 12 x) 8 (w p) 8 = w p := fun x p => q_set_eq
  have h12 : ∀ x p, q_set (q_set g 12 x) 8 (w p) 12 = x := fun x p => by simp only [q_set]; rfl
  intro d
  induction d with
  | zero =>
    intro j hj ha hlt
    obtain rfl : j = e := by omega
    rw [E_202_8]
    simp only [↓reduceIte, q_i, q_l, q_k, q_r, q_z, q_si, q_sl, jx_lt, jx_ri, jx_rl, jx_rv, if_true, if_false, Nat.reduceLeDiff, Nat.add_one_ne_zero, and_self, true_or, or_true, Nat.reduceEqDiff, or_self, or_false, false_or, mo_k hm, q_up_eq, h8, m_peek hm hb hn (h7' _ j) he]
    by_cases c : j < n
    · have hb9 := (hb j (by omega)).2
      rw [if_pos c]
      simp only [isDig_eq hb9]
      rw [if_neg (show ¬ (48 ≤ b j ∧ b j ≤ 57) from hend c)]
      simp only [if_true]
    · rw [if_neg c]
      simp only [isDig_0, if_true]
  | succ d ih =>
    intro j hj ha hlt
    have hb9 := (hb j (by omega)).2
    have hl := hlt j (Nat.le_refl _) (by omega)
    have hl' : 48 ≤ b j ∧ b j ≤ 57 := hl
    have hnext := ih (j + 1) (by omega) (by omega) (fun k a1 a2 => hlt k (by omega) a2)
    have h5 : ∀ x, jd 202 9 [some (.ref 240), none, some (.int (w (j - a)))] [] (q_up J 240 (q_set (q_set g 12 x) 8 (w j)), K, s) = jd 202 8 [some (.ref 240), none, some (.int (w (j + 1 - a)))] [] (q_up J 240 (q_set (q_set g 12 x) 8 (w (j + 1))), K, s) := fun x => by
      rw [E_202_9]
      simp only [↓reduceIte, q_i, q_l, q_k, q_r, q_z, q_si, q_sl, jx_lt, jx_ri, jx_rl, jx_rv, if_true, if_false, Nat.reduceLeDiff, Nat.add_one_ne_zero, and_self, true_or, or_true, Nat.reduceEqDiff, or_self, or_false, false_or, mo_k hm, q_up_eq, q_up_up, h8, set_set, w_inc]
      rw [show j - a + 1 = j + 1 - a by omega]
    rw [E_202_8]
    simp only [↓reduceIte, q_i, q_l, q_k, q_r, q_z, q_si, q_sl, jx_lt, jx_ri, jx_rl, jx_rv, if_true, if_false, Nat.reduceLeDiff, Nat.add_one_ne_zero, and_self, true_or, or_true, Nat.reduceEqDiff, or_self, or_false, false_or, mo_k hm, q_up_eq, h8, m_peek hm hb hn (h7' _ j) (show j ≤ n by omega)]
    rw [if_pos (show j < n by omega)]
    simp only [isDig_eq hb9, hl', and_self, if_true, show ¬ (1 : Int32) = 0 by decide, if_false]
    by_cases c : 3 ≤ j - a
    · rw [if_pos (by rw [show (3 : Int32) = w 3 from rfl]; exact w_le' c (by omega)), h5]
      rw [show min (j - a) 3 = min (j + 1 - a) 3 by omega]
      exact hnext
    · rw [if_neg (by rw [show (3 : Int32) = w 3 from rfl, w_le (by omega) (by omega)]; exact c)]
      have hq : q_nf b a (min (j + 1 - a) 3) = 10 * q_nf b a (j - a) + w (b j) - 48 := by
        rw [show min (j + 1 - a) 3 = (j - a) + 1 by omega]
        show q_nf b a (j - a) * 10 + w (b (a + (j - a))) - 48 = _
        rw [show a + (j - a) = j by omega, Int32.mul_comm]
      simp only [↓reduceIte, q_i, q_l, q_k, q_r, q_z, q_si, q_sl, jx_lt, jx_ri, jx_rl, jx_rv, if_true, if_false, Nat.reduceLeDiff, Nat.add_one_ne_zero, and_self, true_or, or_true, Nat.reduceEqDiff, or_self, or_false, false_or, mo_k hm, q_up_eq, h8, m_peek hm hb hn (h7' _ j) (show j ≤ n by omega), show j < n by omega, q_up_up, h12]
      rw [show min (j - a) 3 = j - a by omega, ← hq, set_two (k := 12) (l := 8) (by decide), h5]
      exact hnext
end TM
