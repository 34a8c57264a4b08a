/-! READING: the class's next token -/
def qLet (c : Nat) : Prop := 97 ≤ c ∧ c ≤ 122
def qDig (c : Nat) : Prop := 48 ≤ c ∧ c ≤ 57
def qEnd (P : Nat → Prop) (b : Nat → Nat) (n a e : Nat) : Prop := a ≤ e ∧ e ≤ n ∧ (∀ k, a ≤ k → k < e → P (b k)) ∧ (e < n → ¬ P (b e))
theorem end_ex {P : Nat → Prop} {b : Nat → Nat} {n a : Nat} (h : a ≤ n) : ∃ e, qEnd P b n a e := run_ex (P := fun k => P (b k)) h
theorem w_c {c k : Nat} (hc : c < 256) (hk : k < 256) : (w c < w k ↔ c < k) ∧ (w c = w k ↔ c = k) := ⟨w_lt (by omega) (by omega), w_eq (by omega) (by omega)⟩
section TN
variable {I : qI} {L : qL} {s : qS} {t n p a : Nat} {b : Nat → Nat}
theorem c_next0 (hr : qRdr s t) (hb : qTxt I b) (hn : n ≤ 1100) (h1 : I 187 1 = w n) (h2 : I 187 2 = w p) (hs : qEnd (fun c => c = 32) b n p a) : jD 86 [.ref 187] (I, L, s) = if a < n then jd 86 3 [some (.ref 187), some (.int (w (b a)))] [] (q_up I 187 (q_set (q_set (q_set (I 187) 3 (w a)) 6 0) 2 (w a)), q_upl L 187 (q_setl (L 187) 5 0), s) else some (none, q_up I 187 (q_set (q_set (q_set (q_set (I 187) 3 (w a)) 6 0) 2 (w a)) 4 0), q_upl L 187 (q_setl (L 187) 5 0), s) := by
  obtain ⟨-, -, -, -, -, -, -, -, -, -, k7, r7, hT, -⟩ := id hr
  obtain ⟨s1, s2, s3, s4⟩ := hs
  rw [D_86, E_86_0]
  simp only [↓reduceIte, q_i, q_l, q_k, q_r, q_z, q_si, q_sl, jx_lt, jx_ri, jx_rl, jx_rv, if_true, if_false, Nat.reduceLeDiff, Nat.add_one_ne_zero, and_self, true_or, or_true, Nat.reduceEqDiff, or_self, or_false, false_or, k7, h2]
  rw [c_skip hr hb hn h1 s2 s4 (a - p) p (by omega) s3, E_86_2]
  simp only [↓reduceIte, q_i, q_l, q_k, q_r, q_z, q_si, q_sl, jx_lt, jx_ri, jx_rl, jx_rv, if_true, if_false, Nat.reduceLeDiff, Nat.add_one_ne_zero, and_self, true_or, or_true, Nat.reduceEqDiff, or_self, or_false, false_or, k7, r7, hT.1, q_up_eq, q_up_up, look_eq hT]
  have e3 : q_set (q_set (q_set (I 187) 3 (w a)) 6 0) 2 (w a) 3 = w a := by simp only [q_set]; rfl
  have e1 : q_set (q_set (q_set (I 187) 3 (w a)) 6 0) 2 (w a) 1 = w n := by simp only [q_set]; exact h1
  have e33 : q_set (q_set (I 187) 3 (w a)) 6 0 3 = w a := by simp only [q_set]; rfl
  simp only [e33, e3, e1, w_lt (a := a) (b := n) (by omega) (by omega), E_86_9]
  by_cases c : a < n
  · rw [if_pos c, if_pos c, c_text hb (by omega)]
  · rw [if_neg c, if_neg c]
theorem c_next_w (hr : qRdr s t) (hb : qTxt I b) (hn : n ≤ 1100) (h1 : I 187 1 = w n) (h2 : I 187 2 = w p) (hs : qEnd (fun c => c = 32) b n p a) (ha : a < n) (hl : qLet (b a)) {e : Nat} (he : qEnd qLet b n a e) : jD 86 [.ref 187] (I, L, s) = some (none, q_up I 187 (q_set (q_set (q_set (q_set (I 187) 3 (w a)) 6 0) 2 (w e)) 4 (if 8 < e - a then 5 else 1)), q_upl L 187 (q_setl (L 187) 5 (q_wf b a (e - a))), s) := by
  obtain ⟨-, -, -, -, -, -, -, -, -, -, k7, r7, hT, -⟩ := id hr
  have hba := (hb a (by omega)).2
  obtain ⟨e1, e2, e3, e4⟩ := he
  rw [c_next0 hr hb hn h1 h2 hs, if_pos ha, E_86_3, show (97 : Int32) = w 97 from rfl, show (122 : Int32) = w 122 from rfl, if_neg (by rw [w_lt (by omega) (by omega)]; have := hl.1; omega), if_neg (by rw [w_lt (by omega) (by omega)]; have := hl.2; omega)]
  simp only [↓reduceIte, q_i, q_l, q_k, q_r, q_z, q_si, q_sl, jx_lt, jx_ri, jx_rl, jx_rv, if_true, if_false, Nat.reduceLeDiff, Nat.add_one_ne_zero, and_self, true_or, or_true, Nat.reduceEqDiff, or_self, or_false, false_or, k7, D_89, E_89_0, r7, hT.1, q_up_eq, look_eq hT]
  have ea : q_set (q_set (q_set (I 187) 3 (w a)) 6 0) 2 (w a) 2 = w a := q_set_eq
  have ha2 : q_up I 187 (q_set (q_set (q_set (I 187) 3 (w a)) 6 0) 2 (w a)) (179 + 1) = I (179 + 1) := q_up_ne (by omega)
  have hw := c_word (I := I) (L := L) (g := q_set (q_set (I 187) 3 (w a)) 6 0) (h := L 187) hr hb hn (by simp only [q_set]; exact h1) e2 e4 (e - a) a (by omega) (Nat.le_refl _) e3
  rw [Nat.sub_self] at hw
  have hw0 : q_wf b a 0 = 0 := rfl
  rw [hw0] at hw
  have hd : (w e - w a) = w (e - a) := w_sub e1 (by omega)
  have g2 : q_set (q_set (q_set (I 187) 3 (w a)) 6 0) 2 (w e) 2 = w e := q_set_eq
  have g3 : q_set (q_set (q_set (I 187) 3 (w a)) 6 0) 2 (w e) 3 = w a := by simp only [q_set]; rfl
  rw [ea, ha2, hw, E_89_2]
  simp only [↓reduceIte, q_i, q_l, q_k, q_r, q_z, q_si, q_sl, jx_lt, jx_ri, jx_rl, jx_rv, if_true, if_false, Nat.reduceLeDiff, Nat.add_one_ne_zero, and_self, true_or, or_true, Nat.reduceEqDiff, or_self, or_false, false_or, k7, q_up_eq, g2, g3, hd]
  by_cases c : 8 < e - a
  · rw [if_pos (by rw [show (8 : Int32) = w 8 from rfl, w_lt (by omega) (by omega)]; exact c), if_pos c, E_89_3, E_89_4]
    simp only [↓reduceIte, q_i, q_l, q_k, q_r, q_z, q_si, q_sl, jx_lt, jx_ri, jx_rl, jx_rv, if_true, if_false, Nat.reduceLeDiff, Nat.add_one_ne_zero, and_self, true_or, or_true, Nat.reduceEqDiff, or_self, or_false, false_or, k7, q_up_eq, q_up_up, E_86_9]
  · rw [if_neg (by rw [show (8 : Int32) = w 8 from rfl, w_lt (by omega) (by omega)]; exact c), if_neg c, E_89_4]
    simp only [↓reduceIte, q_i, q_l, q_k, q_r, q_z, q_si, q_sl, jx_lt, jx_ri, jx_rl, jx_rv, if_true, if_false, Nat.reduceLeDiff, Nat.add_one_ne_zero, and_self, true_or, or_true, Nat.reduceEqDiff, or_self, or_false, false_or, k7, q_up_eq, q_up_up, E_86_9]
theorem c_next_n (hr : qRdr s t) (hb : qTxt I b) (hn : n ≤ 1100) (h1 : I 187 1 = w n) (h2 : I 187 2 = w p) (hs : qEnd (fun c => c = 32) b n p a) (ha : a < n) (hl : qDig (b a)) {e : Nat} (he : qEnd qDig b n a e) : jD 86 [.ref 187] (I, L, s) = some (none, q_up I 187 (q_set (q_set (q_set (q_set (I 187) 3 (w a)) 6 (q_nf b a (e - a))) 2 (w e)) 4 (if 3 < e - a then 5 else 2)), q_upl L 187 (q_setl (L 187) 5 0), s) := by
  obtain ⟨-, -, -, -, -, -, -, -, -, -, k7, r7, hT, -⟩ := id hr
  have hba := (hb a (by omega)).2
  obtain ⟨e1, e2, e3, e4⟩ := he
  have hl1 := hl.1
  have hl2 := hl.2
  rw [c_next0 hr hb hn h1 h2 hs, if_pos ha, E_86_3, show (97 : Int32) = w 97 from rfl, if_pos (by rw [w_lt (by omega) (by omega)]; omega), E_86_4, show (48 : Int32) = w 48 from rfl, show (57 : Int32) = w 57 from rfl, if_neg (by rw [w_lt (by omega) (by omega)]; omega), if_neg (by rw [w_lt (by omega) (by omega)]; omega)]
  simp only [↓reduceIte, q_i, q_l, q_k, q_r, q_z, q_si, q_sl, jx_lt, jx_ri, jx_rl, jx_rv, if_true, if_false, Nat.reduceLeDiff, Nat.add_one_ne_zero, and_self, true_or, or_true, Nat.reduceEqDiff, or_self, or_false, false_or, k7, D_90, E_90_0, r7, hT.1, q_up_eq, look_eq hT]
  have ea : q_set (q_set (q_set (I 187) 3 (w a)) 6 0) 2 (w a) 2 = w a := q_set_eq
  have ha2 : q_up I 187 (q_set (q_set (q_set (I 187) 3 (w a)) 6 0) 2 (w a)) (179 + 1) = I (179 + 1) := q_up_ne (by omega)
  have hw := c_num (I := I) (L := q_upl L 187 (q_setl (L 187) 5 0)) (g := q_set (I 187) 3 (w a)) hr hb hn (by simp only [q_set]; exact h1) e2 e4 (e - a) a (by omega) (Nat.le_refl _) e3
  rw [Nat.sub_self] at hw
  have hw0 : q_nf b a 0 = 0 := rfl
  rw [hw0] at hw
  have hd : (w e - w a) = w (e - a) := w_sub e1 (by omega)
  have g2 : q_set (q_set (q_set (I 187) 3 (w a)) 6 (q_nf b a (e - a))) 2 (w e) 2 = w e := q_set_eq
  have g3 : q_set (q_set (q_set (I 187) 3 (w a)) 6 (q_nf b a (e - a))) 2 (w e) 3 = w a := by simp only [q_set]; rfl
  rw [ea, ha2, hw, E_90_2]
  simp only [↓reduceIte, q_i, q_l, q_k, q_r, q_z, q_si, q_sl, jx_lt, jx_ri, jx_rl, jx_rv, if_true, if_false, Nat.reduceLeDiff, Nat.add_one_ne_zero, and_self, true_or, or_true, Nat.reduceEqDiff, or_self, or_false, false_or, k7, q_up_eq, g2, g3, hd]
  by_cases c : 3 < e - a
  · rw [if_pos (by rw [show (3 : Int32) = w 3 from rfl, w_lt (by omega) (by omega)]; exact c), if_pos c, E_90_3, E_90_4]
    simp only [↓reduceIte, q_i, q_l, q_k, q_r, q_z, q_si, q_sl, jx_lt, jx_ri, jx_rl, jx_rv, if_true, if_false, Nat.reduceLeDiff, Nat.add_one_ne_zero, and_self, true_or, or_true, Nat.reduceEqDiff, or_self, or_false, false_or, k7, q_up_eq, q_up_up, E_86_9]
  · rw [if_neg (by rw [show (3 : Int32) = w 3 from rfl, w_lt (by omega) (by omega)]; exact c), if_neg c, E_90_4]
    simp only [↓reduceIte, q_i, q_l, q_k, q_r, q_z, q_si, q_sl, jx_lt, jx_ri, jx_rl, jx_rv, if_true, if_false, Nat.reduceLeDiff, Nat.add_one_ne_zero, and_self, true_or, or_true, Nat.reduceEqDiff, or_self, or_false, false_or, k7, q_up_eq, q_up_up, E_86_9]
theorem c_next_o (hr : qRdr s t) (hb : qTxt I b) (hn : n ≤ 1100) (h1 : I 187 1 = w n) (h2 : I 187 2 = w p) (hs : qEnd (fun c => c = 32) b n p a) (ha : a < n) (hl : ¬ qLet (b a)) (hd : ¬ qDig (b a)) : jD 86 [.ref 187] (I, L, s) = some (none, q_up I 187 (q_set (q_set (q_set (q_set (I 187) 3 (w a)) 6 0) 2 (w (a + 1))) 4 (if b a = 59 then 3 else if b a = 44 then 4 else 5)), q_upl L 187 (q_setl (L 187) 5 0), s) := by
  obtain ⟨-, -, -, -, -, -, -, -, -, -, k7, r7, hT, -⟩ := id hr
  have hba := (hb a (by omega)).2
  have e5 : jd 86 3 [some (.ref 187), some (.int (w (b a)))] [] (q_up I 187 (q_set (q_set (q_set (I 187) 3 (w a)) 6 0) 2 (w a)), q_upl L 187 (q_setl (L 187) 5 0), s) = jd 86 5 [some (.ref 187), some (.int (w (b a)))] [] (q_up I 187 (q_set (q_set (q_set (I 187) 3 (w a)) 6 0) 2 (w a)), q_upl L 187 (q_setl (L 187) 5 0), s) := by
    have e4 : jd 86 4 [some (.ref 187), some (.int (w (b a)))] [] (q_up I 187 (q_set (q_set (q_set (I 187) 3 (w a)) 6 0) 2 (w a)), q_upl L 187 (q_setl (L 187) 5 0), s) = jd 86 5 [some (.ref 187), some (.int (w (b a)))] [] (q_up I 187 (q_set (q_set (q_set (I 187) 3 (w a)) 6 0) 2 (w a)), q_upl L 187 (q_setl (L 187) 5 0), s) := by
      rw [E_86_4, show (48 : Int32) = w 48 from rfl, show (57 : Int32) = w 57 from rfl]
      unfold qDig at hd
      by_cases c : b a < 48
      · rw [if_pos (by rw [w_lt (by omega) (by omega)]; exact c)]
      · rw [if_neg (by rw [w_lt (by omega) (by omega)]; exact c), if_pos (by rw [w_lt (by omega) (by omega)]; omega)]
    rw [E_86_3, show (97 : Int32) = w 97 from rfl, show (122 : Int32) = w 122 from rfl]
    unfold qLet at hl
    by_cases c : b a < 97
    · rw [if_pos (by rw [w_lt (by omega) (by omega)]; exact c)]
      exact e4
    · rw [if_neg (by rw [w_lt (by omega) (by omega)]; exact c), if_pos (by rw [w_lt (by omega) (by omega)]; omega)]
      exact e4
  have g3 : q_set (q_set (q_set (I 187) 3 (w a)) 6 0) 2 (w a) 3 = w a := by simp only [q_set]; rfl
  rw [c_next0 hr hb hn h1 h2 hs, if_pos ha, e5, E_86_5]
  simp only [↓reduceIte, q_i, q_l, q_k, q_r, q_z, q_si, q_sl, jx_lt, jx_ri, jx_rl, jx_rv, if_true, if_false, Nat.reduceLeDiff, Nat.add_one_ne_zero, and_self, true_or, or_true, Nat.reduceEqDiff, or_self, or_false, false_or, k7, q_up_eq, q_up_up, set_set, g3, w_inc]
  rw [show (59 : Int32) = w 59 from rfl]
  by_cases c : b a = 59
  · rw [if_pos (by rw [c]), if_pos c, E_86_8]
    simp only [↓reduceIte, q_i, q_l, q_k, q_r, q_z, q_si, q_sl, jx_lt, jx_ri, jx_rl, jx_rv, if_true, if_false, Nat.reduceLeDiff, Nat.add_one_ne_zero, and_self, true_or, or_true, Nat.reduceEqDiff, or_self, or_false, false_or, k7, q_up_eq, q_up_up, E_86_9]
  · rw [if_neg (by rw [w_eq (by omega) (by omega)]; exact c), if_neg c, E_86_6, show (44 : Int32) = w 44 from rfl]
    by_cases c2 : b a = 44
    · rw [if_pos (by rw [c2]), if_pos c2, E_86_8]
      simp only [↓reduceIte, q_i, q_l, q_k, q_r, q_z, q_si, q_sl, jx_lt, jx_ri, jx_rl, jx_rv, if_true, if_false, Nat.reduceLeDiff, Nat.add_one_ne_zero, and_self, true_or, or_true, Nat.reduceEqDiff, or_self, or_false, false_or, k7, q_up_eq, q_up_up, E_86_9]
    · rw [if_neg (by rw [w_eq (by omega) (by omega)]; exact c2), if_neg c2, E_86_7, E_86_8]
      simp only [↓reduceIte, q_i, q_l, q_k, q_r, q_z, q_si, q_sl, jx_lt, jx_ri, jx_rl, jx_rv, if_true, if_false, Nat.reduceLeDiff, Nat.add_one_ne_zero, and_self, true_or, or_true, Nat.reduceEqDiff, or_self, or_false, false_or, k7, q_up_eq, q_up_up, E_86_9]
end TN
