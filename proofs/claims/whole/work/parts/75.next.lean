/-! READING: the next token of both -/
theorem set_id {f : Nat → Int32} {k : Nat} {v : Int32} (h : f k = v) : q_set f k v = f := by
  funext j
  unfold q_set
  by_cases c : j = k
  · rw [if_pos c, c, h]
  · rw [if_neg c]
section MN
variable {J : qI} {K : qL} {s : qS} {n p a : Nat} {b : Nat → Nat}
def q_g0 (J : qI) (a : Nat) : Nat → Int32 := q_set (q_set (q_set (q_set (J 240) 8 (w a)) 10 (w a)) 9 0) 11 0
theorem m_next0 (hm : qMo s 240) (hb : qTxm J b) (hn : n ≤ 1100) (h7 : J 240 7 = w n) (h8 : J 240 8 = w p) (h9 : J 240 9 ≠ 5) (hs : qEnd (fun c => c = 32) b n p a) : jD 202 [.ref 240] (J, K, s) = if a < n then jd 202 3 [some (.ref 240), some (.int (w (b a))), some (.int 0)] [] (q_up J 240 (q_g0 J a), K, s) else some (none, q_up J 240 (q_set (q_g0 J a) 9 1), K, s) := by
  obtain ⟨s1, s2, s3, s4⟩ := hs
  have hJ : (J, K, s) = (q_up J 240 (q_set (J 240) 8 (w p)), K, s) := by rw [set_id h8, q_up_self]
  have g8 : q_set (J 240) 8 (w a) 8 = w a := q_set_eq
  have g80 : q_g0 J a 8 = w a := by unfold q_g0; simp only [q_set]; rfl
  have g70 : q_g0 J a 7 = w n := by unfold q_g0; simp only [q_set]; exact h7
  have hg : q_set (q_set (q_set (q_set (J 240) 8 (w a)) 10 (w a)) 9 0) 11 0 = q_g0 J a := rfl
  rw [D_202, E_202_0]
  simp only [↓reduceIte, q_i, q_l, q_k, q_r, q_z, q_si, q_sl, jx_lt, jx_ri, jx_rl, jx_rv, if_true, if_false, Nat.reduceLeDiff, Nat.add_one_ne_zero, and_self, true_or, or_true, Nat.reduceEqDiff, or_self, or_false, false_or, mo_k hm, h9]
  rw [hJ, m_skip hm hb hn h7 s2 s4 (a - p) p (by omega) s3, E_202_2]
  simp only [↓reduceIte, q_i, q_l, q_k, q_r, q_z, q_si, q_sl, jx_lt, jx_ri, jx_rl, jx_rv, if_true, if_false, Nat.reduceLeDiff, Nat.add_one_ne_zero, and_self, true_or, or_true, Nat.reduceEqDiff, or_self, or_false, false_or, mo_k hm, q_up_eq, q_up_up, g8, hg, g80, m_peek hm hb hn g70 s2]
  by_cases c : a < n
  · have hb9 := (hb a (by omega)).2
    rw [if_pos c, if_pos c, if_neg (show ¬ w (b a) = (-1 : Int32) from w_m1 (by omega))]
  · rw [if_neg c, if_neg c, if_pos rfl, E_202_13]
theorem m_next_w (hm : qMo s 240) (hb : qTxm J b) (hn : n ≤ 1100) (h7 : J 240 7 = w n) (h8 : J 240 8 = w p) (h9 : J 240 9 ≠ 5) (hs : qEnd (fun c => c = 32) b n p a) (ha : a < n) (hl : qLet (b a)) {e : Nat} (he : qEnd qLet b n a e) : jD 202 [.ref 240] (J, K, s) = some (none, q_up J 240 (if 8 < e - a then q_set (q_g0 J a) 8 (w e) else q_set (q_set (q_g0 J a) 8 (w e)) 9 2), q_upl K 240 (q_setl (K 240) 15 (q_wf b a (min (e - a) 8))), s) := by
  have hb9 := (hb a (by omega)).2
  obtain ⟨e1, e2, e3, e4⟩ := he
  have hl' : 97 ≤ b a ∧ b a ≤ 122 := hl
  have g80 : q_g0 J a 8 = w a := by unfold q_g0; simp only [q_set]; rfl
  have g70 : q_g0 J a 7 = w n := by unfold q_g0; simp only [q_set]; exact h7
  have hw := m_word (J := J) (K := K) (g := q_g0 J a) (h := K 240) hm hb hn g70 e2 e4 (e - a) a (by omega) (Nat.le_refl _) e3
  rw [Nat.sub_self, set_id g80] at hw
  have hw0 : q_wf b a (min 0 8) = 0 := rfl
  rw [hw0] at hw
  rw [m_next0 hm hb hn h7 h8 h9 hs, if_pos ha, E_202_3, isLet_eq hb9]
  simp only [↓reduceIte, q_i, q_l, q_k, q_r, q_z, q_si, q_sl, jx_lt, jx_ri, jx_rl, jx_rv, if_true, if_false, Nat.reduceLeDiff, Nat.add_one_ne_zero, and_self, true_or, or_true, Nat.reduceEqDiff, or_self, or_false, false_or, mo_k hm, hl', show ¬ (1 : Int32) = 0 by decide]
  refine Eq.trans hw ?_
  rw [E_202_6]
  by_cases c : 8 < e - a
  · rw [if_pos (by rw [show (8 : Int32) = w 8 from rfl, w_lt (by omega) (by omega)]; exact c), if_pos c, E_202_13]
  · rw [if_neg (by rw [show (8 : Int32) = w 8 from rfl, w_lt (by omega) (by omega)]; exact c), if_neg c]
    simp only [↓reduceIte, q_i, q_l, q_k, q_r, q_z, q_si, q_sl, jx_lt, jx_ri, jx_rl, jx_rv, if_true, if_false, Nat.reduceLeDiff, Nat.add_one_ne_zero, and_self, true_or, or_true, Nat.reduceEqDiff, or_self, or_false, false_or, mo_k hm, q_up_eq, q_up_up, E_202_13]
theorem m_next_n (hm : qMo s 240) (hb : qTxm J b) (hn : n ≤ 1100) (h7 : J 240 7 = w n) (h8 : J 240 8 = w p) (h9 : J 240 9 ≠ 5) (hs : qEnd (fun c => c = 32) b n p a) (ha : a < n) (hl : qDig (b a)) {e : Nat} (he : qEnd qDig b n a e) : jD 202 [.ref 240] (J, K, s) = some (none, q_up J 240 (if 3 < e - a then q_set (q_set (q_g0 J a) 12 (q_nf b a (min (e - a) 3))) 8 (w e) else q_set (q_set (q_set (q_g0 J a) 12 (q_nf b a (min (e - a) 3))) 8 (w e)) 9 3), K, s) := by
  have hb9 := (hb a (by omega)).2
  obtain ⟨e1, e2, e3, e4⟩ := he
  have hl' : 48 ≤ b a ∧ b a ≤ 57 := hl
  have hnl : ¬ (97 ≤ b a ∧ b a ≤ 122) := by omega
  have g70 : q_g0 J a 7 = w n := by unfold q_g0; simp only [q_set]; exact h7
  have g80 : q_set (q_g0 J a) 12 0 8 = w a := by unfold q_g0; simp only [q_set]; rfl
  have hw := m_num (J := J) (K := K) (g := q_g0 J a) hm hb hn g70 e2 e4 (e - a) a (by omega) (Nat.le_refl _) e3
  rw [Nat.sub_self] at hw
  have hw0 : q_nf b a (min 0 3) = 0 := rfl
  rw [hw0, set_id g80] at hw
  rw [m_next0 hm hb hn h7 h8 h9 hs, if_pos ha, E_202_3, isLet_eq hb9]
  simp only [↓reduceIte, q_i, q_l, q_k, q_r, q_z, q_si, q_sl, jx_lt, jx_ri, jx_rl, jx_rv, if_true, if_false, Nat.reduceLeDiff, Nat.add_one_ne_zero, and_self, true_or, or_true, Nat.reduceEqDiff, or_self, or_false, false_or, mo_k hm, hnl]
  rw [E_202_7, isDig_eq hb9]
  simp only [↓reduceIte, q_i, q_l, q_k, q_r, q_z, q_si, q_sl, jx_lt, jx_ri, jx_rl, jx_rv, if_true, if_false, Nat.reduceLeDiff, Nat.add_one_ne_zero, and_self, true_or, or_true, Nat.reduceEqDiff, or_self, or_false, false_or, mo_k hm, hl', show ¬ (1 : Int32) = 0 by decide, q_up_eq, q_up_up]
  refine Eq.trans hw ?_
  rw [E_202_10]
  by_cases c : 3 < e - a
  · rw [if_pos (by rw [show (3 : Int32) = w 3 from rfl, w_lt (by omega) (by omega)]; exact c), if_pos c, E_202_13]
  · rw [if_neg (by rw [show (3 : Int32) = w 3 from rfl, w_lt (by omega) (by omega)]; exact c), if_neg c]
    simp only [↓reduceIte, q_i, q_l, q_k, q_r, q_z, q_si, q_sl, jx_lt, jx_ri, jx_rl, jx_rv, if_true, if_false, Nat.reduceLeDiff, Nat.add_one_ne_zero, and_self, true_or, or_true, Nat.reduceEqDiff, or_self, or_false, false_or, mo_k hm, q_up_eq, q_up_up, E_202_13]
theorem m_next_o (hm : qMo s 240) (hb : qTxm J b) (hn : n ≤ 1100) (h7 : J 240 7 = w n) (h8 : J 240 8 = w p) (h9 : J 240 9 ≠ 5) (hs : qEnd (fun c => c = 32) b n p a) (ha : a < n) (hl : ¬ qLet (b a)) (hd : ¬ qDig (b a)) : jD 202 [.ref 240] (J, K, s) = some (none, q_up J 240 (if b a = 59 ∨ b a = 44 then q_set (q_set (q_set (q_g0 J a) 9 4) 11 (w (b a))) 8 (w (a + 1)) else q_g0 J a), K, s) := by
  have hb9 := (hb a (by omega)).2
  have g8 : q_set (q_set (q_g0 J a) 9 4) 11 (w (b a)) 8 = w a := by unfold q_g0; simp only [q_set]; rfl
  rw [m_next0 hm hb hn h7 h8 h9 hs, if_pos ha, E_202_3, isLet_eq hb9]
  have hl' : ¬ (97 ≤ b a ∧ b a ≤ 122) := hl
  have hd' : ¬ (48 ≤ b a ∧ b a ≤ 57) := hd
  simp only [↓reduceIte, q_i, q_l, q_k, q_r, q_z, q_si, q_sl, jx_lt, jx_ri, jx_rl, jx_rv, if_true, if_false, Nat.reduceLeDiff, Nat.add_one_ne_zero, and_self, true_or, or_true, Nat.reduceEqDiff, or_self, or_false, false_or, mo_k hm, hl']
  rw [E_202_7, isDig_eq hb9]
  simp only [↓reduceIte, q_i, q_l, q_k, q_r, q_z, q_si, q_sl, jx_lt, jx_ri, jx_rl, jx_rv, if_true, if_false, Nat.reduceLeDiff, Nat.add_one_ne_zero, and_self, true_or, or_true, Nat.reduceEqDiff, or_self, or_false, false_or, mo_k hm, hd']
  have e12 : jd 202 12 [some (.ref 240), some (.int (w (b a))), none] [] (q_up J 240 (q_g0 J a), K, s) = some (none, q_up J 240 (q_set (q_set (q_set (q_g0 J a) 9 4) 11 (w (b a))) 8 (w (a + 1))), K, s) := by
    rw [E_202_12]
    simp only [↓reduceIte, q_i, q_l, q_k, q_r, q_z, q_si, q_sl, jx_lt, jx_ri, jx_rl, jx_rv, if_true, if_false, Nat.reduceLeDiff, Nat.add_one_ne_zero, and_self, true_or, or_true, Nat.reduceEqDiff, or_self, or_false, false_or, mo_k hm, q_up_eq, q_up_up, g8, w_inc, E_202_13]
  rw [E_202_11, show (59 : Int32) = w 59 from rfl, show (44 : Int32) = w 44 from rfl]
  by_cases c : b a = 59
  · rw [if_pos (by rw [c]), e12, if_pos (Or.inl c)]
  · rw [if_neg (by rw [w_eq (by omega) (by omega)]; exact c)]
    by_cases c2 : b a = 44
    · rw [if_pos (by rw [c2]), e12, if_pos (Or.inr c2)]
    · rw [if_neg (by rw [w_eq (by omega) (by omega)]; exact c2), E_202_13, if_neg (fun z => z.elim c c2)]
end MN
/-- the same token, on both sides -/
def qTk (I : qI) (L : qL) (J : qI) (K : qL) (n : Nat) : Prop := ∃ a, I 187 3 = w a ∧ J 240 10 = w a ∧ a ≤ n ∧
  ((I 187 4 = 0 ∧ J 240 9 = 1) ∨ (I 187 4 = 5 ∧ J 240 9 = 0) ∨ ((∃ p, p ≤ n ∧ I 187 2 = w p ∧ J 240 8 = w p) ∧
    ((I 187 4 = 1 ∧ J 240 9 = 2 ∧ L 187 5 = K 240 15) ∨ (I 187 4 = 2 ∧ J 240 9 = 3 ∧ I 187 6 = J 240 12) ∨ (I 187 4 = 3 ∧ J 240 9 = 4 ∧ J 240 11 = 59) ∨ (I 187 4 = 4 ∧ J 240 9 = 4 ∧ J 240 11 = 44))))
theorem next_rel {I J : qI} {L K : qL} {s s2 : qS} {t n p : Nat} {b : Nat → Nat} (hr : qRdr s t) (hb : qTxt I b) (hn : n ≤ 1100) (h1 : I 187 1 = w n) (h2 : I 187 2 = w p) (hm : qMo s2 240) (hb2 : qTxm J b) (h7 : J 240 7 = w n) (h8 : J 240 8 = w p) (h9 : J 240 9 ≠ 5) (hp : p ≤ n) : ∃ g h g' h', jD 86 [.ref 187] (I, L, s) = some (none, q_up I 187 g, q_upl L 187 h, s) ∧ jD 202 [.ref 240] (J, K, s2) = some (none, q_up J 240 g', q_upl K 240 h', s2) ∧ g 1 = w n ∧ (∀ k, k < 8 ∨ 12 < k → g' k = J 240 k) ∧ g' 9 ≠ 5 ∧ qTk (q_up I 187 g) (q_upl L 187 h) (q_up J 240 g') (q_upl K 240 h') n := by
  obtain ⟨a, hs⟩ := end_ex (P := fun c => c = 32) (b := b) hp
  have ha := hs.2.1
  have hout : ∀ k, k < 8 ∨ 12 < k → q_g0 J a k = J 240 k := fun k hk => by
    unfold q_g0
    rw [q_set_ne (by omega), q_set_ne (by omega), q_set_ne (by omega), q_set_ne (by omega)]
  have hK : K = q_upl K 240 (K 240) := by
    funext k
    unfold q_upl
    by_cases c : k = 240
    · rw [if_pos c, c]
    · rw [if_neg c]
  have t1 : ∀ g : Nat → Int32, q_up I 187 g 187 = g := fun g => q_up_eq
  have t2 : ∀ g : Nat → Int32, q_up J 240 g 240 = g := fun g => q_up_eq
  have t3 : ∀ h : Nat → Int64, q_upl L 187 h 187 = h := fun h => if_pos rfl
  have t4 : ∀ h : Nat → Int64, q_upl K 240 h 240 = h := fun h => if_pos rfl
  by_cases c : a < n
  · by_cases cl : qLet (b a)
    · obtain ⟨e, he⟩ := end_ex (P := qLet) (b := b) ha
      refine ⟨_, _, _, _, c_next_w hr hb hn h1 h2 hs c cl he, m_next_w hm hb2 hn h7 h8 h9 hs c cl he, ?_, fun k hk => ?_, ?_, ?_⟩
      · simp only [q_set]; exact h1
      · split
        · rw [q_set_ne (by omega)]; exact hout k hk
        · rw [q_set_ne (by omega), q_set_ne (by omega)]; exact hout k hk
      · by_cases c8 : 8 < e - a
        · rw [if_pos c8]; unfold q_g0; exact (show ¬ (0 : Int32) = 5 by decide)
        · rw [if_neg c8]; exact (show ¬ (2 : Int32) = 5 by decide)
      · unfold qTk
        rw [t1, t2, t3, t4]
        by_cases c8 : 8 < e - a
        · rw [if_pos c8, if_pos c8]
          refine ⟨a, ?_, ?_, ha, Or.inr (Or.inl ⟨?_, ?_⟩)⟩
          · simp only [q_set]; rfl
          · unfold q_g0; simp only [q_set]; rfl
          · simp only [q_set]; rfl
          · unfold q_g0; simp only [q_set]; rfl
        · rw [if_neg c8, if_neg c8]
          refine ⟨a, ?_, ?_, ha, Or.inr (Or.inr ⟨⟨e, he.2.1, ?_, ?_⟩, Or.inl ⟨?_, ?_, ?_⟩⟩)⟩
          · simp only [q_set]; rfl
          · unfold q_g0; simp only [q_set]; rfl
          · simp only [q_set]; rfl
          · unfold q_g0; simp only [q_set]; rfl
          · simp only [q_set]; rfl
          · unfold q_g0; simp only [q_set]; rfl
          · unfold q_setl
            rw [if_pos rfl, if_pos rfl, show min (e - a) 8 = e - a by omega]
    · by_cases cd : qDig (b a)
      · obtain ⟨e, he⟩ := end_ex (P := qDig) (b := b) ha
        have hmn := m_next_n (K := K) hm hb2 hn h7 h8 h9 hs c cd he
        refine ⟨_, _, _, K 240, c_next_n hr hb hn h1 h2 hs c cd he, by rw [← hK]; exact hmn, ?_, fun k hk => ?_, ?_, ?_⟩
        · simp only [q_set]; exact h1
        · split
          · rw [q_set_ne (by omega), q_set_ne (by omega)]; exact hout k hk
          · rw [q_set_ne (by omega), q_set_ne (by omega), q_set_ne (by omega)]; exact hout k hk
        · by_cases c8 : 3 < e - a
          · rw [if_pos c8]; unfold q_g0; exact (show ¬ (0 : Int32) = 5 by decide)
          · rw [if_neg c8]; exact (show ¬ (3 : Int32) = 5 by decide)
        · unfold qTk
          rw [t1, t2]
          by_cases c8 : 3 < e - a
          · rw [if_pos c8, if_pos c8]
            refine ⟨a, ?_, ?_, ha, Or.inr (Or.inl ⟨?_, ?_⟩)⟩
            · simp only [q_set]; rfl
            · unfold q_g0; simp only [q_set]; rfl
            · simp only [q_set]; rfl
            · unfold q_g0; simp only [q_set]; rfl
          · rw [if_neg c8, if_neg c8]
            refine ⟨a, ?_, ?_, ha, Or.inr (Or.inr ⟨⟨e, he.2.1, ?_, ?_⟩, Or.inr (Or.inl ⟨?_, ?_, ?_⟩)⟩)⟩
            · simp only [q_set]; rfl
            · unfold q_g0; simp only [q_set]; rfl
            · simp only [q_set]; rfl
            · unfold q_g0; simp only [q_set]; rfl
            · simp only [q_set]; rfl
            · unfold q_g0; simp only [q_set]; rfl
            · unfold q_g0
              rw [show min (e - a) 3 = e - a by omega]
              simp only [q_set]
              rfl
      · have hmn := m_next_o (K := K) hm hb2 hn h7 h8 h9 hs c cl cd
        refine ⟨_, _, _, K 240, c_next_o hr hb hn h1 h2 hs c cl cd, by rw [← hK]; exact hmn, ?_, fun k hk => ?_, ?_, ?_⟩
        · simp only [q_set]; exact h1
        · split
          · rw [q_set_ne (by omega), q_set_ne (by omega), q_set_ne (by omega)]; exact hout k hk
          · exact hout k hk
        · split
          · exact (show ¬ (4 : Int32) = 5 by decide)
          · unfold q_g0; exact (show ¬ (0 : Int32) = 5 by decide)
        · unfold qTk
          rw [t1, t2]
          by_cases c59 : b a = 59
          · rw [if_pos c59, if_pos (Or.inl c59), c59]
            refine ⟨a, ?_, ?_, ha, Or.inr (Or.inr ⟨⟨a + 1, by omega, ?_, ?_⟩, Or.inr (Or.inr (Or.inl ⟨?_, ?_, ?_⟩))⟩)⟩
            · simp only [q_set]; rfl
            · unfold q_g0; simp only [q_set]; rfl
            · simp only [q_set]; rfl
            · unfold q_g0; simp only [q_set]; rfl
            · simp only [q_set]; rfl
            · unfold q_g0; simp only [q_set]; rfl
            · unfold q_g0; simp only [q_set]; rfl
          · by_cases c44 : b a = 44
            · rw [if_neg c59, if_pos c44, if_pos (Or.inr c44), c44]
              refine ⟨a, ?_, ?_, ha, Or.inr (Or.inr ⟨⟨a + 1, by omega, ?_, ?_⟩, Or.inr (Or.inr (Or.inr ⟨?_, ?_, ?_⟩))⟩)⟩
              · simp only [q_set]; rfl
              · unfold q_g0; simp only [q_set]; rfl
              · simp only [q_set]; rfl
              · unfold q_g0; simp only [q_set]; rfl
              · simp only [q_set]; rfl
              · unfold q_g0; simp only [q_set]; rfl
              · unfold q_g0; simp only [q_set]; rfl
            · rw [if_neg c59, if_neg c44, if_neg (fun z => z.elim c59 c44)]
              refine ⟨a, ?_, ?_, ha, Or.inr (Or.inl ⟨?_, ?_⟩)⟩
              · simp only [q_set]; rfl
              · unfold q_g0; simp only [q_set]; rfl
              · simp only [q_set]; rfl
              · unfold q_g0; simp only [q_set]; rfl
  · have e1 := c_next0 (L := L) hr hb hn h1 h2 hs
    have e2 := m_next0 (K := K) hm hb2 hn h7 h8 h9 hs
    rw [if_neg c] at e1 e2
    refine ⟨_, _, _, K 240, e1, by rw [← hK]; exact e2, ?_, fun k hk => ?_, ?_, ?_⟩
    · simp only [q_set]; exact h1
    · rw [q_set_ne (by omega)]; exact hout k hk
    · exact (show ¬ (1 : Int32) = 5 by decide)
    · unfold qTk
      rw [t1, t2]
      refine ⟨a, ?_, ?_, ha, Or.inl ⟨?_, ?_⟩⟩
      · simp only [q_set]; rfl
      · unfold q_g0; simp only [q_set]; rfl
      · simp only [q_set]; rfl
      · simp only [q_set]; rfl
