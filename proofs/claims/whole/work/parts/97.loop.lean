/-! READING: all the lines -/
theorem mu_bd {D E : Nat → Nat → Int32} {C : Nat → Nat} (h : qFy D E C) : qMu C ≤ 81 := by
  have a3 : C 3 ≤ 8 := (h.1.1 3 (by omega)).2
  have a4 : C 4 ≤ 14 := (h.1.1 4 (by omega)).2
  have a5 : C 5 ≤ 6 := (h.1.1 5 (by omega)).2
  have a6 : C 6 ≤ 8 := (h.1.1 6 (by omega)).2
  have a7 : C 7 ≤ 6 := (h.1.1 7 (by omega)).2
  have a8 : C 8 ≤ 6 := (h.1.1 8 (by omega)).2
  have a9 : C 9 ≤ 10 := (h.1.1 9 (by omega)).2
  have a10 : C 10 ≤ 10 := (h.1.1 10 (by omega)).2
  have a11 : C 11 ≤ 6 := (h.1.1 11 (by omega)).2
  have a12 : C 12 ≤ 6 := by rw [← h.2.2.2.2.1.2.2]; exact cnt_le 6
  unfold qMu
  split <;> omega
/-- both have read a text: well, or with a fault -/
def qRead (X : Option (Option Value × jM)) (Y : Option (Option Value × jM)) (s s2 : qS) (t f n : Nat) (I0 : qI) (L0 : qL) (J0 : qI) (K0 : qL) : Prop := (∃ C I' L' J' K', X = some (some (.int 1), I', L', s) ∧ Y = some (none, J', K', s2) ∧ qGo (qZp t f 0 C) t f n I0 L0 J0 K0 I' L' J' K' ∧ C 0 ≠ 0 ∧ C 5 ≠ 0) ∨ ∃ I' L' J' K', X = some (some (.int 0), I', L', s) ∧ Y = some (none, J', K', s2) ∧ qFa t f n I0 L0 J0 K0 I' L' J' K'
section PLo
variable {s s2 : qS} {t f n : Nat} {b : Nat → Nat} {I0 J0 I J : qI} {L0 K0 L K : qL} {C : Nat → Nat}
theorem z218_3 (hm : qMo s2 240) (h4 : qr s2 240 4 = f) (hf : qMf s2 f) (h0 : f ≠ 0) (h : J 240 9 = 5) : jd 218 3 [some (.ref 240), none] [] (J, K, s2) = some (none, J, K, s2) := by
  rw [E_218_3]
  by_cases c : J f 5 = 0
  · simp only [↓reduceIte, q_i, q_l, q_k, q_r, q_z, q_si, q_sl, jx_lt, jx_ri, jx_rl, jx_rv, if_true, if_false, Nat.reduceLeDiff, Nat.add_one_ne_zero, and_self, true_or, or_true, Nat.reduceEqDiff, or_self, or_false, false_or, mo_k hm, h4, h0, mf_k hf, c, z203 hm h, E_218_4]
  · simp only [↓reduceIte, q_i, q_l, q_k, q_r, q_z, q_si, q_sl, jx_lt, jx_ri, jx_rl, jx_rv, if_true, if_false, Nat.reduceLeDiff, Nat.add_one_ne_zero, and_self, true_or, or_true, Nat.reduceEqDiff, or_self, or_false, false_or, mo_k hm, h4, h0, mf_k hf, c, E_218_4]
theorem loop_rel (cx : qCx s s2 t f n b I0 J0) : ∀ m j C I L J K, j + m = 82 → qMu C = j → qGo (qZp t f 0 C) t f n I0 L0 J0 K0 I L J K → qRead (jx_ri (jD 53 [.ref 181] (I, L, s)) fun v M => jd 50 1 [some (.ref 181), none, none, some (.int v), some (.int (w j))] [] M) (jd 218 1 [some (.ref 240), some (.int 1)] [] (J, K, s2)) s s2 t f n I0 L0 J0 K0 := by
  obtain ⟨hr, hn, -, hm, h4, hf, hf0, hf9, -, -, htx⟩ := id cx
  obtain ⟨k6, r0, r1, r2, r3, r5, k182, z182, row2, row3, k7, r7, rt, hfl, ht⟩ := id hr
  have t0 : ¬ t = 0 := by omega
  intro m
  induction m with
  | zero =>
    intro j C I L J K hj hmu hg
    have := mu_bd hg.2.2.2.2.2
    omega
  | succ m ih =>
    intro j C I L J K hj hmu hg
    rcases line_any cx hg with ⟨C', I1, L1, J1, K1, a1, a2, g1, h0, hm1⟩ | ⟨I1, L1, J1, K1, a1, a2, fa⟩
    · have hx : (jx_ri (jD 53 [.ref 181] (I, L, s)) fun v M => jd 50 1 [some (.ref 181), none, none, some (.int v), some (.int (w j))] [] M) = jd 50 1 [some (.ref 181), none, none, some (.int 1), some (.int (w j))] [] (I1, L1, s) := by rw [a1]; rfl
      have hy : jd 218 1 [some (.ref 240), some (.int 1)] [] (J, K, s2) = jx_ri (jD 205 [.ref 240, .int 59] (J1, K1, s2)) fun v3 M2 => jd 218 1 [some (.ref 240), some (.int v3)] [] M2 := by
        rw [E_218_1, if_neg (by decide)]
        simp only [↓reduceIte, q_i, q_l, q_k, q_r, q_z, q_si, q_sl, jx_lt, jx_ri, jx_rl, jx_rv, if_true, if_false, Nat.reduceLeDiff, Nat.add_one_ne_zero, and_self, true_or, or_true, Nat.reduceEqDiff, or_self, or_false, false_or, mo_k hm, a2]
      obtain ⟨-, -, tk0, -, -, tk3, -⟩ := tk_sort g1.2.2.2.1
      have hlt : ¬ (1100 : Int32) ≤ w j := by rw [show (1100 : Int32) = w 1100 from rfl, w_le (by omega) (by omega)]; omega
      rw [hx]
      by_cases c3 : I1 187 4 = 3
      · obtain ⟨I2, L2, J2, K2, e2, d2, g2, -⟩ := go_next cx (zp_stab ht hf9) g1 (by rw [c3]; decide) (by rw [c3]; decide)
        have IH := ih (j + 1) C' I2 L2 J2 K2 (by omega) (by omega) g2
        have e50 : jd 50 1 [some (.ref 181), none, none, some (.int 1), some (.int (w j))] [] (I1, L1, s) = jx_ri (jD 53 [.ref 181] (I2, L2, s)) fun v M => jd 50 1 [some (.ref 181), none, none, some (.int v), some (.int (w (j + 1)))] [] M := by
          rw [E_50_1, if_neg hlt, if_neg (by decide)]
          simp only [↓reduceIte, q_i, q_l, q_k, q_r, q_z, q_si, q_sl, jx_lt, jx_ri, jx_rl, jx_rv, if_true, if_false, Nat.reduceLeDiff, Nat.add_one_ne_zero, and_self, true_or, or_true, Nat.reduceEqDiff, or_self, or_false, false_or, k6, r0, k7, c3, e2, w_inc]
        have e218 : jd 218 1 [some (.ref 240), some (.int 1)] [] (J, K, s2) = jd 218 1 [some (.ref 240), some (.int 1)] [] (J2, K2, s2) := by
          rw [hy, m205_y hm (tk3.mp c3).1 (tk3.mp c3).2 d2]
          rfl
        rw [e50, e218]
        exact IH
      · have e50 : jd 50 1 [some (.ref 181), none, none, some (.int 1), some (.int (w j))] [] (I1, L1, s) = jd 50 2 [some (.ref 181), none, none, some (.int 1), none] [] (I1, L1, s) := by
          rw [E_50_1, if_neg hlt, if_neg (by decide)]
          simp only [↓reduceIte, q_i, q_l, q_k, q_r, q_z, q_si, q_sl, jx_lt, jx_ri, jx_rl, jx_rv, if_true, if_false, Nat.reduceLeDiff, Nat.add_one_ne_zero, and_self, true_or, or_true, Nat.reduceEqDiff, or_self, or_false, false_or, k6, r0, k7, c3]
        have e218 : jd 218 1 [some (.ref 240), some (.int 1)] [] (J, K, s2) = jd 218 2 [some (.ref 240), none] [] (J1, K1, s2) := by
          rw [hy, m205_n hm (fun z => c3 (tk3.mpr z))]
          show jd 218 1 [some (.ref 240), some (.int 0)] [] (J1, K1, s2) = _
          rw [E_218_1, if_pos rfl]
        rw [e50, e218]
        by_cases c0 : I1 187 4 = 0
        · have hI5 : qd I1 t 0 5 = w (C' 5) := (g1.2.2.2.2.2.1.1 5 (by omega)).1
          have hJ5 : J1 f 5 = w (C' 5) := zp_m g1.2.2.2.2 (by omega)
          have l5 : C' 5 ≤ 6 := (g1.2.2.2.2.2.1.1 5 (by omega)).2
          by_cases c5 : C' 5 = 0
          · right
            rw [c5] at hI5 hJ5
            have hI5' : qd I1 t 0 5 = 0 := hI5
            have hJ5' : J1 f 5 = 0 := hJ5
            refine ⟨_, _, _, _, ?_, ?_, go_fault cx g1 (r := 6) (by decide) (by decide)⟩
            · rw [E_50_2, if_neg (by decide)]
              simp only [↓reduceIte, q_i, q_l, q_k, q_r, q_z, q_si, q_sl, jx_lt, jx_ri, jx_rl, jx_rv, if_true, if_false, Nat.reduceLeDiff, Nat.add_one_ne_zero, and_self, true_or, or_true, Nat.reduceEqDiff, or_self, or_false, false_or, k6, r0, k7, c0]
              rw [E_50_3, if_neg (by decide)]
              simp only [↓reduceIte, q_i, q_l, q_k, q_r, q_z, q_si, q_sl, jx_lt, jx_ri, jx_rl, jx_rv, if_true, if_false, Nat.reduceLeDiff, Nat.add_one_ne_zero, and_self, true_or, or_true, Nat.reduceEqDiff, or_self, or_false, false_or, k6, r5, t0, hfl.1, umbs_eq hfl, hI5']
              simp only [↓reduceIte, q_i, q_l, q_k, q_r, q_z, q_si, q_sl, jx_lt, jx_ri, jx_rl, jx_rv, if_true, if_false, Nat.reduceLeDiff, Nat.add_one_ne_zero, and_self, true_or, or_true, Nat.reduceEqDiff, or_self, or_false, false_or, k6, show (6 : Int32) = w 6 from rfl, c51 hr]
            · rw [E_218_2]
              simp only [↓reduceIte, q_i, q_l, q_k, q_r, q_z, q_si, q_sl, jx_lt, jx_ri, jx_rl, jx_rv, if_true, if_false, Nat.reduceLeDiff, Nat.add_one_ne_zero, and_self, true_or, or_true, Nat.reduceEqDiff, or_self, or_false, false_or, mo_k hm, tk0.mp c0]
              rw [E_218_3]
              simp only [↓reduceIte, q_i, q_l, q_k, q_r, q_z, q_si, q_sl, jx_lt, jx_ri, jx_rl, jx_rv, if_true, if_false, Nat.reduceLeDiff, Nat.add_one_ne_zero, and_self, true_or, or_true, Nat.reduceEqDiff, or_self, or_false, false_or, mo_k hm, h4, hf0, mf_k hf, hJ5']
              simp only [↓reduceIte, q_i, q_l, q_k, q_r, q_z, q_si, q_sl, jx_lt, jx_ri, jx_rl, jx_rv, if_true, if_false, Nat.reduceLeDiff, Nat.add_one_ne_zero, and_self, true_or, or_true, Nat.reduceEqDiff, or_self, or_false, false_or, mo_k hm, show (6 : Int32) = w 6 from rfl, m203 hm g1.2.2.1, E_218_4]
          · left
            have c5' : ¬ w (C' 5) = (0 : Int32) := fun z => c5 ((w_zero (by omega)).mp z)
            refine ⟨C', I1, L1, J1, K1, ?_, ?_, g1, h0, c5⟩
            · rw [E_50_2, if_neg (by decide)]
              simp only [↓reduceIte, q_i, q_l, q_k, q_r, q_z, q_si, q_sl, jx_lt, jx_ri, jx_rl, jx_rv, if_true, if_false, Nat.reduceLeDiff, Nat.add_one_ne_zero, and_self, true_or, or_true, Nat.reduceEqDiff, or_self, or_false, false_or, k6, r0, k7, c0]
              rw [E_50_3, if_neg (by decide)]
              simp only [↓reduceIte, q_i, q_l, q_k, q_r, q_z, q_si, q_sl, jx_lt, jx_ri, jx_rl, jx_rv, if_true, if_false, Nat.reduceLeDiff, Nat.add_one_ne_zero, and_self, true_or, or_true, Nat.reduceEqDiff, or_self, or_false, false_or, k6, r5, t0, hfl.1, umbs_eq hfl, hI5, c5']
              rw [E_50_4, if_pos (Or.inr rfl)]
            · rw [E_218_2]
              simp only [↓reduceIte, q_i, q_l, q_k, q_r, q_z, q_si, q_sl, jx_lt, jx_ri, jx_rl, jx_rv, if_true, if_false, Nat.reduceLeDiff, Nat.add_one_ne_zero, and_self, true_or, or_true, Nat.reduceEqDiff, or_self, or_false, false_or, mo_k hm, tk0.mp c0]
              rw [E_218_3]
              simp only [↓reduceIte, q_i, q_l, q_k, q_r, q_z, q_si, q_sl, jx_lt, jx_ri, jx_rl, jx_rv, if_true, if_false, Nat.reduceLeDiff, Nat.add_one_ne_zero, and_self, true_or, or_true, Nat.reduceEqDiff, or_self, or_false, false_or, mo_k hm, h4, hf0, mf_k hf, hJ5, c5', E_218_4]
        · right
          have fa := go_fault cx g1 (r := 1) (by decide) (by decide)
          refine ⟨_, _, _, _, ?_, ?_, fa⟩
          · rw [E_50_2, if_neg (by decide)]
            simp only [↓reduceIte, q_i, q_l, q_k, q_r, q_z, q_si, q_sl, jx_lt, jx_ri, jx_rl, jx_rv, if_true, if_false, Nat.reduceLeDiff, Nat.add_one_ne_zero, and_self, true_or, or_true, Nat.reduceEqDiff, or_self, or_false, false_or, k6, r0, k7, c0]
            simp only [↓reduceIte, q_i, q_l, q_k, q_r, q_z, q_si, q_sl, jx_lt, jx_ri, jx_rl, jx_rv, if_true, if_false, Nat.reduceLeDiff, Nat.add_one_ne_zero, and_self, true_or, or_true, Nat.reduceEqDiff, or_self, or_false, false_or, k6, show (1 : Int32) = w 1 from rfl, c51 hr]
          · have c9 : ¬ J1 240 9 = 1 := fun z => c0 (tk0.mpr z)
            rw [E_218_2]
            simp only [↓reduceIte, q_i, q_l, q_k, q_r, q_z, q_si, q_sl, jx_lt, jx_ri, jx_rl, jx_rv, if_true, if_false, Nat.reduceLeDiff, Nat.add_one_ne_zero, and_self, true_or, or_true, Nat.reduceEqDiff, or_self, or_false, false_or, mo_k hm, c9]
            simp only [↓reduceIte, q_i, q_l, q_k, q_r, q_z, q_si, q_sl, jx_lt, jx_ri, jx_rl, jx_rv, if_true, if_false, Nat.reduceLeDiff, Nat.add_one_ne_zero, and_self, true_or, or_true, Nat.reduceEqDiff, or_self, or_false, false_or, mo_k hm, show (1 : Int32) = w 1 from rfl, m203 hm g1.2.2.1]
            exact z218_3 hm h4 hf hf0 (fa_5 fa)
    · right
      have h5 := fa_5 fa
      refine ⟨I1, L1, J1, K1, ?_, ?_, fa⟩
      · rw [a1]
        show jd 50 1 [some (.ref 181), none, none, some (.int 0), some (.int (w j))] [] (I1, L1, s) = _
        have hlt : ¬ (1100 : Int32) ≤ w j := by rw [show (1100 : Int32) = w 1100 from rfl, w_le (by omega) (by omega)]; omega
        rw [E_50_1, if_neg hlt, if_pos rfl, E_50_2, if_pos rfl, E_50_3, if_pos rfl, E_50_4, if_pos (Or.inl rfl)]
      · rw [E_218_1, if_neg (by decide)]
        simp only [↓reduceIte, q_i, q_l, q_k, q_r, q_z, q_si, q_sl, jx_lt, jx_ri, jx_rl, jx_rv, if_true, if_false, Nat.reduceLeDiff, Nat.add_one_ne_zero, and_self, true_or, or_true, Nat.reduceEqDiff, or_self, or_false, false_or, mo_k hm, a2, z205 hm h5]
        rw [E_218_1, if_pos rfl, E_218_2]
        simp only [↓reduceIte, q_i, q_l, q_k, q_r, q_z, q_si, q_sl, jx_lt, jx_ri, jx_rl, jx_rv, if_true, if_false, Nat.reduceLeDiff, Nat.add_one_ne_zero, and_self, true_or, or_true, Nat.reduceEqDiff, or_self, or_false, false_or, mo_k hm, h5, show ¬ (5 : Int32) = 1 by decide, z203 hm h5]
        exact z218_3 hm h4 hf hf0 h5
end PLo
