/-! READING: the line of an umbrella, both sides -/
section PUm
variable {s s2 : qS} {t f n : Nat} {b : Nat → Nat} {I0 J0 I J : qI} {L0 K0 L K : qL} {Z : qI → qL → qI → qL → Prop} {C : Nat → Nat} {c : Nat}
noncomputable def qK0 (x : Int64) (M : jM) : Option (Option Value × jM) := jx_ri (jD 204 [.ref 240, .ref 49] M) fun v5 M4 => if v5 = 0 then jd 223 1 [some (.ref 240), some (.long x), none, none, none, none, none] [] M4 else jd 223 6 [some (.ref 240), some (.long x), none, none, none, none, none] [.int 0] M4
theorem kinds_rel (cx : qCx s s2 t f n b I0 J0) (h : qGo Z t f n I0 L0 J0 K0 I L J K) : (∃ k, k < 5 ∧ I 187 4 = 1 ∧ jD 59 [.ref 181] (I, L, s) = some (some (.int (w k)), I, L, s) ∧ ∀ x, qK0 x (J, K, s2) = jd 223 6 [some (.ref 240), some (.long x), none, none, none, none, none] [.int (w k)] (J, K, s2)) ∨ (jD 59 [.ref 181] (I, L, s) = some (some (.int (-1)), I, L, s) ∧ ∀ x, qK0 x (J, K, s2) = jd 223 6 [some (.ref 240), some (.long x), none, none, none, none, none] [.int (-1)] (J, K, s2)) := by
  obtain ⟨hr, hn, -, hm, h4, hf, hf0, hf9, -, -, htx⟩ := id cx
  obtain ⟨k6, r0, r1, r2, r3, r5, k182, z182, row2, row3, k7, r7, rt, hfl, ht⟩ := id hr
  have c20 := c_is (I := I) (L := L) hr (c := 20) (by decide) (htx 20 (by decide) (by decide)).1
  have m49 := m_is (J := J) (K := K) hm (c := 49) (by decide) (htx 49 (by decide) (by decide)).2
  have q0 := is_rel h.2.2.2.1 (c := 20) (m := 49) t13.2.2.2.2.2.2.2.2.1
  have c21 := c_is (I := I) (L := L) hr (c := 21) (by decide) (htx 21 (by decide) (by decide)).1
  have m50 := m_is (J := J) (K := K) hm (c := 50) (by decide) (htx 50 (by decide) (by decide)).2
  have q1 := is_rel h.2.2.2.1 (c := 21) (m := 50) t13.2.2.2.2.2.2.2.2.2.1
  have c22 := c_is (I := I) (L := L) hr (c := 22) (by decide) (htx 22 (by decide) (by decide)).1
  have m51 := m_is (J := J) (K := K) hm (c := 51) (by decide) (htx 51 (by decide) (by decide)).2
  have q2 := is_rel h.2.2.2.1 (c := 22) (m := 51) t13.2.2.2.2.2.2.2.2.2.2.1
  have c23 := c_is (I := I) (L := L) hr (c := 23) (by decide) (htx 23 (by decide) (by decide)).1
  have m52 := m_is (J := J) (K := K) hm (c := 52) (by decide) (htx 52 (by decide) (by decide)).2
  have q3 := is_rel h.2.2.2.1 (c := 23) (m := 52) t13.2.2.2.2.2.2.2.2.2.2.2.1
  have c24 := c_is (I := I) (L := L) hr (c := 24) (by decide) (htx 24 (by decide) (by decide)).1
  have m53 := m_is (J := J) (K := K) hm (c := 53) (by decide) (htx 53 (by decide) (by decide)).2
  have q4 := is_rel h.2.2.2.1 (c := 24) (m := 53) t13.2.2.2.2.2.2.2.2.2.2.2.2.1
  by_cases p0 : J 240 9 = 2 ∧ K 240 15 = q_tm 49
  · rw [if_pos (q0.mpr p0)] at c20
    rw [if_pos p0] at m49
    left
    refine ⟨0, by decide, (q0.mpr p0).1, ?_, fun x => ?_⟩
    · rw [D_59, E_59_0]
      simp only [↓reduceIte, q_i, q_l, q_k, q_r, q_z, q_si, q_sl, jx_lt, jx_ri, jx_rl, jx_rv, if_true, if_false, Nat.reduceLeDiff, Nat.add_one_ne_zero, and_self, true_or, or_true, Nat.reduceEqDiff, or_self, or_false, false_or, k6, r0, k7, c20, show ¬ (1 : Int32) = 0 by decide]
      try rfl
    · unfold qK0
      simp only [↓reduceIte, q_i, q_l, q_k, q_r, q_z, q_si, q_sl, jx_lt, jx_ri, jx_rl, jx_rv, if_true, if_false, Nat.reduceLeDiff, Nat.add_one_ne_zero, and_self, true_or, or_true, Nat.reduceEqDiff, or_self, or_false, false_or, m49, show ¬ (1 : Int32) = 0 by decide]
      try rfl
  · rw [if_neg (fun z => p0 (q0.mp z))] at c20
    rw [if_neg p0] at m49
    by_cases p1 : J 240 9 = 2 ∧ K 240 15 = q_tm 50
    · rw [if_pos (q1.mpr p1)] at c21
      rw [if_pos p1] at m50
      left
      refine ⟨1, by decide, (q1.mpr p1).1, ?_, fun x => ?_⟩
      · rw [D_59, E_59_0]
        simp only [↓reduceIte, q_i, q_l, q_k, q_r, q_z, q_si, q_sl, jx_lt, jx_ri, jx_rl, jx_rv, if_true, if_false, Nat.reduceLeDiff, Nat.add_one_ne_zero, and_self, true_or, or_true, Nat.reduceEqDiff, or_self, or_false, false_or, k6, r0, k7, c20]
        rw [E_59_1]
        simp only [↓reduceIte, q_i, q_l, q_k, q_r, q_z, q_si, q_sl, jx_lt, jx_ri, jx_rl, jx_rv, if_true, if_false, Nat.reduceLeDiff, Nat.add_one_ne_zero, and_self, true_or, or_true, Nat.reduceEqDiff, or_self, or_false, false_or, k6, r0, k7, c21, show ¬ (1 : Int32) = 0 by decide]
        try rfl
      · unfold qK0
        simp only [↓reduceIte, q_i, q_l, q_k, q_r, q_z, q_si, q_sl, jx_lt, jx_ri, jx_rl, jx_rv, if_true, if_false, Nat.reduceLeDiff, Nat.add_one_ne_zero, and_self, true_or, or_true, Nat.reduceEqDiff, or_self, or_false, false_or, m49]
        rw [E_223_1]
        simp only [↓reduceIte, q_i, q_l, q_k, q_r, q_z, q_si, q_sl, jx_lt, jx_ri, jx_rl, jx_rv, if_true, if_false, Nat.reduceLeDiff, Nat.add_one_ne_zero, and_self, true_or, or_true, Nat.reduceEqDiff, or_self, or_false, false_or, mo_k hm, m50, show ¬ (1 : Int32) = 0 by decide]
        try rfl
    · rw [if_neg (fun z => p1 (q1.mp z))] at c21
      rw [if_neg p1] at m50
      by_cases p2 : J 240 9 = 2 ∧ K 240 15 = q_tm 51
      · rw [if_pos (q2.mpr p2)] at c22
        rw [if_pos p2] at m51
        left
        refine ⟨2, by decide, (q2.mpr p2).1, ?_, fun x => ?_⟩
        · rw [D_59, E_59_0]
          simp only [↓reduceIte, q_i, q_l, q_k, q_r, q_z, q_si, q_sl, jx_lt, jx_ri, jx_rl, jx_rv, if_true, if_false, Nat.reduceLeDiff, Nat.add_one_ne_zero, and_self, true_or, or_true, Nat.reduceEqDiff, or_self, or_false, false_or, k6, r0, k7, c20]
          rw [E_59_1]
          simp only [↓reduceIte, q_i, q_l, q_k, q_r, q_z, q_si, q_sl, jx_lt, jx_ri, jx_rl, jx_rv, if_true, if_false, Nat.reduceLeDiff, Nat.add_one_ne_zero, and_self, true_or, or_true, Nat.reduceEqDiff, or_self, or_false, false_or, k6, r0, k7, c21]
          rw [E_59_2]
          simp only [↓reduceIte, q_i, q_l, q_k, q_r, q_z, q_si, q_sl, jx_lt, jx_ri, jx_rl, jx_rv, if_true, if_false, Nat.reduceLeDiff, Nat.add_one_ne_zero, and_self, true_or, or_true, Nat.reduceEqDiff, or_self, or_false, false_or, k6, r0, k7, c22, show ¬ (1 : Int32) = 0 by decide]
          try rfl
        · unfold qK0
          simp only [↓reduceIte, q_i, q_l, q_k, q_r, q_z, q_si, q_sl, jx_lt, jx_ri, jx_rl, jx_rv, if_true, if_false, Nat.reduceLeDiff, Nat.add_one_ne_zero, and_self, true_or, or_true, Nat.reduceEqDiff, or_self, or_false, false_or, m49]
          rw [E_223_1]
          simp only [↓reduceIte, q_i, q_l, q_k, q_r, q_z, q_si, q_sl, jx_lt, jx_ri, jx_rl, jx_rv, if_true, if_false, Nat.reduceLeDiff, Nat.add_one_ne_zero, and_self, true_or, or_true, Nat.reduceEqDiff, or_self, or_false, false_or, mo_k hm, m50]
          rw [E_223_2]
          simp only [↓reduceIte, q_i, q_l, q_k, q_r, q_z, q_si, q_sl, jx_lt, jx_ri, jx_rl, jx_rv, if_true, if_false, Nat.reduceLeDiff, Nat.add_one_ne_zero, and_self, true_or, or_true, Nat.reduceEqDiff, or_self, or_false, false_or, mo_k hm, m51, show ¬ (1 : Int32) = 0 by decide]
          try rfl
      · rw [if_neg (fun z => p2 (q2.mp z))] at c22
        rw [if_neg p2] at m51
        by_cases p3 : J 240 9 = 2 ∧ K 240 15 = q_tm 52
        · rw [if_pos (q3.mpr p3)] at c23
          rw [if_pos p3] at m52
          left
          refine ⟨3, by decide, (q3.mpr p3).1, ?_, fun x => ?_⟩
          · rw [D_59, E_59_0]
            simp only [↓reduceIte, q_i, q_l, q_k, q_r, q_z, q_si, q_sl, jx_lt, jx_ri, jx_rl, jx_rv, if_true, if_false, Nat.reduceLeDiff, Nat.add_one_ne_zero, and_self, true_or, or_true, Nat.reduceEqDiff, or_self, or_false, false_or, k6, r0, k7, c20]
            rw [E_59_1]
            simp only [↓reduceIte, q_i, q_l, q_k, q_r, q_z, q_si, q_sl, jx_lt, jx_ri, jx_rl, jx_rv, if_true, if_false, Nat.reduceLeDiff, Nat.add_one_ne_zero, and_self, true_or, or_true, Nat.reduceEqDiff, or_self, or_false, false_or, k6, r0, k7, c21]
            rw [E_59_2]
            simp only [↓reduceIte, q_i, q_l, q_k, q_r, q_z, q_si, q_sl, jx_lt, jx_ri, jx_rl, jx_rv, if_true, if_false, Nat.reduceLeDiff, Nat.add_one_ne_zero, and_self, true_or, or_true, Nat.reduceEqDiff, or_self, or_false, false_or, k6, r0, k7, c22]
            rw [E_59_3]
            simp only [↓reduceIte, q_i, q_l, q_k, q_r, q_z, q_si, q_sl, jx_lt, jx_ri, jx_rl, jx_rv, if_true, if_false, Nat.reduceLeDiff, Nat.add_one_ne_zero, and_self, true_or, or_true, Nat.reduceEqDiff, or_self, or_false, false_or, k6, r0, k7, c23, show ¬ (1 : Int32) = 0 by decide]
            try rfl
          · unfold qK0
            simp only [↓reduceIte, q_i, q_l, q_k, q_r, q_z, q_si, q_sl, jx_lt, jx_ri, jx_rl, jx_rv, if_true, if_false, Nat.reduceLeDiff, Nat.add_one_ne_zero, and_self, true_or, or_true, Nat.reduceEqDiff, or_self, or_false, false_or, m49]
            rw [E_223_1]
            simp only [↓reduceIte, q_i, q_l, q_k, q_r, q_z, q_si, q_sl, jx_lt, jx_ri, jx_rl, jx_rv, if_true, if_false, Nat.reduceLeDiff, Nat.add_one_ne_zero, and_self, true_or, or_true, Nat.reduceEqDiff, or_self, or_false, false_or, mo_k hm, m50]
            rw [E_223_2]
            simp only [↓reduceIte, q_i, q_l, q_k, q_r, q_z, q_si, q_sl, jx_lt, jx_ri, jx_rl, jx_rv, if_true, if_false, Nat.reduceLeDiff, Nat.add_one_ne_zero, and_self, true_or, or_true, Nat.reduceEqDiff, or_self, or_false, false_or, mo_k hm, m51]
            rw [E_223_3]
            simp only [↓reduceIte, q_i, q_l, q_k, q_r, q_z, q_si, q_sl, jx_lt, jx_ri, jx_rl, jx_rv, if_true, if_false, Nat.reduceLeDiff, Nat.add_one_ne_zero, and_self, true_or, or_true, Nat.reduceEqDiff, or_self, or_false, false_or, mo_k hm, m52, show ¬ (1 : Int32) = 0 by decide]
            try rfl
        · rw [if_neg (fun z => p3 (q3.mp z))] at c23
          rw [if_neg p3] at m52
          by_cases p4 : J 240 9 = 2 ∧ K 240 15 = q_tm 53
          · rw [if_pos (q4.mpr p4)] at c24
            rw [if_pos p4] at m53
            left
            refine ⟨4, by decide, (q4.mpr p4).1, ?_, fun x => ?_⟩
            · rw [D_59, E_59_0]
              simp only [↓reduceIte, q_i, q_l, q_k, q_r, q_z, q_si, q_sl, jx_lt, jx_ri, jx_rl, jx_rv, if_true, if_false, Nat.reduceLeDiff, Nat.add_one_ne_zero, and_self, true_or, or_true, Nat.reduceEqDiff, or_self, or_false, false_or, k6, r0, k7, c20]
              rw [E_59_1]
              simp only [↓reduceIte, q_i, q_l, q_k, q_r, q_z, q_si, q_sl, jx_lt, jx_ri, jx_rl, jx_rv, if_true, if_false, Nat.reduceLeDiff, Nat.add_one_ne_zero, and_self, true_or, or_true, Nat.reduceEqDiff, or_self, or_false, false_or, k6, r0, k7, c21]
              rw [E_59_2]
              simp only [↓reduceIte, q_i, q_l, q_k, q_r, q_z, q_si, q_sl, jx_lt, jx_ri, jx_rl, jx_rv, if_true, if_false, Nat.reduceLeDiff, Nat.add_one_ne_zero, and_self, true_or, or_true, Nat.reduceEqDiff, or_self, or_false, false_or, k6, r0, k7, c22]
              rw [E_59_3]
              simp only [↓reduceIte, q_i, q_l, q_k, q_r, q_z, q_si, q_sl, jx_lt, jx_ri, jx_rl, jx_rv, if_true, if_false, Nat.reduceLeDiff, Nat.add_one_ne_zero, and_self, true_or, or_true, Nat.reduceEqDiff, or_self, or_false, false_or, k6, r0, k7, c23]
              rw [E_59_4]
              simp only [↓reduceIte, q_i, q_l, q_k, q_r, q_z, q_si, q_sl, jx_lt, jx_ri, jx_rl, jx_rv, if_true, if_false, Nat.reduceLeDiff, Nat.add_one_ne_zero, and_self, true_or, or_true, Nat.reduceEqDiff, or_self, or_false, false_or, k6, r0, k7, c24, show ¬ (1 : Int32) = 0 by decide]
              rw [E_59_6]
              try rfl
            · unfold qK0
              simp only [↓reduceIte, q_i, q_l, q_k, q_r, q_z, q_si, q_sl, jx_lt, jx_ri, jx_rl, jx_rv, if_true, if_false, Nat.reduceLeDiff, Nat.add_one_ne_zero, and_self, true_or, or_true, Nat.reduceEqDiff, or_self, or_false, false_or, m49]
              rw [E_223_1]
              simp only [↓reduceIte, q_i, q_l, q_k, q_r, q_z, q_si, q_sl, jx_lt, jx_ri, jx_rl, jx_rv, if_true, if_false, Nat.reduceLeDiff, Nat.add_one_ne_zero, and_self, true_or, or_true, Nat.reduceEqDiff, or_self, or_false, false_or, mo_k hm, m50]
              rw [E_223_2]
              simp only [↓reduceIte, q_i, q_l, q_k, q_r, q_z, q_si, q_sl, jx_lt, jx_ri, jx_rl, jx_rv, if_true, if_false, Nat.reduceLeDiff, Nat.add_one_ne_zero, and_self, true_or, or_true, Nat.reduceEqDiff, or_self, or_false, false_or, mo_k hm, m51]
              rw [E_223_3]
              simp only [↓reduceIte, q_i, q_l, q_k, q_r, q_z, q_si, q_sl, jx_lt, jx_ri, jx_rl, jx_rv, if_true, if_false, Nat.reduceLeDiff, Nat.add_one_ne_zero, and_self, true_or, or_true, Nat.reduceEqDiff, or_self, or_false, false_or, mo_k hm, m52]
              rw [E_223_4]
              simp only [↓reduceIte, q_i, q_l, q_k, q_r, q_z, q_si, q_sl, jx_lt, jx_ri, jx_rl, jx_rv, if_true, if_false, Nat.reduceLeDiff, Nat.add_one_ne_zero, and_self, true_or, or_true, Nat.reduceEqDiff, or_self, or_false, false_or, mo_k hm, m53, show ¬ (1 : Int32) = 0 by decide]
              try rfl
          · rw [if_neg (fun z => p4 (q4.mp z))] at c24
            rw [if_neg p4] at m53
            right
            refine ⟨?_, fun x => ?_⟩
            · rw [D_59, E_59_0]
              simp only [↓reduceIte, q_i, q_l, q_k, q_r, q_z, q_si, q_sl, jx_lt, jx_ri, jx_rl, jx_rv, if_true, if_false, Nat.reduceLeDiff, Nat.add_one_ne_zero, and_self, true_or, or_true, Nat.reduceEqDiff, or_self, or_false, false_or, k6, r0, k7, c20]
              rw [E_59_1]
              simp only [↓reduceIte, q_i, q_l, q_k, q_r, q_z, q_si, q_sl, jx_lt, jx_ri, jx_rl, jx_rv, if_true, if_false, Nat.reduceLeDiff, Nat.add_one_ne_zero, and_self, true_or, or_true, Nat.reduceEqDiff, or_self, or_false, false_or, k6, r0, k7, c21]
              rw [E_59_2]
              simp only [↓reduceIte, q_i, q_l, q_k, q_r, q_z, q_si, q_sl, jx_lt, jx_ri, jx_rl, jx_rv, if_true, if_false, Nat.reduceLeDiff, Nat.add_one_ne_zero, and_self, true_or, or_true, Nat.reduceEqDiff, or_self, or_false, false_or, k6, r0, k7, c22]
              rw [E_59_3]
              simp only [↓reduceIte, q_i, q_l, q_k, q_r, q_z, q_si, q_sl, jx_lt, jx_ri, jx_rl, jx_rv, if_true, if_false, Nat.reduceLeDiff, Nat.add_one_ne_zero, and_self, true_or, or_true, Nat.reduceEqDiff, or_self, or_false, false_or, k6, r0, k7, c23]
              rw [E_59_4]
              simp only [↓reduceIte, q_i, q_l, q_k, q_r, q_z, q_si, q_sl, jx_lt, jx_ri, jx_rl, jx_rv, if_true, if_false, Nat.reduceLeDiff, Nat.add_one_ne_zero, and_self, true_or, or_true, Nat.reduceEqDiff, or_self, or_false, false_or, k6, r0, k7, c24]
              rw [E_59_5, E_59_6]
            · unfold qK0
              simp only [↓reduceIte, q_i, q_l, q_k, q_r, q_z, q_si, q_sl, jx_lt, jx_ri, jx_rl, jx_rv, if_true, if_false, Nat.reduceLeDiff, Nat.add_one_ne_zero, and_self, true_or, or_true, Nat.reduceEqDiff, or_self, or_false, false_or, m49]
              rw [E_223_1]
              simp only [↓reduceIte, q_i, q_l, q_k, q_r, q_z, q_si, q_sl, jx_lt, jx_ri, jx_rl, jx_rv, if_true, if_false, Nat.reduceLeDiff, Nat.add_one_ne_zero, and_self, true_or, or_true, Nat.reduceEqDiff, or_self, or_false, false_or, mo_k hm, m50]
              rw [E_223_2]
              simp only [↓reduceIte, q_i, q_l, q_k, q_r, q_z, q_si, q_sl, jx_lt, jx_ri, jx_rl, jx_rv, if_true, if_false, Nat.reduceLeDiff, Nat.add_one_ne_zero, and_self, true_or, or_true, Nat.reduceEqDiff, or_self, or_false, false_or, mo_k hm, m51]
              rw [E_223_3]
              simp only [↓reduceIte, q_i, q_l, q_k, q_r, q_z, q_si, q_sl, jx_lt, jx_ri, jx_rl, jx_rv, if_true, if_false, Nat.reduceLeDiff, Nat.add_one_ne_zero, and_self, true_or, or_true, Nat.reduceEqDiff, or_self, or_false, false_or, mo_k hm, m52]
              rw [E_223_4]
              simp only [↓reduceIte, q_i, q_l, q_k, q_r, q_z, q_si, q_sl, jx_lt, jx_ri, jx_rl, jx_rv, if_true, if_false, Nat.reduceLeDiff, Nat.add_one_ne_zero, and_self, true_or, or_true, Nat.reduceEqDiff, or_self, or_false, false_or, mo_k hm, m53]
              rw [E_223_5]
/-- after a fault the rest of the line does nothing -/
theorem z223 (hm : qMo s2 240) (h4 : qr s2 240 4 = f) (hf : qMf s2 f) (h0 : f ≠ 0) (hc : c ≤ 20) (h13 : J f 13 = w c) (h : J 240 9 = 5) (x : Int64) (y : Int32) : jd 223 7 [some (.ref 240), some (.long x), none, some (.int y), none, none, none] [] (J, K, s2) = some (none, J, K, s2) := by
  rw [E_223_7]
  simp only [↓reduceIte, q_i, q_l, q_k, q_r, q_z, q_si, q_sl, jx_lt, jx_ri, jx_rl, jx_rv, if_true, if_false, Nat.reduceLeDiff, Nat.add_one_ne_zero, and_self, true_or, or_true, Nat.reduceEqDiff, or_self, or_false, false_or, mo_k hm, z202 hm h, z209 hm h, z206 hm h, z217 hm h4 hf h0 hc h13 h, h]
theorem z223a (hm : qMo s2 240) (h4 : qr s2 240 4 = f) (hf : qMf s2 f) (h0 : f ≠ 0) (hc : c ≤ 20) (h13 : J f 13 = w c) (h : J 240 9 = 5) (x : Int64) : qK0 x (J, K, s2) = some (none, J, K, s2) := by
  have z := fun m => z204 (J := J) (K := K) hm h m
  unfold qK0
  simp only [↓reduceIte, q_i, q_l, q_k, q_r, q_z, q_si, q_sl, jx_lt, jx_ri, jx_rl, jx_rv, if_true, if_false, Nat.reduceLeDiff, Nat.add_one_ne_zero, and_self, true_or, or_true, Nat.reduceEqDiff, or_self, or_false, false_or, z]
  rw [E_223_1]
  simp only [↓reduceIte, q_i, q_l, q_k, q_r, q_z, q_si, q_sl, jx_lt, jx_ri, jx_rl, jx_rv, if_true, if_false, Nat.reduceLeDiff, Nat.add_one_ne_zero, and_self, true_or, or_true, Nat.reduceEqDiff, or_self, or_false, false_or, mo_k hm, z]
  rw [E_223_2]
  simp only [↓reduceIte, q_i, q_l, q_k, q_r, q_z, q_si, q_sl, jx_lt, jx_ri, jx_rl, jx_rv, if_true, if_false, Nat.reduceLeDiff, Nat.add_one_ne_zero, and_self, true_or, or_true, Nat.reduceEqDiff, or_self, or_false, false_or, mo_k hm, z]
  rw [E_223_3]
  simp only [↓reduceIte, q_i, q_l, q_k, q_r, q_z, q_si, q_sl, jx_lt, jx_ri, jx_rl, jx_rv, if_true, if_false, Nat.reduceLeDiff, Nat.add_one_ne_zero, and_self, true_or, or_true, Nat.reduceEqDiff, or_self, or_false, false_or, mo_k hm, z]
  rw [E_223_4]
  simp only [↓reduceIte, q_i, q_l, q_k, q_r, q_z, q_si, q_sl, jx_lt, jx_ri, jx_rl, jx_rv, if_true, if_false, Nat.reduceLeDiff, Nat.add_one_ne_zero, and_self, true_or, or_true, Nat.reduceEqDiff, or_self, or_false, false_or, mo_k hm, z]
  rw [E_223_5, E_223_6, if_pos rfl]
  simp only [↓reduceIte, q_i, q_l, q_k, q_r, q_z, q_si, q_sl, jx_lt, jx_ri, jx_rl, jx_rv, if_true, if_false, Nat.reduceLeDiff, Nat.add_one_ne_zero, and_self, true_or, or_true, Nat.reduceEqDiff, or_self, or_false, false_or, mo_k hm, z203 hm h, z223 hm h4 hf h0 hc h13 h]
theorem line_umb (cx : qCx s s2 t f n b I0 J0) (h : qGo (qZp t f 0 C) t f n I0 L0 J0 K0 I L J K) (hk : I 187 4 = 1) (h0 : C 0 ≠ 0) (h6 : C 5 < 6) : qLine C (jd 53 7 [some (.ref 181), none, some (.int 5), none, none] [] (I, L, s)) (jD 223 [.ref 240] (J, K, s2)) s s2 t f n I0 L0 J0 K0 := by
  obtain ⟨hr, hn, -, hm, h4, hf, hf0, hf9, -, -, htx⟩ := id cx
  obtain ⟨k6, r0, r1, r2, r3, r5, k182, z182, row2, row3, k7, r7, rt, hfl, ht⟩ := id hr
  have t0 : ¬ t = 0 := by omega
  have r4' := fl_k hfl (k := 4) (n := 6) (by omega) rfl
  have r5' := fl_k hfl (k := 5) (n := 6) (by omega) rfl
  have r6' := fl_k hfl (k := 6) (n := 6) (by omega) rfl
  obtain ⟨I1, L1, J1, K1, e1, d1, g1, -⟩ := go_next cx (zp_stab ht hf9) h (by rw [hk]; decide) (by rw [hk]; decide)
  have l0 : C 0 ≤ 20 := (h.2.2.2.2.2.1.1 0 (by omega)).2
  have l3 : C 3 ≤ 8 := (h.2.2.2.2.2.1.1 3 (by omega)).2
  have l8 : C 8 ≤ 6 := (h.2.2.2.2.2.1.1 8 (by omega)).2
  obtain ⟨c, hc⟩ : ∃ c, c = C 3 + C 5 + C 8 := ⟨_, rfl⟩
  have hE0 : J f 0 ≠ 0 := by
    rw [zp_m h.2.2.2.2 (by omega)]
    exact fun z => h0 ((w_zero (by omega)).mp z)
  have hE5 : J f 5 = w (C 5) := zp_m h.2.2.2.2 (by omega)
  have hI5 : qd I1 t 0 5 = w (C 5) := (g1.2.2.2.2.2.1.1 5 (by omega)).1
  have e212 := m212_go (J := J) (K := K) (x := w (C 5)) (y := 6) hm h4 hf hf0 (fun z => by
    have := (w_eq (a := C 5) (b := 6) (by omega) (by omega)).mp z
    omega) hE0 d1
  have cl : jd 53 7 [some (.ref 181), none, some (.int 5), none, none] [] (I, L, s) = jd 53 12 [some (.ref 181), none, some (.int 5), none, none] [] (I1, L1, s) := by
    rw [E_53_7_5]
    simp only [↓reduceIte, q_i, q_l, q_k, q_r, q_z, q_si, q_sl, jx_lt, jx_ri, jx_rl, jx_rv, if_true, if_false, Nat.reduceLeDiff, Nat.add_one_ne_zero, and_self, true_or, or_true, Nat.reduceEqDiff, or_self, or_false, false_or, k6, r0, k7, e1]
  have fin0 : ∀ I' L', jD 58 [.ref 181, .int (w (C 5))] (I1, L1, s) = some (some (.int 0), I', L', s) → jd 53 7 [some (.ref 181), none, some (.int 5), none, none] [] (I, L, s) = some (some (.int 0), I', L', s) := fun I' L' e => by
    rw [cl, E_53_12]
    simp only [↓reduceIte, q_i, q_l, q_k, q_r, q_z, q_si, q_sl, jx_lt, jx_ri, jx_rl, jx_rv, if_true, if_false, Nat.reduceLeDiff, Nat.add_one_ne_zero, and_self, true_or, or_true, Nat.reduceEqDiff, or_self, or_false, false_or, k6, r5, t0, hfl.1, umbs_eq hfl, hI5, e]
    exact end_no
  have c6 : ∀ (M : jM) (x y z : Int32), jd 58 6 [some (.ref 181), some (.int x), some (.int y), some (.int z), none] [.int (-1)] M = some (some (.int 0), M) := fun M x y z => by
    rw [E_58_6, if_pos rfl, if_pos (Or.inl rfl)]
  have hna : qNa (C 3) (C 5) (C 8) c 0 f I1 L1 J1 K1 := by rw [hc]; exact g1.2.2.2.2.1
  have b223 : ∀ x J' K', jD 213 [.ref 240] (J1, K1, s2) = some (some (.long x), J', K', s2) → jD 223 [.ref 240] (J, K, s2) = qK0 x (J', K', s2) := fun x J' K' e => by
    rw [D_223, E_223_0]
    simp only [↓reduceIte, q_i, q_l, q_k, q_r, q_z, q_si, q_sl, jx_lt, jx_ri, jx_rl, jx_rv, if_true, if_false, Nat.reduceLeDiff, Nat.add_one_ne_zero, and_self, true_or, or_true, Nat.reduceEqDiff, or_self, or_false, false_or, mo_k hm, h4, hf0, mf_k hf, hE5, e212, e]
    rfl
  rcases go_new cx g1 hna (show c < 20 by omega) 5 (w (C 5)) with ⟨cs, h71, h213⟩ | ⟨x, I', J', h71, h213, fa⟩
  · have gn := go_nm (Z' := qZn t f c 5 (w (C 5)) (L1 187 5) (fun _ => True) C) cx g1 (m := 11 + c) (by omega) (zn_new ht g1.2.2.2.2 hc (by omega) trivial)
    have s187 : q_nI I1 (11 + c) 5 (w (C 5)) 187 = I1 187 := by
      unfold q_nI
      rw [q_up_ne (by decide), q_up_ne (by decide), q_up_ne (by decide)]
    obtain ⟨I3, L3, J3, K3, e3, d3, g3, -⟩ := go_next cx (zn_stab ht hf9) gn (by rw [s187, cs]; decide) (by rw [s187, cs]; decide)
    have e71 := h71 _ _ e3
    have d213 := b223 _ _ _ (h213 _ _ d3)
    generalize hx : L1 187 5 = x at gn g3 d213
    have hz : qStab (qZn t f c 5 (w (C 5)) x (fun _ => True) C) := zn_stab ht hf9
    have cd : jD 58 [.ref 181, .int (w (C 5))] (I1, L1, s) = jd 58 1 [some (.ref 181), some (.int (w (C 5))), none, none, none] [] (I3, L3, s) := by
      rw [D_58, E_58_0]
      simp only [↓reduceIte, q_i, q_l, q_k, q_r, q_z, q_si, q_sl, jx_lt, jx_ri, jx_rl, jx_rv, if_true, if_false, Nat.reduceLeDiff, Nat.add_one_ne_zero, and_self, true_or, or_true, Nat.reduceEqDiff, or_self, or_false, false_or, k6, e71, show ¬ (1 : Int32) = 0 by decide]
    rcases kinds_rel cx g3 with ⟨k, hk5, cs3, e59, k223⟩ | ⟨e59, k223⟩
    · have mk1 : ¬ w k = (-1 : Int32) := w_m1 (by omega)
      obtain ⟨I4, L4, J4, K4, e4, d4, g4, -⟩ := go_next cx hz g3 (by rw [cs3]; decide) (by rw [cs3]; decide)
      have ce : jD 58 [.ref 181, .int (w (C 5))] (I1, L1, s) = jx_ri (jD 68 [.ref 181, .ref 25] (I4, L4, s)) fun v3 M2 => if v3 = 0 then jd 58 3 [some (.ref 181), some (.int (w (C 5))), some (.int (w k)), none, none] [] M2 else if jm_k M2 181 = 6 then jx_ri (jD 69 [.ref 181, .int 0, .int 30] M2) fun v5 M4 => jd 58 4 [some (.ref 181), some (.int (w (C 5))), some (.int (w k)), none, none] [.int v5] M4 else none := by
        rw [cd, E_58_1]
        simp only [↓reduceIte, q_i, q_l, q_k, q_r, q_z, q_si, q_sl, jx_lt, jx_ri, jx_rl, jx_rv, if_true, if_false, Nat.reduceLeDiff, Nat.add_one_ne_zero, and_self, true_or, or_true, Nat.reduceEqDiff, or_self, or_false, false_or, k6, e59, mk1]
        rw [E_58_2]
        simp only [↓reduceIte, q_i, q_l, q_k, q_r, q_z, q_si, q_sl, jx_lt, jx_ri, jx_rl, jx_rv, if_true, if_false, Nat.reduceLeDiff, Nat.add_one_ne_zero, and_self, true_or, or_true, Nat.reduceEqDiff, or_self, or_false, false_or, k6, r0, k7, e4]
      have rf : jD 223 [.ref 240] (J, K, s2) = jx_ri (jD 209 [.ref 240, .ref 54, .int 0, .int 30] (J4, K4, s2)) fun v3 M2 => if jm_k M2 240 = 13 then jx_rv (jD 206 [.ref 240, .ref 55] M2) fun M4 => if jm_k M4 240 = 13 then jx_ri (jD 217 [.ref 240] M4) fun v6 M5 => if jm_k M5 240 = 13 then if jm_i M5 240 9 = 5 then some (none, M5) else jd 223 8 [some (.ref 240), some (.long x), none, some (.int (w k)), some (.int v3), some (.int v6), none] [] M5 else none else none else none := by
        rw [d213, k223, E_223_6, if_neg mk1, E_223_7]
        simp only [↓reduceIte, q_i, q_l, q_k, q_r, q_z, q_si, q_sl, jx_lt, jx_ri, jx_rl, jx_rv, if_true, if_false, Nat.reduceLeDiff, Nat.add_one_ne_zero, and_self, true_or, or_true, Nat.reduceEqDiff, or_self, or_false, false_or, mo_k hm, d4]
      rcases go_wnum cx hz g4 (c := 25) (m := 54) (by omega) (by omega) t13.2.2.2.2.2.2.2.2.2.2.2.2.2.1 0 30 with ⟨v3, Ib, Lb, I5, L5, J5, K5, a3, a4, b6, b7, b8, g5⟩ | ⟨u, I5, L5, J5, K5, b6, b8, fa⟩
      · have hv3 : ¬ v3 = -1 := fun z => a3 (by rw [z]; decide)
        rcases go_word cx hz g5 (c := 26) (m := 55) (by omega) (by omega) t13.2.2.2.2.2.2.2.2.2.2.2.2.2.2.1 with ⟨I6, L6, J6, K6, b9, c1, g6⟩ | ⟨I6, L6, J6, K6, b9, c1, fa⟩
        · have hna6 : qNa (C 3) (C 5) (C 8) c 1 f I6 L6 J6 K6 := by rw [hc]; exact g6.2.2.2.2.1.1
          rcases go_hall (c := c) (p := 1) cx hz g6 hna6 l3 (zp_st g6.2.2.2.2.1) (fun _ => by rw [g6.2.2.2.2.2.1]; decide) with ⟨a, I7, L7, J7, K7, ha, c2, c3, g7, -⟩ | ⟨y, I7, L7, J7, K7, c2, c3, fa⟩
          · left
            have m2 : ¬ w a = (-1 : Int32) := w_m1 (by omega)
            obtain ⟨q, rfl, -, qb⟩ := num_w (l := 0) (m := 30) (by omega) (by omega) a3 a4
            have hz7 := g7.2.2.2.2
            have hJ5 : J7 f 5 = w (C 5) := zp_m hz7.1 (by omega)
            have n4 : J7 f 13 = w c := by rw [hc]; exact hz7.1.1.2.2.2.1
            obtain ⟨C', cC, cO⟩ : ∃ C' : Nat → Nat, C' 5 = C 5 + 1 ∧ ∀ k, k ≠ 5 → C' k = C k := ⟨fun k => if k = 5 then C 5 + 1 else C k, rfl, fun k hk3 => if_neg hk3⟩
            obtain ⟨Ia, hIa⟩ : ∃ Ia, Ia = q_up (q_up (q_up I7 (t + 1 + 2 * 4 + 1) (q_set (I7 (t + 1 + 2 * 4 + 1)) (C 5) (w k))) (t + 1 + 2 * 5 + 1) (q_set (I7 (t + 1 + 2 * 5 + 1)) (C 5) (w q))) (t + 1 + 2 * 6 + 1) (q_set (I7 (t + 1 + 2 * 6 + 1)) (C 5) (w a)) := ⟨_, rfl⟩
            obtain ⟨J8, hJ8⟩ : ∃ J8, J8 = q_mI J7 f c 1 (w (C 5)) := ⟨_, rfl⟩
            have e214 : jD 214 [.ref 240, .long x, .int 1, .int (w (C 5))] (J7, K7, s2) = some (none, J8, q_mK K7 f c x, s2) := by
              rw [hJ8]
              exact m214 hm h4 hf hf0 (show c < 20 by omega) n4 x 1 (w (C 5))
            have o0 : ∀ a, a ≠ f → a ≠ f + 22 → a ≠ f + 23 → J8 a = J7 a := fun a x y z => by rw [hJ8, mI_o x y z]
            have of : J8 f = q_set (J7 f) 13 (w (c + 1)) := by rw [hJ8, mI_f]
            obtain ⟨Ja, hJa⟩ : ∃ Ja, Ja = q_up (q_up (q_up (q_up (q_up (q_up J8 (f + 4) (q_set (J7 (f + 4)) (C 5) (w k))) (f + 5) (q_set (J7 (f + 5)) (C 5) (w q))) (f + 6) (q_set (J7 (f + 6)) (C 5) (w a))) (f + 7) (q_set (J7 (f + 7)) (C 5) (-2))) (f + 10) (q_set (J7 (f + 10)) (C 5) (-2))) f (q_set (q_set (J7 f) 13 (w (c + 1))) 5 (w (C 5 + 1))) := ⟨_, rfl⟩
            have iz : Ia (t + 2) = I7 (t + 2) := by rw [hIa, q_up_ne (by omega), q_up_ne (by omega), q_up_ne (by omega)]
            have hIa5 : Ia (t + 2) 5 = w (C 5) := by rw [iz]; exact (zp_f hz7.1 (by omega)).1
            obtain ⟨Ib, hIb⟩ : ∃ Ib, Ib = q_up Ia (t + 2) (q_set (Ia (t + 2)) 5 (w (C 5 + 1))) := ⟨_, rfl⟩
            have ib : ∀ a, a ≠ t + 2 → a ≠ t + 1 + 2 * 4 + 1 → a ≠ t + 1 + 2 * 5 + 1 → a ≠ t + 1 + 2 * 6 + 1 → Ib a = I7 a := fun a u x y z => by rw [hIb, q_up_ne u, hIa, q_up_ne z, q_up_ne y, q_up_ne x]
            have ibz : Ib (t + 2) = q_set (I7 (t + 2)) 5 (w (C 5 + 1)) := by rw [hIb, q_up_eq, iz]
            have ib4 : Ib (t + 1 + 2 * 4 + 1) = q_set (I7 (t + 1 + 2 * 4 + 1)) (C 5) (w k) := by rw [hIb, q_up_ne (by omega), hIa, q_up_ne (by omega), q_up_ne (by omega), q_up_eq]
            have ib5 : Ib (t + 1 + 2 * 5 + 1) = q_set (I7 (t + 1 + 2 * 5 + 1)) (C 5) (w q) := by rw [hIb, q_up_ne (by omega), hIa, q_up_ne (by omega), q_up_eq]
            have ib6 : Ib (t + 1 + 2 * 6 + 1) = q_set (I7 (t + 1 + 2 * 6 + 1)) (C 5) (w a) := by rw [hIb, q_up_ne (by omega), hIa, q_up_eq]
            have j0 : ∀ a, a ≠ f → a ≠ f + 4 → a ≠ f + 5 → a ≠ f + 6 → a ≠ f + 7 → a ≠ f + 10 → a ≠ f + 22 → a ≠ f + 23 → Ja a = J7 a := fun a y0 y4 y5 y6 y7 y10 y22 y23 => by rw [hJa, q_up_ne y0, q_up_ne y10, q_up_ne y7, q_up_ne y6, q_up_ne y5, q_up_ne y4, o0 a y0 y22 y23]
            have jf : Ja f = q_set (q_set (J7 f) 13 (w (c + 1))) 5 (w (C 5 + 1)) := by rw [hJa, q_up_eq]
            have j4 : Ja (f + 4) = q_set (J7 (f + 4)) (C 5) (w k) := by rw [hJa, q_up_ne (by omega), q_up_ne (by omega), q_up_ne (by omega), q_up_ne (by omega), q_up_ne (by omega), q_up_eq]
            have j5 : Ja (f + 5) = q_set (J7 (f + 5)) (C 5) (w q) := by rw [hJa, q_up_ne (by omega), q_up_ne (by omega), q_up_ne (by omega), q_up_ne (by omega), q_up_eq]
            have j6 : Ja (f + 6) = q_set (J7 (f + 6)) (C 5) (w a) := by rw [hJa, q_up_ne (by omega), q_up_ne (by omega), q_up_ne (by omega), q_up_eq]
            have j7 : Ja (f + 7) = q_set (J7 (f + 7)) (C 5) (-2) := by rw [hJa, q_up_ne (by omega), q_up_ne (by omega), q_up_eq]
            have j10 : Ja (f + 10) = q_set (J7 (f + 10)) (C 5) (-2) := by rw [hJa, q_up_ne (by omega), q_up_eq]
            have j22 : Ja (f + 22) = q_set (J7 (f + 22)) c 1 := by rw [hJa, q_up_ne (by omega), q_up_ne (by omega), q_up_ne (by omega), q_up_ne (by omega), q_up_ne (by omega), q_up_ne (by omega), hJ8, mI_22]
            have j23 : Ja (f + 23) = q_set (J7 (f + 23)) c (w (C 5)) := by rw [hJa, q_up_ne (by omega), q_up_ne (by omega), q_up_ne (by omega), q_up_ne (by omega), q_up_ne (by omega), q_up_ne (by omega), hJ8, mI_23]
            refine ⟨C', Ib, L7, Ja, q_mK K7 f c x, ?_, ?_, ?_, ?_⟩
            · have e58 : jD 58 [.ref 181, .int (w (C 5))] (I1, L1, s) = some (some (.int 1), Ia, L7, s) := by
                rw [ce]
                simp only [↓reduceIte, q_i, q_l, q_k, q_r, q_z, q_si, q_sl, jx_lt, jx_ri, jx_rl, jx_rv, if_true, if_false, Nat.reduceLeDiff, Nat.add_one_ne_zero, and_self, true_or, or_true, Nat.reduceEqDiff, or_self, or_false, false_or, k6, b6, b7, show ¬ (1 : Int32) = 0 by decide]
                rw [E_58_4, if_neg hv3]
                simp only [↓reduceIte, q_i, q_l, q_k, q_r, q_z, q_si, q_sl, jx_lt, jx_ri, jx_rl, jx_rv, if_true, if_false, Nat.reduceLeDiff, Nat.add_one_ne_zero, and_self, true_or, or_true, Nat.reduceEqDiff, or_self, or_false, false_or, k6, b9, c2, show ¬ (1 : Int32) = 0 by decide]
                rw [E_58_6, if_neg m2, E_58_7]
                simp only [↓reduceIte, q_i, q_l, q_k, q_r, q_z, q_si, q_sl, jx_lt, jx_ri, jx_rl, jx_rv, if_true, if_false, Nat.reduceLeDiff, Nat.add_one_ne_zero, and_self, true_or, or_true, Nat.reduceEqDiff, or_self, or_false, false_or, k6, r5, t0, hfl.1, r4'.1, r4'.2.1, put_eq r4'.2, q_put_w (n := 6) (k := C 5) (by omega) h6, r5'.1, r5'.2.1, put_eq r5'.2, r6'.1, r6'.2.1, put_eq r6'.2]
                rw [q_up_ne (show t + 1 + 2 * 5 + 1 ≠ t + 1 + 2 * 4 + 1 by omega), q_up_ne (show t + 1 + 2 * 6 + 1 ≠ t + 1 + 2 * 5 + 1 by omega), q_up_ne (show t + 1 + 2 * 6 + 1 ≠ t + 1 + 2 * 4 + 1 by omega), hIa]
              rw [cl, E_53_12, hIb]
              simp only [↓reduceIte, q_i, q_l, q_k, q_r, q_z, q_si, q_sl, jx_lt, jx_ri, jx_rl, jx_rv, if_true, if_false, Nat.reduceLeDiff, Nat.add_one_ne_zero, and_self, true_or, or_true, Nat.reduceEqDiff, or_self, or_false, false_or, k6, r5, t0, hfl.1, umbs_eq hfl, hI5, e58]
              exact end_ok hr (x := 5) (by omega) (by omega) hIa5
            · have p4 : J8 (f + 4) = J7 (f + 4) := o0 _ (by omega) (by omega) (by omega)
              have p5 : ∀ g, q_up J8 (f + 4) g (f + 5) = J7 (f + 5) := fun g => by rw [q_up_ne (by omega), o0 _ (by omega) (by omega) (by omega)]
              have p6 : ∀ g g', q_up (q_up J8 (f + 4) g) (f + 5) g' (f + 6) = J7 (f + 6) := fun g g' => by rw [q_up_ne (by omega), q_up_ne (by omega), o0 _ (by omega) (by omega) (by omega)]
              have p7 : ∀ g g' g2, q_up (q_up (q_up J8 (f + 4) g) (f + 5) g') (f + 6) g2 (f + 7) = J7 (f + 7) := fun g g' g2 => by rw [q_up_ne (by omega), q_up_ne (by omega), q_up_ne (by omega), o0 _ (by omega) (by omega) (by omega)]
              have p10 : ∀ g g' g2 g3, q_up (q_up (q_up (q_up J8 (f + 4) g) (f + 5) g') (f + 6) g2) (f + 7) g3 (f + 10) = J7 (f + 10) := fun g g' g2 g3 => by rw [q_up_ne (by omega), q_up_ne (by omega), q_up_ne (by omega), q_up_ne (by omega), o0 _ (by omega) (by omega) (by omega)]
              have pf : ∀ g g' g2 g3 g5, q_up (q_up (q_up (q_up (q_up J8 (f + 4) g) (f + 5) g') (f + 6) g2) (f + 7) g3) (f + 10) g5 f = q_set (J7 f) 13 (w (c + 1)) := fun g g' g2 g3 g5 => by rw [q_up_ne (by omega), q_up_ne (by omega), q_up_ne (by omega), q_up_ne (by omega), q_up_ne (by omega), of]
              have o4 : q_set (J7 f) 13 (w (c + 1)) 5 = w (C 5) := by rw [q_set_ne (by omega)]; exact hJ5
              rw [rf]
              simp only [↓reduceIte, q_i, q_l, q_k, q_r, q_z, q_si, q_sl, jx_lt, jx_ri, jx_rl, jx_rv, if_true, if_false, Nat.reduceLeDiff, Nat.add_one_ne_zero, and_self, true_or, or_true, Nat.reduceEqDiff, or_self, or_false, false_or, mo_k hm, b8, c1, c3, g7.2.2.1]
              rw [E_223_8]
              simp only [↓reduceIte, q_i, q_l, q_k, q_r, q_z, q_si, q_sl, jx_lt, jx_ri, jx_rl, jx_rv, if_true, if_false, Nat.reduceLeDiff, Nat.add_one_ne_zero, and_self, true_or, or_true, Nat.reduceEqDiff, or_self, or_false, false_or, mo_k hm, h4, hf0, mf_k hf, hJ5, e214, mf_r17 hf, mf_k17 hf, mf_z17 hf, mf_r18 hf, mf_k18 hf, mf_z18 hf, mf_r19 hf, mf_k19 hf, mf_z19 hf, mf_r20 hf, mf_k20 hf, mf_z20 hf, mf_r23 hf, mf_k23 hf, mf_z23 hf, Nat.add_eq_zero_iff, and_false, p4, p5, p6, p7, p10, pf, o4, w_nn (a := C 5) (by omega), show ¬ 6 ≤ C 5 by omega, w_tc (a := C 5) (by omega), w_inc]
              rw [hJa]
            · refine go_endn cx g7 hc (fun a ha => ib a (by omega) (by omega) (by omega) (by omega)) (fun a ha => j0 a (by omega) (by omega) (by omega) (by omega) (by omega) (by omega) (by omega) (by omega)) ?_ j22 j23 (by rw [cC, cO 3 (by omega), cO 8 (by omega)]; omega) (by rw [cO 3 (by omega)]; exact Nat.le_refl _) (by omega) (by rw [cO 8 (by omega)]; exact Nat.le_refl _) (Or.inr (Or.inl ⟨rfl, rfl, C 5, by omega, rfl⟩)) ?_
              · rw [jf, q_set_ne (by omega), q_set_eq]
              · refine fy_umb (q := q) (a := a) (x4 := w k) hz7.1.2 h0 h6 cC cO (fun k z => qd_of fun hk => ib _ (by omega) (by omega) (by omega) (by omega)) (fun k z => me_of fun hk => j0 _ (by omega) (by omega) (by omega) (by omega) (by omega) (by omega) (by omega) (by omega)) (fun k a1 => ?_) ?_ (fun k a1 => ?_) ?_ qb ha (fun i => ?_) (fun i => ?_) (fun i => ?_) (fun i => ?_) (fun i => ?_) (fun i => ?_) (fun i => ?_) (fun i => ?_)
                · rw [qd_at (by omega), qd_at (by omega)]
                  exact (congrFun ibz k).trans (q_set_ne a1)
                · rw [qd_at (by omega)]
                  exact (congrFun ibz 5).trans q_set_eq
                · rw [me_at (by omega), me_at (by omega)]
                  exact (congrFun jf k).trans ((q_set_ne a1.1).trans (q_set_ne a1.2))
                · rw [me_at (by omega)]
                  exact (congrFun jf 5).trans q_set_eq
                · rw [qd_at (by omega), qd_at (by omega), ib4]; rfl
                · rw [qd_at (by omega), qd_at (by omega), ib5]; rfl
                · rw [qd_at (by omega), qd_at (by omega), ib6]; rfl
                · rw [me_at (by omega), me_at (by omega), j4]; rfl
                · rw [me_at (by omega), me_at (by omega), j5]; rfl
                · rw [me_at (by omega), me_at (by omega), j6]; rfl
                · rw [me_at (by omega), me_at (by omega), j7]; rfl
                · rw [me_at (by omega), me_at (by omega), j10]; rfl
            · exact mu_up (x := 5) (by omega) (by omega) h0 cC cO
          · right
            have h5 := fa_5 fa
            refine ⟨I7, L7, J7, K7, fin0 _ _ ?_, ?_, fa⟩
            · rw [ce]
              simp only [↓reduceIte, q_i, q_l, q_k, q_r, q_z, q_si, q_sl, jx_lt, jx_ri, jx_rl, jx_rv, if_true, if_false, Nat.reduceLeDiff, Nat.add_one_ne_zero, and_self, true_or, or_true, Nat.reduceEqDiff, or_self, or_false, false_or, k6, b6, b7, show ¬ (1 : Int32) = 0 by decide]
              rw [E_58_4, if_neg hv3]
              simp only [↓reduceIte, q_i, q_l, q_k, q_r, q_z, q_si, q_sl, jx_lt, jx_ri, jx_rl, jx_rv, if_true, if_false, Nat.reduceLeDiff, Nat.add_one_ne_zero, and_self, true_or, or_true, Nat.reduceEqDiff, or_self, or_false, false_or, k6, b9, c2, show ¬ (1 : Int32) = 0 by decide]
              exact c6 _ _ _ _
            · rw [rf]
              simp only [↓reduceIte, q_i, q_l, q_k, q_r, q_z, q_si, q_sl, jx_lt, jx_ri, jx_rl, jx_rv, if_true, if_false, Nat.reduceLeDiff, Nat.add_one_ne_zero, and_self, true_or, or_true, Nat.reduceEqDiff, or_self, or_false, false_or, mo_k hm, b8, c1, c3, h5]
        · right
          have h5 := fa_5 fa
          obtain ⟨c', hc', h13⟩ := fa_c fa
          refine ⟨I6, L6, J6, K6, fin0 _ _ ?_, ?_, fa⟩
          · rw [ce]
            simp only [↓reduceIte, q_i, q_l, q_k, q_r, q_z, q_si, q_sl, jx_lt, jx_ri, jx_rl, jx_rv, if_true, if_false, Nat.reduceLeDiff, Nat.add_one_ne_zero, and_self, true_or, or_true, Nat.reduceEqDiff, or_self, or_false, false_or, k6, b6, b7, show ¬ (1 : Int32) = 0 by decide]
            rw [E_58_4, if_neg hv3]
            simp only [↓reduceIte, q_i, q_l, q_k, q_r, q_z, q_si, q_sl, jx_lt, jx_ri, jx_rl, jx_rv, if_true, if_false, Nat.reduceLeDiff, Nat.add_one_ne_zero, and_self, true_or, or_true, Nat.reduceEqDiff, or_self, or_false, false_or, k6, b9]
            rw [E_58_5]
            exact c6 _ _ _ _
          · rw [rf]
            simp only [↓reduceIte, q_i, q_l, q_k, q_r, q_z, q_si, q_sl, jx_lt, jx_ri, jx_rl, jx_rv, if_true, if_false, Nat.reduceLeDiff, Nat.add_one_ne_zero, and_self, true_or, or_true, Nat.reduceEqDiff, or_self, or_false, false_or, mo_k hm, b8, c1, z217 hm h4 hf hf0 hc' h13 h5, h5]
      · right
        have h5 := fa_5 fa
        obtain ⟨c', hc', h13⟩ := fa_c fa
        refine ⟨I5, L5, J5, K5, fin0 _ _ ?_, ?_, fa⟩
        · have c4 : ∀ (M : jM) (x y : Int32), jd 58 4 [some (.ref 181), some (.int x), some (.int y), none, none] [.int (-1)] M = some (some (.int 0), M) := fun M x y => by
            rw [E_58_4, if_pos rfl, E_58_5]
            exact c6 _ _ _ _
          rw [ce]
          rcases b6 with b6 | ⟨Ic, Lc, b6, b7⟩
          · simp only [↓reduceIte, q_i, q_l, q_k, q_r, q_z, q_si, q_sl, jx_lt, jx_ri, jx_rl, jx_rv, if_true, if_false, Nat.reduceLeDiff, Nat.add_one_ne_zero, and_self, true_or, or_true, Nat.reduceEqDiff, or_self, or_false, false_or, k6, b6]
            rw [E_58_3]
            exact c4 _ _ _
          · simp only [↓reduceIte, q_i, q_l, q_k, q_r, q_z, q_si, q_sl, jx_lt, jx_ri, jx_rl, jx_rv, if_true, if_false, Nat.reduceLeDiff, Nat.add_one_ne_zero, and_self, true_or, or_true, Nat.reduceEqDiff, or_self, or_false, false_or, k6, b6, b7, show ¬ (1 : Int32) = 0 by decide]
            exact c4 _ _ _
        · rw [rf]
          simp only [↓reduceIte, q_i, q_l, q_k, q_r, q_z, q_si, q_sl, jx_lt, jx_ri, jx_rl, jx_rv, if_true, if_false, Nat.reduceLeDiff, Nat.add_one_ne_zero, and_self, true_or, or_true, Nat.reduceEqDiff, or_self, or_false, false_or, mo_k hm, b8, z206 hm h5, z217 hm h4 hf hf0 hc' h13 h5, h5]
    · right
      have fa := go_fault cx g3 (r := 1) (by decide) (by decide)
      have h51 : (q_up J3 240 (q_set (q_set (q_set (J3 240) 13 1) 14 (J3 240 10)) 9 5)) 240 9 = 5 := fa_5 fa
      obtain ⟨c', hc', h13⟩ := fa_c fa
      have h13' : (q_up J3 240 (q_set (q_set (q_set (J3 240) 13 1) 14 (J3 240 10)) 9 5)) f 13 = w c' := h13
      refine ⟨_, _, _, _, fin0 _ _ ?_, ?_, fa⟩
      · rw [cd, E_58_1]
        simp only [↓reduceIte, q_i, q_l, q_k, q_r, q_z, q_si, q_sl, jx_lt, jx_ri, jx_rl, jx_rv, if_true, if_false, Nat.reduceLeDiff, Nat.add_one_ne_zero, and_self, true_or, or_true, Nat.reduceEqDiff, or_self, or_false, false_or, k6, e59, c51 hr]
        rfl
      · rw [d213, k223, E_223_6, if_pos rfl]
        simp only [↓reduceIte, q_i, q_l, q_k, q_r, q_z, q_si, q_sl, jx_lt, jx_ri, jx_rl, jx_rv, if_true, if_false, Nat.reduceLeDiff, Nat.add_one_ne_zero, and_self, true_or, or_true, Nat.reduceEqDiff, or_self, or_false, false_or, mo_k hm, m203 hm g3.2.2.1, z223 hm h4 hf hf0 hc' h13' h51]
        rfl
  · right
    have h5 := fa_5 fa
    obtain ⟨c', hc', h13⟩ := fa_c fa
    refine ⟨I', L1, J', K1, fin0 _ _ ?_, ?_, fa⟩
    · rw [D_58, E_58_0]
      simp only [↓reduceIte, q_i, q_l, q_k, q_r, q_z, q_si, q_sl, jx_lt, jx_ri, jx_rl, jx_rv, if_true, if_false, Nat.reduceLeDiff, Nat.add_one_ne_zero, and_self, true_or, or_true, Nat.reduceEqDiff, or_self, or_false, false_or, k6, h71]
    · rw [b223 _ _ _ h213]
      exact z223a hm h4 hf hf0 hc' h13 h5 x
end PUm
