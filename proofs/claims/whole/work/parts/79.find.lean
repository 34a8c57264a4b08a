/-! READING: a name asked for, on both sides -/
section PF
variable {s s2 : qS} {t f n : Nat} {b : Nat → Nat} {I0 J0 I J : qI} {L0 K0 L K : qL} {Z : qI → qL → qI → qL → Prop} {S U O c p N : Nat} {kc kr : Int32}
theorem ask_ne (h : qAsk S U O kc kr N) : kc ≠ 0 := by
  rcases h with ⟨h, -⟩ | ⟨h, -⟩ | ⟨h, -⟩ <;> rw [h] <;> decide
/-- a kind of the one is that kind of the other -/
theorem nk_iff (h : qAsk S U O kc kr N) {a b v : Int32} (hn : qNk S U O a b v) : (a = kc ↔ b = kr) ∧ (a = kc → ∃ x, x < N ∧ v = w x) := by
  rcases h with ⟨h1, h2, h3⟩ | ⟨h1, h2, h3⟩ | ⟨h1, h2, h3⟩ <;> rcases hn with ⟨e1, e2, e3⟩ | ⟨e1, e2, e3⟩ | ⟨e1, e2, e3⟩ <;> subst h1 <;> subst h2 <;> subst h3 <;> subst e1 <;> subst e2
  · exact ⟨⟨fun _ => rfl, fun _ => rfl⟩, fun _ => e3⟩
  · exact ⟨⟨fun z => absurd z (by decide), fun z => absurd z (by decide)⟩, fun z => absurd z (by decide)⟩
  · exact ⟨⟨fun z => absurd z (by decide), fun z => absurd z (by decide)⟩, fun z => absurd z (by decide)⟩
  · exact ⟨⟨fun z => absurd z (by decide), fun z => absurd z (by decide)⟩, fun z => absurd z (by decide)⟩
  · exact ⟨⟨fun _ => rfl, fun _ => rfl⟩, fun _ => e3⟩
  · exact ⟨⟨fun z => absurd z (by decide), fun z => absurd z (by decide)⟩, fun z => absurd z (by decide)⟩
  · exact ⟨⟨fun z => absurd z (by decide), fun z => absurd z (by decide)⟩, fun z => absurd z (by decide)⟩
  · exact ⟨⟨fun z => absurd z (by decide), fun z => absurd z (by decide)⟩, fun z => absurd z (by decide)⟩
  · exact ⟨⟨fun _ => rfl, fun _ => rfl⟩, fun _ => e3⟩
theorem isk_iff (hN : qNm I L) (x : Int64) : q_isk x ↔ ∃ k, k < 11 ∧ L 182 k = x := by
  obtain ⟨e0, e1, e2, e3, e4, e5, e6, e7, e8, e9, e10⟩ := kw_eq
  have l0 := (hN 0 (by omega)).1
  have l1 := (hN 1 (by omega)).1
  have l2 := (hN 2 (by omega)).1
  have l3 := (hN 3 (by omega)).1
  have l4 := (hN 4 (by omega)).1
  have l5 := (hN 5 (by omega)).1
  have l6 := (hN 6 (by omega)).1
  have l7 := (hN 7 (by omega)).1
  have l8 := (hN 8 (by omega)).1
  have l9 := (hN 9 (by omega)).1
  have l10 := (hN 10 (by omega)).1
  constructor
  · rintro (z | z | z | z | z | z | z | z | z | z | z)
    · exact ⟨0, by omega, by rw [l0, e0, z]⟩
    · exact ⟨2, by omega, by rw [l2, e2, z]⟩
    · exact ⟨3, by omega, by rw [l3, e3, z]⟩
    · exact ⟨4, by omega, by rw [l4, e4, z]⟩
    · exact ⟨1, by omega, by rw [l1, e1, z]⟩
    · exact ⟨5, by omega, by rw [l5, e5, z]⟩
    · exact ⟨6, by omega, by rw [l6, e6, z]⟩
    · exact ⟨7, by omega, by rw [l7, e7, z]⟩
    · exact ⟨8, by omega, by rw [l8, e8, z]⟩
    · exact ⟨9, by omega, by rw [l9, e9, z]⟩
    · exact ⟨10, by omega, by rw [l10, e10, z]⟩
  · rintro ⟨k, hk, z⟩
    have h11 : k = 0 ∨ k = 1 ∨ k = 2 ∨ k = 3 ∨ k = 4 ∨ k = 5 ∨ k = 6 ∨ k = 7 ∨ k = 8 ∨ k = 9 ∨ k = 10 := by omega
    rcases h11 with rfl | rfl | rfl | rfl | rfl | rfl | rfl | rfl | rfl | rfl | rfl
    · exact Or.inl (by rw [← z, l0, e0])
    · exact Or.inr (Or.inr (Or.inr (Or.inr (Or.inl (by rw [← z, l1, e1])))))
    · exact Or.inr (Or.inl (by rw [← z, l2, e2]))
    · exact Or.inr (Or.inr (Or.inl (by rw [← z, l3, e3])))
    · exact Or.inr (Or.inr (Or.inr (Or.inl (by rw [← z, l4, e4]))))
    · exact Or.inr (Or.inr (Or.inr (Or.inr (Or.inr (Or.inl (by rw [← z, l5, e5]))))))
    · exact Or.inr (Or.inr (Or.inr (Or.inr (Or.inr (Or.inr (Or.inl (by rw [← z, l6, e6])))))))
    · exact Or.inr (Or.inr (Or.inr (Or.inr (Or.inr (Or.inr (Or.inr (Or.inl (by rw [← z, l7, e7]))))))))
    · exact Or.inr (Or.inr (Or.inr (Or.inr (Or.inr (Or.inr (Or.inr (Or.inr (Or.inl (by rw [← z, l8, e8])))))))))
    · exact Or.inr (Or.inr (Or.inr (Or.inr (Or.inr (Or.inr (Or.inr (Or.inr (Or.inr (Or.inl (by rw [← z, l9, e9]))))))))))
    · exact Or.inr (Or.inr (Or.inr (Or.inr (Or.inr (Or.inr (Or.inr (Or.inr (Or.inr (Or.inr (by rw [← z, l10, e10]))))))))))
theorem go_find (cx : qCx s s2 t f n b I0 J0) (h : qGo Z t f n I0 L0 J0 K0 I L J K) (hna : qNa S U O c p f I L J K) (hp : p = 1 → I (183 + 1) (11 + c) ≠ kc ∧ I (183 + 1) (11 + c) ≠ 0) (ha : qAsk S U O kc kr N) : (∃ x, x < N ∧ I 187 4 = 1 ∧ jD 72 [.ref 181, .int kc] (I, L, s) = some (some (.int (w x)), I, L, s) ∧ jD 215 [.ref 240, .int kr] (J, K, s2) = some (some (.int (w x)), J, K, s2)) ∨ (∃ I' J', jD 72 [.ref 181, .int kc] (I, L, s) = some (some (.int (-1)), I', L, s) ∧ jD 215 [.ref 240, .int kr] (J, K, s2) = some (some (.int 0), J', K, s2) ∧ qFa t f n I0 L0 J0 K0 I' L J' K) := by
  obtain ⟨hr, hn, -, hm, h4, hf, h0, hf9, -, -, htx⟩ := id cx
  obtain ⟨k6, r0, r1, r2, r3, r5, k182, z182, row2, row3, k7, -⟩ := id hr
  obtain ⟨n1, n2, n3, n4, n5⟩ := hna
  have h9 := h.2.2.1
  obtain ⟨t1, -, -, tx, -⟩ := tk_sort h.2.2.2.1
  have hNm := h.1.2.2.2.2.2.1
  have hk0 := ask_ne ha
  have e211 := m211 (J := J) (K := K) cx
  have h95 : ∀ r, q_up J 240 (q_set (q_set (q_set (J 240) 13 r) 14 (J 240 10)) 9 5) 240 9 = 5 := fun r => by rw [q_up_eq, q_set_eq]
  have hf13 : ∀ g, q_up J 240 g f 13 = w c := fun g => by rw [q_up_ne (by omega)]; exact n4
  have z1 : ∀ r, jd 215 1 [some (.ref 240), some (.int kr), none] [] (q_up J 240 (q_set (q_set (q_set (J 240) 13 r) 14 (J 240 10)) 9 5), K, s2) = some (some (.int 0), q_up J 240 (q_set (q_set (q_set (J 240) 13 r) 14 (J 240 10)) 9 5), K, s2) := fun r => z215b hm h4 hf h0 (show c ≤ 20 by omega) (hf13 _) (h95 r) kr
  have z3 : ∀ r v, jd 215 3 [some (.ref 240), none, some (.int v)] [] (q_up J 240 (q_set (q_set (q_set (J 240) 13 r) 14 (J 240 10)) 9 5), K, s2) = some (some (.int 0), q_up J 240 (q_set (q_set (q_set (J 240) 13 r) 14 (J 240 10)) 9 5), K, s2) := fun r v => by
    rw [E_215_3]
    simp only [↓reduceIte, q_i, q_l, q_k, q_r, q_z, q_si, q_sl, jx_lt, jx_ri, jx_rl, jx_rv, if_true, if_false, Nat.reduceLeDiff, Nat.add_one_ne_zero, and_self, true_or, or_true, Nat.reduceEqDiff, or_self, or_false, false_or, mo_k hm, h95, E_215_5]
  have z2 : ∀ v, jd 215 2 [some (.ref 240), none, some (.int v)] [] (J, K, s2) = some (some (.int 0), q_up J 240 (q_set (q_set (q_set (J 240) 13 2) 14 (J 240 10)) 9 5), K, s2) := fun v => by
    rw [E_215_2]
    simp only [↓reduceIte, q_i, q_l, q_k, q_r, q_z, q_si, q_sl, jx_lt, jx_ri, jx_rl, jx_rv, if_true, if_false, Nat.reduceLeDiff, Nat.add_one_ne_zero, and_self, true_or, or_true, Nat.reduceEqDiff, or_self, or_false, false_or, mo_k hm, m203 hm h9, z3]
  -- faults
  have f1 : jd 72 1 [some (.ref 181), none, none] [] (I, L, s) = some (some (.int (-1)), q_up I 181 (q_set (q_set (I 181) 6 (w 1)) 7 (I 187 3)), L, s) := by
    rw [E_72_1]
    simp only [↓reduceIte, q_i, q_l, q_k, q_r, q_z, q_si, q_sl, jx_lt, jx_ri, jx_rl, jx_rv, if_true, if_false, Nat.reduceLeDiff, Nat.add_one_ne_zero, and_self, true_or, or_true, Nat.reduceEqDiff, or_self, or_false, false_or, k6, show (1 : Int32) = w 1 from rfl, c52 hr]
  have f3 : jd 72 3 [some (.ref 181), none, none] [] (I, L, s) = some (some (.int (-1)), q_up I 181 (q_set (q_set (I 181) 6 (w 2)) 7 (I 187 3)), L, s) := by
    rw [E_72_3]
    simp only [↓reduceIte, q_i, q_l, q_k, q_r, q_z, q_si, q_sl, jx_lt, jx_ri, jx_rl, jx_rv, if_true, if_false, Nat.reduceLeDiff, Nat.add_one_ne_zero, and_self, true_or, or_true, Nat.reduceEqDiff, or_self, or_false, false_or, k6, show (2 : Int32) = w 2 from rfl, c52 hr]
  by_cases cs : I 187 4 = 1
  · have cs' := t1.mp cs
    have hx := tx cs
    by_cases ck : q_isk (K 240 15)
    · -- a word of the lines
      right
      refine ⟨_, _, ?_, ?_, go_fault cx h (r := 1) (by decide) (by decide)⟩
      · obtain ⟨k, hk, ek⟩ := (isk_iff hNm _).mp ck
        rcases c_find (L := L) hr (show 11 + c + p ≤ 31 by omega) n3 cs with ⟨i, hi, e, e1, e2⟩ | ⟨e, e1⟩
        · have hik : i < 11 := by
            by_cases z : i ≤ k
            · omega
            · exact absurd (ek.trans hx.symm) (e2 k (by omega))
          rw [D_72, E_72_0]
          simp only [↓reduceIte, q_i, q_l, q_k, q_r, q_z, q_si, q_sl, jx_lt, jx_ri, jx_rl, jx_rv, if_true, if_false, Nat.reduceLeDiff, Nat.add_one_ne_zero, and_self, true_or, or_true, Nat.reduceEqDiff, or_self, or_false, false_or, k6, r0, r2, k7, e, cs, show ¬ w i = (-1 : Int32) from w_m1 (by omega), row2.1, look_eq row2, q_at_w (n := 31) (k := i) (by omega) (by omega), (hNm i hik).2.1, f1]
        · exact absurd (ek.trans hx.symm) (e1 k (by omega))
      · rw [if_neg (fun z => z.2 ck)] at e211
        rw [D_215, E_215_0]
        simp only [↓reduceIte, q_i, q_l, q_k, q_r, q_z, q_si, q_sl, jx_lt, jx_ri, jx_rl, jx_rv, if_true, if_false, Nat.reduceLeDiff, Nat.add_one_ne_zero, and_self, true_or, or_true, Nat.reduceEqDiff, or_self, or_false, false_or, mo_k hm, e211, m203 hm h9]
        exact z1 1
    · have e211' : jD 211 [.ref 240] (J, K, s2) = some (some (.int 1), J, K, s2) := by rw [e211, if_pos ⟨cs', ck⟩]
      have hno : ∀ k, k < 11 → L 182 k ≠ L 187 5 := fun k hk z => ck ((isk_iff hNm _).mpr ⟨k, hk, z.trans hx⟩)
      rcases m_name (J := J) (K := K) hf (show c ≤ 20 by omega) n4 (K 240 15) with ⟨e, e1⟩ | ⟨i, hi, e, e1, e2⟩
      · right
        refine ⟨_, _, ?_, ?_, go_fault cx h (r := 2) (by decide) (by decide)⟩
        · rcases c_find (L := L) hr (show 11 + c + p ≤ 31 by omega) n3 cs with ⟨i, hi, d, d1, d2⟩ | ⟨d, d1⟩
          · have hi11 : ¬ i < 11 := fun z => hno i z d1
            have hic : i = 11 + c := by
              by_cases z : i < 11 + c
              · exfalso
                have := (n5 (i - 11) (by omega)).1
                rw [show 11 + (i - 11) = i by omega] at this
                exact e1 (i - 11) (by omega) (by rw [← this, d1, hx])
              · omega
            have hp1 : p = 1 := by omega
            obtain ⟨p1, p2⟩ := hp hp1
            subst hic
            rw [D_72, E_72_0]
            simp only [↓reduceIte, q_i, q_l, q_k, q_r, q_z, q_si, q_sl, jx_lt, jx_ri, jx_rl, jx_rv, if_true, if_false, Nat.reduceLeDiff, Nat.add_one_ne_zero, and_self, true_or, or_true, Nat.reduceEqDiff, or_self, or_false, false_or, k6, r0, r2, k7, d, cs, show ¬ w (11 + c) = (-1 : Int32) from w_m1 (by omega), row2.1, look_eq row2, q_at_w (n := 31) (k := 11 + c) (by omega) (by omega), p2]
            rw [E_72_2]
            simp only [↓reduceIte, q_i, q_l, q_k, q_r, q_z, q_si, q_sl, jx_lt, jx_ri, jx_rl, jx_rv, if_true, if_false, Nat.reduceLeDiff, Nat.add_one_ne_zero, and_self, true_or, or_true, Nat.reduceEqDiff, or_self, or_false, false_or, k6, r2, show ¬ w (11 + c) = (-1 : Int32) from w_m1 (by omega), row2.1, look_eq row2, q_at_w (n := 31) (k := 11 + c) (by omega) (by omega), p1, f3]
          · rw [D_72, E_72_0]
            simp only [↓reduceIte, q_i, q_l, q_k, q_r, q_z, q_si, q_sl, jx_lt, jx_ri, jx_rl, jx_rv, if_true, if_false, Nat.reduceLeDiff, Nat.add_one_ne_zero, and_self, true_or, or_true, Nat.reduceEqDiff, or_self, or_false, false_or, k6, r0, k7, d, cs]
            rw [E_72_2]
            simp only [↓reduceIte, q_i, q_l, q_k, q_r, q_z, q_si, q_sl, jx_lt, jx_ri, jx_rl, jx_rv, if_true, if_false, Nat.reduceLeDiff, Nat.add_one_ne_zero, and_self, true_or, or_true, Nat.reduceEqDiff, or_self, or_false, false_or, f3]
        · rw [D_215, E_215_0]
          simp only [↓reduceIte, q_i, q_l, q_k, q_r, q_z, q_si, q_sl, jx_lt, jx_ri, jx_rl, jx_rv, if_true, if_false, Nat.reduceLeDiff, Nat.add_one_ne_zero, and_self, true_or, or_true, Nat.reduceEqDiff, or_self, or_false, false_or, mo_k hm, e211', show ¬ (1 : Int32) = 0 by decide]
          rw [E_215_1]
          simp only [↓reduceIte, q_i, q_l, q_k, q_r, q_z, q_si, q_sl, jx_lt, jx_ri, jx_rl, jx_rv, if_true, if_false, Nat.reduceLeDiff, Nat.add_one_ne_zero, and_self, true_or, or_true, Nat.reduceEqDiff, or_self, or_false, false_or, mo_k hm, h4, h0, mf_k hf, e]
          exact z2 (-1)
      · obtain ⟨m1, m2, m3⟩ := n5 i hi
        have hfc : jD 74 [.ref 181] (I, L, s) = some (some (.int (w (11 + i))), I, L, s) := by
          rcases c_find (L := L) hr (show 11 + c + p ≤ 31 by omega) n3 cs with ⟨i', hi', d, d1, d2⟩ | ⟨d, d1⟩
          · have hi11 : ¬ i' < 11 := fun z => hno i' z d1
            have : i' = 11 + i := by
              by_cases z : i' < 11 + i
              · exfalso
                have := (n5 (i' - 11) (by omega)).1
                rw [show 11 + (i' - 11) = i' by omega] at this
                exact e2 (i' - 11) (by omega) (by rw [← this, d1, hx])
              · by_cases z2 : 11 + i < i'
                · exact absurd (by rw [m1, e1, hx]) (d2 (11 + i) z2)
                · omega
            rw [d, this]
          · exact absurd (by rw [m1, e1, hx]) (d1 (11 + i) (by omega))
        obtain ⟨q1, q2⟩ := nk_iff ha m3
        have hk3 : I (183 + 1) (11 + i) ≠ 0 := by
          rcases m3 with ⟨z, -⟩ | ⟨z, -⟩ | ⟨z, -⟩ <;> rw [z] <;> decide
        have e72 : jD 72 [.ref 181, .int kc] (I, L, s) = jd 72 2 [some (.ref 181), some (.int kc), some (.int (w (11 + i)))] [] (I, L, s) := by
          rw [D_72, E_72_0]
          simp only [↓reduceIte, q_i, q_l, q_k, q_r, q_z, q_si, q_sl, jx_lt, jx_ri, jx_rl, jx_rv, if_true, if_false, Nat.reduceLeDiff, Nat.add_one_ne_zero, and_self, true_or, or_true, Nat.reduceEqDiff, or_self, or_false, false_or, k6, r0, r2, k7, hfc, cs, show ¬ w (11 + i) = (-1 : Int32) from w_m1 (by omega), row2.1, look_eq row2, q_at_w (n := 31) (k := 11 + i) (by omega) (by omega), hk3]
        by_cases cq : I (183 + 1) (11 + i) = kc
        · left
          obtain ⟨x, hx9, ev⟩ := q2 cq
          refine ⟨x, hx9, cs, ?_, ?_⟩
          · rw [e72, E_72_2]
            simp only [↓reduceIte, q_i, q_l, q_k, q_r, q_z, q_si, q_sl, jx_lt, jx_ri, jx_rl, jx_rv, if_true, if_false, Nat.reduceLeDiff, Nat.add_one_ne_zero, and_self, true_or, or_true, Nat.reduceEqDiff, or_self, or_false, false_or, k6, r2, show ¬ w (11 + i) = (-1 : Int32) from w_m1 (by omega), row2.1, look_eq row2, q_at_w (n := 31) (k := 11 + i) (by omega) (by omega), cq]
            rw [E_72_4]
            simp only [↓reduceIte, q_i, q_l, q_k, q_r, q_z, q_si, q_sl, jx_lt, jx_ri, jx_rl, jx_rv, if_true, if_false, Nat.reduceLeDiff, Nat.add_one_ne_zero, and_self, true_or, or_true, Nat.reduceEqDiff, or_self, or_false, false_or, k6, r3, row3.1, look_eq row3, q_at_w (n := 31) (k := 11 + i) (by omega) (by omega)]
            rw [← m2, ev]
          · rw [D_215, E_215_0]
            simp only [↓reduceIte, q_i, q_l, q_k, q_r, q_z, q_si, q_sl, jx_lt, jx_ri, jx_rl, jx_rv, if_true, if_false, Nat.reduceLeDiff, Nat.add_one_ne_zero, and_self, true_or, or_true, Nat.reduceEqDiff, or_self, or_false, false_or, mo_k hm, e211', show ¬ (1 : Int32) = 0 by decide]
            rw [E_215_1]
            simp only [↓reduceIte, q_i, q_l, q_k, q_r, q_z, q_si, q_sl, jx_lt, jx_ri, jx_rl, jx_rv, if_true, if_false, Nat.reduceLeDiff, Nat.add_one_ne_zero, and_self, true_or, or_true, Nat.reduceEqDiff, or_self, or_false, false_or, mo_k hm, h4, h0, mf_k hf, e, show ¬ w i = (-1 : Int32) from w_m1 (by omega), mf_r35 hf, mf_k35 hf, mf_z35 hf, w_nn (a := i) (by omega), show ¬ 20 ≤ i by omega, w_tc (a := i) (by omega), q1.mp cq]
            rw [E_215_3]
            simp only [↓reduceIte, q_i, q_l, q_k, q_r, q_z, q_si, q_sl, jx_lt, jx_ri, jx_rl, jx_rv, if_true, if_false, Nat.reduceLeDiff, Nat.add_one_ne_zero, and_self, true_or, or_true, Nat.reduceEqDiff, or_self, or_false, false_or, mo_k hm, h9]
            rw [E_215_4]
            simp only [↓reduceIte, q_i, q_l, q_k, q_r, q_z, q_si, q_sl, jx_lt, jx_ri, jx_rl, jx_rv, if_true, if_false, Nat.reduceLeDiff, Nat.add_one_ne_zero, and_self, true_or, or_true, Nat.reduceEqDiff, or_self, or_false, false_or, mo_k hm, h4, h0, mf_k hf, mf_r36 hf, mf_k36 hf, mf_z36 hf, w_nn (a := i) (by omega), show ¬ 20 ≤ i by omega, w_tc (a := i) (by omega), ev, E_215_5]
        · right
          refine ⟨_, _, ?_, ?_, go_fault cx h (r := 2) (by decide) (by decide)⟩
          · rw [e72, E_72_2]
            simp only [↓reduceIte, q_i, q_l, q_k, q_r, q_z, q_si, q_sl, jx_lt, jx_ri, jx_rl, jx_rv, if_true, if_false, Nat.reduceLeDiff, Nat.add_one_ne_zero, and_self, true_or, or_true, Nat.reduceEqDiff, or_self, or_false, false_or, k6, r2, show ¬ w (11 + i) = (-1 : Int32) from w_m1 (by omega), row2.1, look_eq row2, q_at_w (n := 31) (k := 11 + i) (by omega) (by omega), cq, f3]
          · rw [D_215, E_215_0]
            simp only [↓reduceIte, q_i, q_l, q_k, q_r, q_z, q_si, q_sl, jx_lt, jx_ri, jx_rl, jx_rv, if_true, if_false, Nat.reduceLeDiff, Nat.add_one_ne_zero, and_self, true_or, or_true, Nat.reduceEqDiff, or_self, or_false, false_or, mo_k hm, e211', show ¬ (1 : Int32) = 0 by decide]
            rw [E_215_1]
            simp only [↓reduceIte, q_i, q_l, q_k, q_r, q_z, q_si, q_sl, jx_lt, jx_ri, jx_rl, jx_rv, if_true, if_false, Nat.reduceLeDiff, Nat.add_one_ne_zero, and_self, true_or, or_true, Nat.reduceEqDiff, or_self, or_false, false_or, mo_k hm, h4, h0, mf_k hf, e, show ¬ w i = (-1 : Int32) from w_m1 (by omega), mf_r35 hf, mf_k35 hf, mf_z35 hf, w_nn (a := i) (by omega), show ¬ 20 ≤ i by omega, w_tc (a := i) (by omega), show ¬ J (f + 22) i = kr from fun z => cq (q1.mpr z)]
            exact z2 (w i)
  · right
    refine ⟨_, _, ?_, ?_, go_fault cx h (r := 1) (by decide) (by decide)⟩
    · rw [D_72, E_72_0]
      simp only [↓reduceIte, q_i, q_l, q_k, q_r, q_z, q_si, q_sl, jx_lt, jx_ri, jx_rl, jx_rv, if_true, if_false, Nat.reduceLeDiff, Nat.add_one_ne_zero, and_self, true_or, or_true, Nat.reduceEqDiff, or_self, or_false, false_or, k6, r0, k7, c_find0 hr cs, cs, f1]
    · rw [if_neg (fun z => cs (t1.mpr z.1))] at e211
      rw [D_215, E_215_0]
      simp only [↓reduceIte, q_i, q_l, q_k, q_r, q_z, q_si, q_sl, jx_lt, jx_ri, jx_rl, jx_rv, if_true, if_false, Nat.reduceLeDiff, Nat.add_one_ne_zero, and_self, true_or, or_true, Nat.reduceEqDiff, or_self, or_false, false_or, mo_k hm, e211, m203 hm h9]
      exact z1 1
end PF
