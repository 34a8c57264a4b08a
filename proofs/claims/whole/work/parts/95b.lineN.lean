/-! READING: the line of one who is out, both sides -/
section POt
variable {s s2 : qS} {t f n : Nat} {b : Nat → Nat} {I0 J0 I J : qI} {L0 K0 L K : qL} {Z : qI → qL → qI → qL → Prop} {C : Nat → Nat}
theorem c29 (hfl : qFl s t) {v a c : Nat} (hv : v < 6) (hab : a ≤ c) (hb : c < 20) : ∃ g, jD 29 [.ref t, .int (w v), .int (w a), .int (w c)] (I, L, s) = some (none, q_up I (t + 1 + 2 * 14 + 1) g, L, s) ∧ (∀ j, j ≠ v → g j = I (t + 1 + 2 * 14 + 1) j) ∧ ∀ d, d < 20 → ((g v >>> (w d &&& 31)) &&& 1 = 1 ↔ (I (t + 1 + 2 * 14 + 1) v >>> (w d &&& 31)) &&& 1 = 1 ∨ (a ≤ d ∧ d ≤ c)) := by
  have r14 := fl_k hfl (k := 14) (n := 6) (by omega) rfl
  obtain ⟨J, e, g, rfl, hg1, hg2⟩ := q_loopE (F := fun i J => jd 29 1 [some (.ref t), some (.int (w v)), none, some (.int (w c)), some (.int (w (a + i)))] [] (J, L, s)) (n := c + 1 - a)
    (P := fun i J => ∃ g, J = q_up I (t + 1 + 2 * 14 + 1) g ∧ (∀ j, j ≠ v → g j = I (t + 1 + 2 * 14 + 1) j) ∧ ∀ d, d < 20 → ((g v >>> (w d &&& 31)) &&& 1 = 1 ↔ (I (t + 1 + 2 * 14 + 1) v >>> (w d &&& 31)) &&& 1 = 1 ∨ (a ≤ d ∧ d < a + i)))
    (fun i J hi ⟨g, hJ, h1, h2⟩ => by
      refine ⟨q_up I (t + 1 + 2 * 14 + 1) (q_set g v (g v ||| ((1 : Int32) <<< (w (a + i) &&& 31)))), ?_, _, rfl, fun j hj => ?_, fun d hd => ?_⟩
      · subst hJ
        show jd 29 1 _ _ _ = jd 29 1 _ _ _
        rw [E_29_1]
        simp only [↓reduceIte, q_i, q_l, q_k, q_r, q_z, q_si, q_sl, jx_lt, jx_ri, jx_rl, jx_rv, if_true, if_false, Nat.reduceLeDiff, Nat.add_one_ne_zero, and_self, true_or, or_true, Nat.reduceEqDiff, or_self, or_false, false_or, hfl.1, r14.1, r14.2.1, look_eq r14.2, put_eq r14.2, q_at_w (n := 6) (k := v) (by omega) hv, q_put_w (n := 6) (k := v) (by omega) hv, q_up_eq, q_up_up, w_inc, show ¬ w c < w (a + i) by rw [w_lt (by omega) (by omega)]; omega]
        rfl
      · rw [q_set_ne hj]; exact h1 j hj
      · rw [q_set_eq, bit_or _ (by omega) (by omega), h2 d hd]
        constructor
        · rintro ((z | z) | z)
          · exact Or.inl z
          · exact Or.inr (by omega)
          · exact Or.inr (by omega)
        · rintro (z | z)
          · exact Or.inl (Or.inl z)
          · by_cases y : d = a + i
            · exact Or.inr y
            · exact Or.inl (Or.inr (by omega))) I ⟨I (t + 1 + 2 * 14 + 1), q_up_self.symm, fun _ _ => rfl, fun d hd => ⟨fun z => Or.inl z, fun z => z.resolve_right (by omega)⟩⟩
  refine ⟨g, ?_, hg1, fun d hd => (hg2 d hd).trans ⟨fun z => z.imp id (by omega), fun z => z.imp id (by omega)⟩⟩
  rw [D_29, E_29_0]
  refine Eq.trans e ?_
  show jd 29 1 [some (.ref t), some (.int (w v)), none, some (.int (w c)), some (.int (w (a + (c + 1 - a))))] [] _ = _
  rw [E_29_1, if_pos (by rw [w_lt (by omega) (by omega)]; omega), E_29_2]
theorem t27 : q_tw 27 = q_tm 56 := t13.2.2.2.2.2.2.2.2.2.2.2.2.2.2.2.1
theorem line_out (cx : qCx s s2 t f n b I0 J0) (h : qGo (qZp t f 0 C) t f n I0 L0 J0 K0 I L J K) (hk : I 187 4 = 1) (h0 : C 0 ≠ 0) (h9 : C 9 < 10) : qLine C (jd 53 7 [some (.ref 181), none, some (.int 9), none, none] [] (I, L, s)) (jD 228 [.ref 240] (J, K, s2)) s s2 t f n I0 L0 J0 K0 := by
  obtain ⟨hr, hn, -, hm, h4, hf, hf0, hf9, -, -, htx⟩ := id cx
  obtain ⟨k6, r0, r1, r2, r3, r5, k182, z182, row2, row3, k7, r7, rt, hfl, ht⟩ := id hr
  have t0 : ¬ t = 0 := by omega
  have hz : qStab (qZp t f 0 C) := zp_stab ht hf9
  obtain ⟨I1, L1, J1, K1, e1, d1, g1, -⟩ := go_next cx hz h (by rw [hk]; decide) (by rw [hk]; decide)
  have l0 : C 0 ≤ 20 := (h.2.2.2.2.2.1.1 0 (by omega)).2
  have l8 : C 8 ≤ 6 := (h.2.2.2.2.2.1.1 8 (by omega)).2
  have hla : w (C 0) - 1 = w (C 0 - 1) := w_dec (by omega) (by omega)
  have hE0 : J f 0 ≠ 0 := by
    rw [zp_m h.2.2.2.2 (by omega)]
    exact fun z => h0 ((w_zero (by omega)).mp z)
  have hE9 : J f 9 = w (C 9) := zp_m h.2.2.2.2 (by omega)
  have e212 := m212_go (J := J) (K := K) (x := w (C 9)) (y := 10) hm h4 hf hf0 (fun z => by
    have := (w_eq (a := C 9) (b := 10) (by omega) (by omega)).mp z
    omega) hE0 d1
  have cl : jd 53 7 [some (.ref 181), none, some (.int 9), none, none] [] (I, L, s) = jd 53 16 [some (.ref 181), none, some (.int 9), none, none] [] (I1, L1, s) := by
    rw [E_53_7_9]
    simp only [↓reduceIte, q_i, q_l, q_k, q_r, q_z, q_si, q_sl, jx_lt, jx_ri, jx_rl, jx_rv, if_true, if_false, Nat.reduceLeDiff, Nat.add_one_ne_zero, and_self, true_or, or_true, Nat.reduceEqDiff, or_self, or_false, false_or, k6, r0, k7, e1]
  have fin0 : ∀ I' L', jD 65 [.ref 181] (I1, L1, s) = some (some (.int 0), I', L', s) → jd 53 7 [some (.ref 181), none, some (.int 9), none, none] [] (I, L, s) = some (some (.int 0), I', L', s) := fun I' L' e => by
    rw [cl, E_53_16]
    simp only [↓reduceIte, q_i, q_l, q_k, q_r, q_z, q_si, q_sl, jx_lt, jx_ri, jx_rl, jx_rv, if_true, if_false, Nat.reduceLeDiff, Nat.add_one_ne_zero, and_self, true_or, or_true, Nat.reduceEqDiff, or_self, or_false, false_or, k6, e]
    exact end_no
  have c3 : ∀ (M : jM) (x y : Int32), jd 65 3 [some (.ref 181), some (.int x), some (.int y), none] [.int (-1)] M = some (some (.int 0), M) := fun M x y => by
    rw [E_65_3, if_pos rfl, if_pos (Or.inl rfl)]
  rcases go_name (kc := 8) (kr := 2) (N := C 8) cx hz g1 g1.2.2.2.2.1 (fun z => absurd z (by decide)) (Or.inr (Or.inr ⟨rfl, rfl, rfl⟩)) with ⟨x1, I2, L2, J2, K2, x1b, -, b1, b2, b3, g2, -⟩ | ⟨I2, J2, b1, b3, fa⟩
  · have m1 : ¬ w x1 = (-1 : Int32) := w_m1 (by omega)
    have hz2 := g2.2.2.2.2
    have hI2 : qd I2 t 0 0 = w (C 0) := (hz2.2.1.1 0 (by omega)).1
    have hJ2 : J2 f 0 - 1 = w (C 0 - 1) := by rw [zp_m hz2 (by omega), hla]
    rcases go_num cx hz g2 0 (w (C 0 - 1)) with ⟨v2, I3, L3, J3, K3, a1, a2, b4, b5, g3, -⟩ | ⟨I3, L3, J3, K3, b4, b5, fa⟩
    · have hv2 : ¬ v2 = -1 := fun z => a1 (by rw [z]; decide)
      obtain ⟨x2, rfl, -, x2b⟩ := num_w (l := 0) (m := C 0 - 1) (by omega) (by omega) a1 a2
      have b6 := m210 hm h4 hf hf0 hJ2 b5
      rcases go_word cx hz g3 (c := 27) (m := 56) (by omega) (by omega) t27 with ⟨I4, L4, J4, K4, b7, b8, g4⟩ | ⟨I4, L4, J4, K4, b7, b8, fa⟩
      · have hz4 := g4.2.2.2.2
        have hI4 : qd I4 t 0 0 = w (C 0) := (hz4.2.1.1 0 (by omega)).1
        have hJ4 : J4 f 0 - 1 = w (C 0 - 1) := by rw [zp_m hz4 (by omega), hla]
        rcases go_num cx hz g4 (w x2) (w (C 0 - 1)) with ⟨v3, I5, L5, J5, K5, a3, a4, b9, c1, g5, -⟩ | ⟨I5, L5, J5, K5, b9, c1, fa⟩
        · left
          obtain ⟨x3, rfl, x3a, x3b⟩ := num_w (l := x2) (m := C 0 - 1) (by omega) (by omega) a3 a4
          have hv3 : ¬ w x3 = (-1 : Int32) := w_m1 (by omega)
          have c2 := m210 hm h4 hf hf0 hJ4 c1
          have hz5 := g5.2.2.2.2
          have hJ9 : J5 f 9 = w (C 9) := zp_m hz5 (by omega)
          obtain ⟨C', cC, cO⟩ : ∃ C' : Nat → Nat, C' 9 = C 9 + 1 ∧ ∀ k, k ≠ 9 → C' k = C k := ⟨fun k => if k = 9 then C 9 + 1 else C k, rfl, fun k hk3 => if_neg hk3⟩
          obtain ⟨g, o1, o2, o3⟩ := c29 (I := I5) (L := L5) hfl (v := x1) (a := x2) (c := x3) (by omega) x3a (by omega)
          obtain ⟨Ia, hIa⟩ : ∃ Ia, Ia = q_up I5 (t + 1 + 2 * 14 + 1) g := ⟨_, rfl⟩
          obtain ⟨Ja, hJa⟩ : ∃ Ja, Ja = q_up (q_up (q_up (q_up J5 (f + 15) (q_set (J5 (f + 15)) (C 9) (w x1))) (f + 16) (q_set (J5 (f + 16)) (C 9) (w x2))) (f + 17) (q_set (J5 (f + 17)) (C 9) (w x3))) f (q_set (J5 f) 9 (w (C 9 + 1))) := ⟨_, rfl⟩
          have iz : Ia (t + 2) = I5 (t + 2) := by rw [hIa, q_up_ne (by omega)]
          have hIa9 : Ia (t + 2) 9 = w (C 9) := by rw [iz]; exact (zp_f hz5 (by omega)).1
          obtain ⟨Ib, hIb⟩ : ∃ Ib, Ib = q_up Ia (t + 2) (q_set (Ia (t + 2)) 9 (w (C 9 + 1))) := ⟨_, rfl⟩
          have ib : ∀ a, a ≠ t + 2 → a ≠ t + 1 + 2 * 14 + 1 → Ib a = I5 a := fun a u x => by rw [hIb, q_up_ne u, hIa, q_up_ne x]
          have ibz : Ib (t + 2) = q_set (I5 (t + 2)) 9 (w (C 9 + 1)) := by rw [hIb, q_up_eq, iz]
          have ib14 : Ib (t + 1 + 2 * 14 + 1) = g := by rw [hIb, q_up_ne (by omega), hIa, q_up_eq]
          have j0 : ∀ a, a ≠ f → a ≠ f + 15 → a ≠ f + 16 → a ≠ f + 17 → Ja a = J5 a := fun a x y z u => by rw [hJa, q_up_ne x, q_up_ne u, q_up_ne z, q_up_ne y]
          have jf : Ja f = q_set (J5 f) 9 (w (C 9 + 1)) := by rw [hJa, q_up_eq]
          have j15 : Ja (f + 15) = q_set (J5 (f + 15)) (C 9) (w x1) := by rw [hJa, q_up_ne (by omega), q_up_ne (by omega), q_up_ne (by omega), q_up_eq]
          have j16 : Ja (f + 16) = q_set (J5 (f + 16)) (C 9) (w x2) := by rw [hJa, q_up_ne (by omega), q_up_ne (by omega), q_up_eq]
          have j17 : Ja (f + 17) = q_set (J5 (f + 17)) (C 9) (w x3) := by rw [hJa, q_up_ne (by omega), q_up_eq]
          refine ⟨C', Ib, L5, Ja, K5, ?_, ?_, ?_, ?_⟩
          · have e65 : jD 65 [.ref 181] (I1, L1, s) = some (some (.int 1), Ia, L5, s) := by
              rw [hIa, D_65, E_65_0]
              simp only [↓reduceIte, q_i, q_l, q_k, q_r, q_z, q_si, q_sl, jx_lt, jx_ri, jx_rl, jx_rv, if_true, if_false, Nat.reduceLeDiff, Nat.add_one_ne_zero, and_self, true_or, or_true, Nat.reduceEqDiff, or_self, or_false, false_or, k6, b1, m1]
              rw [E_65_1]
              simp only [↓reduceIte, q_i, q_l, q_k, q_r, q_z, q_si, q_sl, jx_lt, jx_ri, jx_rl, jx_rv, if_true, if_false, Nat.reduceLeDiff, Nat.add_one_ne_zero, and_self, true_or, or_true, Nat.reduceEqDiff, or_self, or_false, false_or, k6, r0, k7, b2, r5, t0, hfl.1, lastDay_eq hfl, hI2, hla, b4, hv2, b7, show ¬ (1 : Int32) = 0 by decide, hI4, b9]
              rw [E_65_3, if_neg hv3, E_65_4]
              simp only [↓reduceIte, q_i, q_l, q_k, q_r, q_z, q_si, q_sl, jx_lt, jx_ri, jx_rl, jx_rv, if_true, if_false, Nat.reduceLeDiff, Nat.add_one_ne_zero, and_self, true_or, or_true, Nat.reduceEqDiff, or_self, or_false, false_or, k6, r5, t0, hfl.1, o1]
            rw [cl, E_53_16, hIb]
            simp only [↓reduceIte, q_i, q_l, q_k, q_r, q_z, q_si, q_sl, jx_lt, jx_ri, jx_rl, jx_rv, if_true, if_false, Nat.reduceLeDiff, Nat.add_one_ne_zero, and_self, true_or, or_true, Nat.reduceEqDiff, or_self, or_false, false_or, k6, e65]
            exact end_ok hr (x := 9) (by omega) (by omega) hIa9
          · have m1 : ∀ g, q_up J5 (f + 15) g f = J5 f := fun g => q_up_ne (by omega)
            have m2 : ∀ g g', q_up (q_up J5 (f + 15) g) (f + 16) g' f = J5 f := fun g g' => by rw [q_up_ne (by omega), q_up_ne (by omega)]
            have m3 : ∀ g g' g'', q_up (q_up (q_up J5 (f + 15) g) (f + 16) g') (f + 17) g'' f = J5 f := fun g g' g'' => by rw [q_up_ne (by omega), q_up_ne (by omega), q_up_ne (by omega)]
            have m4 : ∀ g, q_up J5 (f + 15) g (f + 16) = J5 (f + 16) := fun g => q_up_ne (by omega)
            have m5 : ∀ g g', q_up (q_up J5 (f + 15) g) (f + 16) g' (f + 17) = J5 (f + 17) := fun g g' => by rw [q_up_ne (by omega), q_up_ne (by omega)]
            rw [D_228, E_228_0]
            simp only [↓reduceIte, q_i, q_l, q_k, q_r, q_z, q_si, q_sl, jx_lt, jx_ri, jx_rl, jx_rv, if_true, if_false, Nat.reduceLeDiff, Nat.add_one_ne_zero, and_self, true_or, or_true, Nat.reduceEqDiff, or_self, or_false, false_or, mo_k hm, h4, hf0, mf_k hf, hE9, e212, b3, b6, b8, c2, g5.2.2.1]
            rw [E_228_1]
            simp only [↓reduceIte, q_i, q_l, q_k, q_r, q_z, q_si, q_sl, jx_lt, jx_ri, jx_rl, jx_rv, if_true, if_false, Nat.reduceLeDiff, Nat.add_one_ne_zero, and_self, true_or, or_true, Nat.reduceEqDiff, or_self, or_false, false_or, mo_k hm, h4, hf0, mf_k hf, mf_r28 hf, mf_k28 hf, mf_z28 hf, mf_r29 hf, mf_k29 hf, mf_z29 hf, mf_r30 hf, mf_k30 hf, mf_z30 hf, Nat.add_eq_zero_iff, and_false, m1, m2, m3, m4, m5, hJ9, w_nn (a := C 9) (by omega), show ¬ 10 ≤ C 9 by omega, w_tc (a := C 9) (by omega), w_inc]
            rw [hJa]
          · refine go_end cx g5 (fun a ha => ib a (by omega) (by omega)) (fun a ha => j0 a (by omega) (by omega) (by omega) (by omega)) ?_ (cO 3 (by omega)) (cO 5 (by omega)) (cO 8 (by omega)) ?_
            · rw [jf, q_set_ne (by omega)]
            · refine fy_out (v := x1) (a := x2) (b := x3) hz5.2 h0 h9 cC cO (fun k z => qd_of fun hk => ib _ (by omega) (by omega)) (fun k z => me_of fun hk => j0 _ (by omega) (by omega) (by omega) (by omega)) (fun k a1 => ?_) ?_ (fun k a1 => ?_) ?_ x1b x3a (by omega) (fun i hi d hd => ?_) (fun i => ?_) (fun i => ?_) (fun i => ?_)
              · rw [qd_at (by omega), qd_at (by omega)]
                exact (congrFun ibz k).trans (q_set_ne a1)
              · rw [qd_at (by omega)]
                exact (congrFun ibz 9).trans q_set_eq
              · rw [me_at (by omega), me_at (by omega)]
                exact (congrFun jf k).trans (q_set_ne a1)
              · rw [me_at (by omega)]
                exact (congrFun jf 9).trans q_set_eq
              · rw [qd_at (by omega), qd_at (by omega), ib14]
                by_cases c : i = x1
                · rw [c, o3 d hd]
                  exact ⟨fun z => z.imp id fun y => ⟨rfl, y⟩, fun z => z.imp id fun y => y.2⟩
                · rw [o2 i c]
                  exact ⟨fun z => Or.inl z, fun z => z.resolve_right fun y => c y.1⟩
              · rw [me_at (by omega), me_at (by omega), j15]; rfl
              · rw [me_at (by omega), me_at (by omega), j16]; rfl
              · rw [me_at (by omega), me_at (by omega), j17]; rfl
          · exact mu_up (x := 9) (by omega) (by omega) h0 cC cO
        · right
          have h5 := fa_5 fa
          refine ⟨I5, L5, J5, K5, fin0 _ _ ?_, ?_, fa⟩
          · rw [D_65, E_65_0]
            simp only [↓reduceIte, q_i, q_l, q_k, q_r, q_z, q_si, q_sl, jx_lt, jx_ri, jx_rl, jx_rv, if_true, if_false, Nat.reduceLeDiff, Nat.add_one_ne_zero, and_self, true_or, or_true, Nat.reduceEqDiff, or_self, or_false, false_or, k6, b1, m1]
            rw [E_65_1]
            simp only [↓reduceIte, q_i, q_l, q_k, q_r, q_z, q_si, q_sl, jx_lt, jx_ri, jx_rl, jx_rv, if_true, if_false, Nat.reduceLeDiff, Nat.add_one_ne_zero, and_self, true_or, or_true, Nat.reduceEqDiff, or_self, or_false, false_or, k6, r0, k7, b2, r5, t0, hfl.1, lastDay_eq hfl, hI2, hla, b4, hv2, b7, show ¬ (1 : Int32) = 0 by decide, hI4, b9]
            exact c3 _ _ _
          · rw [D_228, E_228_0]
            simp only [↓reduceIte, q_i, q_l, q_k, q_r, q_z, q_si, q_sl, jx_lt, jx_ri, jx_rl, jx_rv, if_true, if_false, Nat.reduceLeDiff, Nat.add_one_ne_zero, and_self, true_or, or_true, Nat.reduceEqDiff, or_self, or_false, false_or, mo_k hm, h4, hf0, mf_k hf, hE9, e212, b3, b6, b8, m210 hm h4 hf hf0 hJ4 c1, h5]
      · right
        have h5 := fa_5 fa
        refine ⟨I4, L4, J4, K4, fin0 _ _ ?_, ?_, fa⟩
        · rw [D_65, E_65_0]
          simp only [↓reduceIte, q_i, q_l, q_k, q_r, q_z, q_si, q_sl, jx_lt, jx_ri, jx_rl, jx_rv, if_true, if_false, Nat.reduceLeDiff, Nat.add_one_ne_zero, and_self, true_or, or_true, Nat.reduceEqDiff, or_self, or_false, false_or, k6, b1, m1]
          rw [E_65_1]
          simp only [↓reduceIte, q_i, q_l, q_k, q_r, q_z, q_si, q_sl, jx_lt, jx_ri, jx_rl, jx_rv, if_true, if_false, Nat.reduceLeDiff, Nat.add_one_ne_zero, and_self, true_or, or_true, Nat.reduceEqDiff, or_self, or_false, false_or, k6, r0, k7, b2, r5, t0, hfl.1, lastDay_eq hfl, hI2, hla, b4, hv2, b7]
          rw [E_65_2]
          exact c3 _ _ _
        · rw [D_228, E_228_0]
          simp only [↓reduceIte, q_i, q_l, q_k, q_r, q_z, q_si, q_sl, jx_lt, jx_ri, jx_rl, jx_rv, if_true, if_false, Nat.reduceLeDiff, Nat.add_one_ne_zero, and_self, true_or, or_true, Nat.reduceEqDiff, or_self, or_false, false_or, mo_k hm, h4, hf0, mf_k hf, hE9, e212, b3, b6, b8, z210 hm h4 hf hf0 h5, h5]
    · right
      have h5 := fa_5 fa
      have b6 := m210 hm h4 hf hf0 hJ2 b5
      refine ⟨I3, L3, J3, K3, fin0 _ _ ?_, ?_, fa⟩
      · rw [D_65, E_65_0]
        simp only [↓reduceIte, q_i, q_l, q_k, q_r, q_z, q_si, q_sl, jx_lt, jx_ri, jx_rl, jx_rv, if_true, if_false, Nat.reduceLeDiff, Nat.add_one_ne_zero, and_self, true_or, or_true, Nat.reduceEqDiff, or_self, or_false, false_or, k6, b1, m1]
        rw [E_65_1]
        simp only [↓reduceIte, q_i, q_l, q_k, q_r, q_z, q_si, q_sl, jx_lt, jx_ri, jx_rl, jx_rv, if_true, if_false, Nat.reduceLeDiff, Nat.add_one_ne_zero, and_self, true_or, or_true, Nat.reduceEqDiff, or_self, or_false, false_or, k6, r0, k7, b2, r5, t0, hfl.1, lastDay_eq hfl, hI2, hla, b4]
        rw [E_65_2]
        exact c3 _ _ _
      · rw [D_228, E_228_0]
        simp only [↓reduceIte, q_i, q_l, q_k, q_r, q_z, q_si, q_sl, jx_lt, jx_ri, jx_rl, jx_rv, if_true, if_false, Nat.reduceLeDiff, Nat.add_one_ne_zero, and_self, true_or, or_true, Nat.reduceEqDiff, or_self, or_false, false_or, mo_k hm, h4, hf0, mf_k hf, hE9, e212, b3, b6, z206 hm h5, z210 hm h4 hf hf0 h5, h5]
  · right
    have h5 := fa_5 fa
    refine ⟨I2, L1, J2, K1, fin0 _ _ ?_, ?_, fa⟩
    · rw [D_65, E_65_0]
      simp only [↓reduceIte, q_i, q_l, q_k, q_r, q_z, q_si, q_sl, jx_lt, jx_ri, jx_rl, jx_rv, if_true, if_false, Nat.reduceLeDiff, Nat.add_one_ne_zero, and_self, true_or, or_true, Nat.reduceEqDiff, or_self, or_false, false_or, k6, b1]
    · rw [D_228, E_228_0]
      simp only [↓reduceIte, q_i, q_l, q_k, q_r, q_z, q_si, q_sl, jx_lt, jx_ri, jx_rl, jx_rv, if_true, if_false, Nat.reduceLeDiff, Nat.add_one_ne_zero, and_self, true_or, or_true, Nat.reduceEqDiff, or_self, or_false, false_or, mo_k hm, h4, hf0, mf_k hf, hE9, e212, b3, z206 hm h5, z210 hm h4 hf hf0 h5, h5]
end POt
