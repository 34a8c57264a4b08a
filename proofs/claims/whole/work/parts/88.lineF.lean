/-! READING: the line of rain, both sides -/
section PRb
variable {s s2 : qS} {t f n : Nat} {b : Nat → Nat} {I0 J0 I J : qI} {L0 K0 L K : qL} {Z : qI → qL → qI → qL → Prop} {C : Nat → Nat}
theorem line_rain (cx : qCx s s2 t f n b I0 J0) (h : qGo (qZp t f 0 C) t f n I0 L0 J0 K0 I L J K) (hk : I 187 4 = 1) (h0 : C 0 ≠ 0) (h10 : C 10 < 10) : qLine C (jd 53 7 [some (.ref 181), none, some (.int 10), none, none] [] (I, L, s)) (jD 229 [.ref 240] (J, K, s2)) s s2 t f n I0 L0 J0 K0 := by
  obtain ⟨hr, hn, -, hm, h4, hf, hf0, hf9, -, -, htx⟩ := id cx
  obtain ⟨k6, r0, r1, r2, r3, r5, k182, z182, row2, row3, k7, r7, rt, hfl, ht⟩ := id hr
  have t0 : ¬ t = 0 := by omega
  obtain ⟨I1, L1, J1, K1, e1, d1, g1, -⟩ := go_next cx (zp_stab ht hf9) h (by rw [hk]; decide) (by rw [hk]; decide)
  have hz1 := g1.2.2.2.2
  have l0 : C 0 ≤ 20 := (hz1.2.1.1 0 (by omega)).2
  have hE0 : J f 0 ≠ 0 := by
    rw [zp_m h.2.2.2.2 (by omega)]
    exact fun z => h0 ((w_zero (by omega)).mp z)
  have hE11 : J f 11 = w (C 10) := h.2.2.2.2.2.1.2.2.1
  have hI0 : qd I1 t 0 0 = w (C 0) := (hz1.2.1.1 0 (by omega)).1
  have hJ0 : J1 f 0 = w (C 0) := zp_m hz1 (by omega)
  have hla : w (C 0) - 1 = w (C 0 - 1) := w_dec (by omega) (by omega)
  have e212 := m212_go (J := J) (K := K) (x := w (C 10)) (y := 10) hm h4 hf hf0 (fun z => by
    have := (w_eq (a := C 10) (b := 10) (by omega) (by omega)).mp z
    omega) hE0 d1
  have cl : jd 53 7 [some (.ref 181), none, some (.int 10), none, none] [] (I, L, s) = jd 53 17 [some (.ref 181), none, some (.int 10), none, none] [] (I1, L1, s) := by
    rw [E_53_7_10]
    simp only [↓reduceIte, q_i, q_l, q_k, q_r, q_z, q_si, q_sl, jx_lt, jx_ri, jx_rl, jx_rv, if_true, if_false, Nat.reduceLeDiff, Nat.add_one_ne_zero, and_self, true_or, or_true, Nat.reduceEqDiff, or_self, or_false, false_or, k6, r0, k7, e1]
  have fin0 : ∀ I' L', jD 66 [.ref 181] (I1, L1, s) = some (some (.int 0), I', L', s) → jd 53 7 [some (.ref 181), none, some (.int 10), none, none] [] (I, L, s) = some (some (.int 0), I', L', s) := fun I' L' e => by
    rw [cl, E_53_17]
    simp only [↓reduceIte, q_i, q_l, q_k, q_r, q_z, q_si, q_sl, jx_lt, jx_ri, jx_rl, jx_rv, if_true, if_false, Nat.reduceLeDiff, Nat.add_one_ne_zero, and_self, true_or, or_true, Nat.reduceEqDiff, or_self, or_false, false_or, k6, e]
    exact end_no
  have u7 := hz1.2.2.2.2.2.2.2.2.1
  have h10v : qme J1 f 0 10 = J1 f 10 := rfl
  by_cases hin : J1 240 9 = 3 ∧ ¬ J1 240 12 < 0 ∧ J1 240 12 ≤ w (C 0 - 1)
  · obtain ⟨h9, hlo, hhi⟩ := hin
    obtain ⟨-, hs2, -, -, hv, -⟩ := tk_sort g1.2.2.2.1
    have cs := hs2.mpr h9
    have ev := hv cs
    obtain ⟨v, e12, -, hvC⟩ := num_w (v := J1 240 12) (l := 0) (m := C 0 - 1) (by omega) (by omega) hlo hhi
    have hv20 : v < 20 := by omega
    have e207 := m207_y (K := K1) hm h9 hlo hhi
    rw [e12] at e207 ev hlo hhi
    have hrainy := isRainy_eq (I := I1) (L := L1) hfl (w v)
    rw [q_at_w (by omega) hv20] at hrainy
    have hbit := bit_eq (I := J1) (L := K1) (s := s2) (J1 f 10) (w v)
    by_cases hrn : qd I1 t 15 v = 1
    · right
      have fa := go_fault cx g1 (r := 3) (by decide) (by decide)
      have h51 : (q_up J1 240 (q_set (q_set (q_set (J1 240) 13 3) 14 (J1 240 10)) 9 5)) 240 9 = 5 := fa_5 fa
      refine ⟨_, _, _, _, fin0 _ _ ?_, ?_, fa⟩
      · rw [if_pos hrn] at hrainy
        rw [D_66, E_66_0]
        simp only [↓reduceIte, q_i, q_l, q_k, q_r, q_z, q_si, q_sl, jx_lt, jx_ri, jx_rl, jx_rv, if_true, if_false, Nat.reduceLeDiff, Nat.add_one_ne_zero, and_self, true_or, or_true, Nat.reduceEqDiff, or_self, or_false, false_or, k6, r0, k7, cs, r5, t0, hfl.1, ev, hrainy, show ¬ (1 : Int32) = 0 by decide, c51 hr]
        rfl
      · rw [if_pos (show (J1 f 10 >>> (w v &&& 31)) &&& 1 = 1 from (u7 v hv20).1.mp hrn)] at hbit
        rw [D_229, E_229_0]
        simp only [↓reduceIte, q_i, q_l, q_k, q_r, q_z, q_si, q_sl, jx_lt, jx_ri, jx_rl, jx_rv, if_true, if_false, Nat.reduceLeDiff, Nat.add_one_ne_zero, and_self, true_or, or_true, Nat.reduceEqDiff, or_self, or_false, false_or, mo_k hm, h4, hf0, mf_k hf, hE11, e212, hJ0, hla, e207, h9, show ¬ (3 : Int32) = 5 by decide, hbit, show ¬ (1 : Int32) = 0 by decide, m203 hm g1.2.2.1]
        rw [E_229_1]
        simp only [↓reduceIte, q_i, q_l, q_k, q_r, q_z, q_si, q_sl, jx_lt, jx_ri, jx_rl, jx_rv, if_true, if_false, Nat.reduceLeDiff, Nat.add_one_ne_zero, and_self, true_or, or_true, Nat.reduceEqDiff, or_self, or_false, false_or, mo_k hm, z202 hm h51, h51]
        rfl
    · left
      obtain ⟨I5, L5, J5, K5, e5, d5, g5, fI, fJ⟩ := go_next cx (zp_stab ht hf9) g1 (by rw [cs]; decide) (by rw [cs]; decide)
      have hz5 := g5.2.2.2.2
      have q5 : qd I5 t = qd I1 t := qd_same fun a a1 a2 => fI a (by omega)
      obtain ⟨C', cC, cO⟩ : ∃ C' : Nat → Nat, C' 10 = C 10 + 1 ∧ ∀ k, k ≠ 10 → C' k = C k := ⟨fun k => if k = 10 then C 10 + 1 else C k, rfl, fun k hk3 => if_neg hk3⟩
      have hJ5 : J5 f 11 = w (C 10) := hz5.2.1.2.2.1
      have hs15 : q_put 20 (qd I5 t 15) (w v) 1 = q_set (I5 (t + 1 + 2 * 15 + 1)) v 1 := q_put_w (by omega) hv20
      have hI5 : q_up I5 (t + 1 + 2 * 15 + 1) (q_set (I5 (t + 1 + 2 * 15 + 1)) v 1) (t + 2) 10 = w (C 10) := by
        rw [q_up_ne (by omega)]; exact (zp_f hz5 (by omega)).1
      refine ⟨C', q_up (q_up I5 (t + 1 + 2 * 15 + 1) (q_set (I5 (t + 1 + 2 * 15 + 1)) v 1)) (t + 2) (q_set (q_up I5 (t + 1 + 2 * 15 + 1) (q_set (I5 (t + 1 + 2 * 15 + 1)) v 1) (t + 2)) 10 (w (C 10 + 1))), L5, q_up J5 f (q_set (q_set (J5 f) 10 (J5 f 10 ||| ((1 : Int32) <<< (w v &&& 31)))) 11 (w (C 10 + 1))), K5, ?_, ?_, ?_, ?_⟩
      · have e66 : jD 66 [.ref 181] (I1, L1, s) = some (some (.int 1), q_up I5 (t + 1 + 2 * 15 + 1) (q_set (I5 (t + 1 + 2 * 15 + 1)) v 1), L5, s) := by
          have e69 : jD 69 [.ref 181, .int 0, .int (w (C 0 - 1))] (I1, L1, s) = some (some (.int (w v)), I5, L5, s) := by
            simp only [D_69, E_69_0, E_69_1, E_69_3, ↓reduceIte, q_i, q_l, q_k, q_r, q_z, q_si, q_sl, jx_lt, jx_ri, jx_rl, jx_rv, if_true, if_false, Nat.reduceLeDiff, Nat.add_one_ne_zero, and_self, true_or, or_true, Nat.reduceEqDiff, or_self, or_false, false_or, k6, r0, k7, cs, ev, hlo, hhi, e5]
          rw [if_neg hrn] at hrainy
          rw [D_66, E_66_0]
          simp only [↓reduceIte, q_i, q_l, q_k, q_r, q_z, q_si, q_sl, jx_lt, jx_ri, jx_rl, jx_rv, if_true, if_false, Nat.reduceLeDiff, Nat.add_one_ne_zero, and_self, true_or, or_true, Nat.reduceEqDiff, or_self, or_false, false_or, k6, r0, k7, cs, r5, t0, hfl.1, ev, hrainy]
          rw [E_66_1]
          simp only [↓reduceIte, q_i, q_l, q_k, q_r, q_z, q_si, q_sl, jx_lt, jx_ri, jx_rl, jx_rv, if_true, if_false, Nat.reduceLeDiff, Nat.add_one_ne_zero, and_self, true_or, or_true, Nat.reduceEqDiff, or_self, or_false, false_or, k6, r5, t0, hfl.1, lastDay_eq hfl, hI0, hla, e69, show ¬ w v = (-1 : Int32) from w_m1 (by omega)]
          rw [E_66_2]
          simp only [↓reduceIte, q_i, q_l, q_k, q_r, q_z, q_si, q_sl, jx_lt, jx_ri, jx_rl, jx_rv, if_true, if_false, Nat.reduceLeDiff, Nat.add_one_ne_zero, and_self, true_or, or_true, Nat.reduceEqDiff, or_self, or_false, false_or, k6, r5, t0, hfl.1, setRain_eq hfl, hs15]
        rw [cl, E_53_17]
        simp only [↓reduceIte, q_i, q_l, q_k, q_r, q_z, q_si, q_sl, jx_lt, jx_ri, jx_rl, jx_rv, if_true, if_false, Nat.reduceLeDiff, Nat.add_one_ne_zero, and_self, true_or, or_true, Nat.reduceEqDiff, or_self, or_false, false_or, k6, e66]
        exact end_ok hr (x := 10) (by omega) (by omega) hI5
      · have hno : ¬ (J1 f 10 >>> (w v &&& 31)) &&& 1 = 1 := fun z => hrn ((u7 v hv20).1.mpr z)
        rw [if_neg hno] at hbit
        rw [D_229, E_229_0]
        simp only [↓reduceIte, q_i, q_l, q_k, q_r, q_z, q_si, q_sl, jx_lt, jx_ri, jx_rl, jx_rv, if_true, if_false, Nat.reduceLeDiff, Nat.add_one_ne_zero, and_self, true_or, or_true, Nat.reduceEqDiff, or_self, or_false, false_or, mo_k hm, h4, hf0, mf_k hf, hE11, e212, hJ0, hla, e207, h9, show ¬ (3 : Int32) = 5 by decide, hbit]
        rw [E_229_1]
        simp only [↓reduceIte, q_i, q_l, q_k, q_r, q_z, q_si, q_sl, jx_lt, jx_ri, jx_rl, jx_rv, if_true, if_false, Nat.reduceLeDiff, Nat.add_one_ne_zero, and_self, true_or, or_true, Nat.reduceEqDiff, or_self, or_false, false_or, mo_k hm, d5, g5.2.2.1]
        rw [E_229_2]
        have o1 : q_set (J5 f) 10 (J5 f 10 ||| ((1 : Int32) <<< (w v &&& 31))) 11 = w (C 10) := by rw [q_set_ne (by omega)]; exact hJ5
        simp only [↓reduceIte, q_i, q_l, q_k, q_r, q_z, q_si, q_sl, jx_lt, jx_ri, jx_rl, jx_rv, if_true, if_false, Nat.reduceLeDiff, Nat.add_one_ne_zero, and_self, true_or, or_true, Nat.reduceEqDiff, or_self, or_false, false_or, mo_k hm, h4, hf0, mf_k hf, q_up_eq, q_up_up, o1, w_inc]
      · have eD : ∀ k, qd (q_up (q_up I5 (t + 1 + 2 * 15 + 1) (q_set (I5 (t + 1 + 2 * 15 + 1)) v 1)) (t + 2) (q_set (q_up I5 (t + 1 + 2 * 15 + 1) (q_set (I5 (t + 1 + 2 * 15 + 1)) v 1) (t + 2)) 10 (w (C 10 + 1)))) t k = if k = 0 then q_set (I5 (t + 2)) 10 (w (C 10 + 1)) else if k = 15 then q_set (I5 (t + 1 + 2 * 15 + 1)) v 1 else qd I5 t k := fun k => by
          rw [q_up_ne (show t + 2 ≠ t + 1 + 2 * 15 + 1 by omega)]
          have a1 := congrFun (qd_up (I := q_up I5 (t + 1 + 2 * 15 + 1) (q_set (I5 (t + 1 + 2 * 15 + 1)) v 1)) (t := t) (r := 0) (g := q_set (I5 (t + 2)) 10 (w (C 10 + 1))) (by omega)) k
          have a2 := congrFun (qd_up (I := I5) (t := t) (r := 15) (g := q_set (I5 (t + 1 + 2 * 15 + 1)) v 1) (by omega)) k
          refine a1.trans ?_
          show (if k = 0 then _ else qd _ t k) = _
          rw [a2]
        have eE : ∀ k, qme (q_up J5 f (q_set (q_set (J5 f) 10 (J5 f 10 ||| ((1 : Int32) <<< (w v &&& 31)))) 11 (w (C 10 + 1)))) f k = if k = 0 then q_set (q_set (J5 f) 10 (J5 f 10 ||| ((1 : Int32) <<< (w v &&& 31)))) 11 (w (C 10 + 1)) else qme J5 f k := fun k => congrFun (me_up (r := 0) (by omega)) k
        refine go_put cx g5 (fun a ha => by rw [q_up_ne (by omega), q_up_ne (by omega)]) (fun a ha => q_up_ne (by omega)) (fun a ha => rfl) ?_ ⟨?_, ?_⟩
        · obtain ⟨c, hc, e⟩ := g5.1.2.2.2.2.2.2
          exact ⟨c, hc, by rw [q_up_eq, q_set_ne (by omega), q_set_ne (by omega)]; exact e⟩
        · obtain ⟨n1, n2, n3, n4, n5⟩ := hz5.1
          rw [cO 3 (by omega), cO 5 (by omega), cO 8 (by omega)]
          refine ⟨n1, n2, ?_, ?_, fun i hi => ?_⟩
          · rw [q_up_ne (by omega), q_up_ne (by omega)]; exact n3
          · rw [q_up_eq, q_set_ne (by omega), q_set_ne (by omega)]; exact n4
          · rw [q_up_ne (show (183 + 1 : Nat) ≠ t + 2 by omega), q_up_ne (show (183 + 1 : Nat) ≠ t + 1 + 2 * 15 + 1 by omega), q_up_ne (show (185 + 1 : Nat) ≠ t + 2 by omega), q_up_ne (show (185 + 1 : Nat) ≠ t + 1 + 2 * 15 + 1 by omega), q_up_ne (show f + 22 ≠ f by omega), q_up_ne (show f + 23 ≠ f by omega)]
            exact n5 i hi
        · refine fy_rain (v := v) hz5.2 (by omega) h10 cC cO (fun k a1 a2 => ?_) (fun k a1 => ?_) (fun k a1 => ?_) ?_ ?_ (fun i hi => ?_) (fun k a1 a2 => ?_) ?_ ?_
          · rw [eD, if_neg a1, if_neg a2]
          · rw [eE, if_neg a1]
          · rw [eD, if_pos rfl, q_set_ne a1]; rfl
          · rw [eD, if_pos rfl, q_set_eq]
          · rw [eD, if_neg (by omega), if_pos rfl, q_set_eq]
          · rw [eD, if_neg (by omega), if_pos rfl, q_set_ne hi]; rfl
          · rw [eE, if_pos rfl, q_set_ne a2, q_set_ne a1]; rfl
          · rw [eE, if_pos rfl, q_set_ne (by omega), q_set_eq]; rfl
          · rw [eE, if_pos rfl, q_set_eq]
      · exact mu_up (x := 10) (by omega) (by omega) h0 cC cO
  · right
    obtain ⟨I', J', c69, e207, fa⟩ := m207_n cx g1 (lo := 0) (hi := w (C 0 - 1)) hin
    have h5 := fa_5 fa
    refine ⟨I', L1, J', K1, fin0 _ _ ?_, ?_, fa⟩
    · have b1 : jd 66 1 [some (.ref 181), none] [] (I1, L1, s) = some (some (.int 0), I', L1, s) := by
        rw [E_66_1]
        simp only [↓reduceIte, q_i, q_l, q_k, q_r, q_z, q_si, q_sl, jx_lt, jx_ri, jx_rl, jx_rv, if_true, if_false, Nat.reduceLeDiff, Nat.add_one_ne_zero, and_self, true_or, or_true, Nat.reduceEqDiff, or_self, or_false, false_or, k6, r5, t0, hfl.1, lastDay_eq hfl, hI0, hla, c69]
      rw [D_66, E_66_0]
      by_cases cs : I1 187 4 = 2
      · obtain ⟨-, hs2, -, -, hv, -⟩ := tk_sort g1.2.2.2.1
        have ev := hv cs
        have hno : ¬ q_at 20 (qd I1 t 15) (I1 187 6) = 1 := fun z => by
          unfold q_at at z
          by_cases c1 : I1 187 6 < 0
          · rw [if_pos c1] at z; exact absurd z (by decide)
          · rw [if_neg c1] at z
            by_cases c2 : w 20 ≤ I1 187 6
            · rw [if_pos c2] at z; exact absurd z (by decide)
            · rw [if_neg c2] at z
              obtain ⟨e, hlt⟩ := i_nn c1
              have hd20 : (I1 187 6).toNatClampNeg < 20 := by
                rw [e, w_le (by omega) hlt] at c2; omega
              have hdC := (u7 _ hd20).2 z
              apply hin
              refine ⟨hs2.mp cs, by rw [← ev]; exact c1, ?_⟩
              rw [← ev, e, w_le hlt (by omega)]
              omega
        have hrainy := isRainy_eq (I := I1) (L := L1) hfl (I1 187 6)
        rw [if_neg hno] at hrainy
        simp only [↓reduceIte, q_i, q_l, q_k, q_r, q_z, q_si, q_sl, jx_lt, jx_ri, jx_rl, jx_rv, if_true, if_false, Nat.reduceLeDiff, Nat.add_one_ne_zero, and_self, true_or, or_true, Nat.reduceEqDiff, or_self, or_false, false_or, k6, r0, k7, cs, r5, t0, hfl.1, hrainy, b1]
      · simp only [↓reduceIte, q_i, q_l, q_k, q_r, q_z, q_si, q_sl, jx_lt, jx_ri, jx_rl, jx_rv, if_true, if_false, Nat.reduceLeDiff, Nat.add_one_ne_zero, and_self, true_or, or_true, Nat.reduceEqDiff, or_self, or_false, false_or, k6, r0, k7, cs, b1]
    · rw [D_229, E_229_0]
      simp only [↓reduceIte, q_i, q_l, q_k, q_r, q_z, q_si, q_sl, jx_lt, jx_ri, jx_rl, jx_rv, if_true, if_false, Nat.reduceLeDiff, Nat.add_one_ne_zero, and_self, true_or, or_true, Nat.reduceEqDiff, or_self, or_false, false_or, mo_k hm, h4, hf0, mf_k hf, hE11, e212, hJ0, hla, e207, h5]
      rw [E_229_1]
      simp only [↓reduceIte, q_i, q_l, q_k, q_r, q_z, q_si, q_sl, jx_lt, jx_ri, jx_rl, jx_rv, if_true, if_false, Nat.reduceLeDiff, Nat.add_one_ne_zero, and_self, true_or, or_true, Nat.reduceEqDiff, or_self, or_false, false_or, mo_k hm, z202 hm h5, h5]
end PRb
