/-! READING: the line of one that flies, its end -/
section PFm
variable {s s2 : qS} {t f n : Nat} {b : Nat → Nat} {I0 J0 I J : qI} {L0 K0 L K : qL} {C : Nat → Nat}
theorem line_flies (cx : qCx s s2 t f n b I0 J0) (h : qGo (qZp t f 0 C) t f n I0 L0 J0 K0 I L J K) (hk : I 187 4 = 1) (h0 : C 0 ≠ 0) : qLine C (jd 53 7 [some (.ref 181), none, some (.int 1), none, none] [] (I, L, s)) (jD 224 [.ref 240] (J, K, s2)) s s2 t f n I0 L0 J0 K0 := by
  obtain ⟨hr, hn, -, hm, h4, hf, hf0, hf9, -, -, htx⟩ := id cx
  obtain ⟨k6, r0, r1, r2, r3, r5, k182, z182, row2, row3, k7, r7, rt, hfl, ht⟩ := id hr
  have t0 : ¬ t = 0 := by omega
  have r6' := fl_k hfl (k := 6) (n := 6) (by omega) rfl
  have r7' := fl_k hfl (k := 7) (n := 6) (by omega) rfl
  have r8' := fl_k hfl (k := 8) (n := 6) (by omega) rfl
  have hz : qStab (qZp t f 0 C) := zp_stab ht hf9
  obtain ⟨I1, L1, J1, K1, e1, d1, g1, -⟩ := go_next cx hz h (by rw [hk]; decide) (by rw [hk]; decide)
  have l0 : C 0 ≤ 20 := (h.2.2.2.2.2.1.1 0 (by omega)).2
  have l3 : C 3 ≤ 8 := (h.2.2.2.2.2.1.1 3 (by omega)).2
  have l5 : C 5 ≤ 6 := (h.2.2.2.2.2.1.1 5 (by omega)).2
  have hla : w (C 0) - 1 = w (C 0 - 1) := w_dec (by omega) (by omega)
  have hE0 : J f 0 ≠ 0 := by
    rw [zp_m h.2.2.2.2 (by omega)]
    exact fun z => h0 ((w_zero (by omega)).mp z)
  have e212 := m212_go (J := J) (K := K) (x := 0) (y := 1) hm h4 hf hf0 (by decide) hE0 d1
  have cl : jd 53 7 [some (.ref 181), none, some (.int 1), none, none] [] (I, L, s) = jd 53 9 [some (.ref 181), none, some (.int 1), none, none] [] (I1, L1, s) := by
    rw [E_53_7_1]
    simp only [↓reduceIte, q_i, q_l, q_k, q_r, q_z, q_si, q_sl, jx_lt, jx_ri, jx_rl, jx_rv, if_true, if_false, Nat.reduceLeDiff, Nat.add_one_ne_zero, and_self, true_or, or_true, Nat.reduceEqDiff, or_self, or_false, false_or, k6, r0, k7, e1]
  have fin0 : ∀ I' L', jD 60 [.ref 181] (I1, L1, s) = some (some (.int 0), I', L', s) → jd 53 7 [some (.ref 181), none, some (.int 1), none, none] [] (I, L, s) = some (some (.int 0), I', L', s) := fun I' L' e => by
    rw [cl, E_53_9]
    simp only [↓reduceIte, q_i, q_l, q_k, q_r, q_z, q_si, q_sl, jx_lt, jx_ri, jx_rl, jx_rv, if_true, if_false, Nat.reduceLeDiff, Nat.add_one_ne_zero, and_self, true_or, or_true, Nat.reduceEqDiff, or_self, or_false, false_or, k6, e]
    exact end_no
  have c4 : ∀ (M : jM) (x y : Int32), jd 60 4 [some (.ref 181), some (.int x), some (.int y), none] [.int (-1)] M = some (some (.int 0), M) := fun M x y => by
    rw [E_60_4, if_pos rfl, if_pos (Or.inl rfl)]
  rcases go_find (kc := 5) (kr := 1) (N := C 5) cx g1 g1.2.2.2.2.1 (fun z => absurd z (by decide)) (Or.inr (Or.inl ⟨rfl, rfl, rfl⟩)) with ⟨v, hv, cs, b1, b3⟩ | ⟨I2, J2, b1, b3, fa⟩
  · have m1 : ¬ w v = (-1 : Int32) := w_m1 (by omega)
    obtain ⟨c1, c2, hh, c3, hh3, c5, ⟨c6, c7⟩, -, -⟩ := g1.2.2.2.2.2.2.2.2.1 v hv
    have c6' : J1 (f + 7) v = qd I1 t 7 v := c6
    have c5' : J1 (f + 6) v = w hh := c5
    have q7 : q_at 6 (I1 (t + 1 + 2 * 7 + 1)) (w v) = qd I1 t 7 v := q_at_w (by omega) (by omega)
    rcases c7 with c7 | ⟨a, c7, a20⟩
    · rw [c7] at c6' q7
      obtain ⟨I2, L2, J2, K2, e2, d2, g2, fI2, fJ2⟩ := go_next cx hz g1 (by rw [cs]; decide) (by rw [cs]; decide)
      have hz2 := g2.2.2.2.2
      have hI0 : qd I2 t 0 0 = w (C 0) := (hz2.2.1.1 0 (by omega)).1
      have hJ0 : J2 f 0 - 1 = w (C 0 - 1) := by rw [zp_m hz2 (by omega), hla]
      have rf0 : jD 224 [.ref 240] (J, K, s2) = jx_ri (jD 210 [.ref 240, .int 0] (J2, K2, s2)) fun v3 M2 => if jm_k M2 240 = 13 then if jm_i M2 240 9 = 5 then jd 224 3 [some (.ref 240), some (.int (w v)), some (.int v3), none, none, none, none] [.int 0] M2 else jd 224 2 [some (.ref 240), some (.int (w v)), some (.int v3), none, none, none, none] [] M2 else none := by
        rw [D_224, E_224_0]
        simp only [↓reduceIte, q_i, q_l, q_k, q_r, q_z, q_si, q_sl, jx_lt, jx_ri, jx_rl, jx_rv, if_true, if_false, Nat.reduceLeDiff, Nat.add_one_ne_zero, and_self, true_or, or_true, Nat.reduceEqDiff, or_self, or_false, false_or, mo_k hm, e212, b3, g1.2.2.1, h4, hf0, mf_k hf, mf_r20 hf, mf_k20 hf, mf_z20 hf, Nat.add_eq_zero_iff, and_false, w_nn (a := v) (by omega), show ¬ 6 ≤ v by omega, w_tc (a := v) (by omega), c6']
        rw [E_224_1]
        simp only [↓reduceIte, q_i, q_l, q_k, q_r, q_z, q_si, q_sl, jx_lt, jx_ri, jx_rl, jx_rv, if_true, if_false, Nat.reduceLeDiff, Nat.add_one_ne_zero, and_self, true_or, or_true, Nat.reduceEqDiff, or_self, or_false, false_or, mo_k hm, d2]
      rcases go_num cx hz g2 0 (w (C 0 - 1)) with ⟨v2, I3, L3, J3, K3, a1, a2, b4, b5, g3, fI3, fJ3⟩ | ⟨I3, L3, J3, K3, b4, b5, fa⟩
      · have hv2 : ¬ v2 = -1 := fun z => a1 (by rw [z]; decide)
        obtain ⟨dd, rfl, -, ddb⟩ := num_w (l := 0) (m := C 0 - 1) (by omega) (by omega) a1 a2
        have b6 := m210 hm h4 hf hf0 hJ0 b5
        have e31 : ∀ a, t ≤ a → a < t + 39 → I3 a = I1 a := fun a h1 h2 => by rw [fI3 a (by omega), fI2 a (by omega)]
        have q31 : qd I3 t = qd I1 t := qd_same e31
        have hm6 : J3 (f + 6) v = w hh := by rw [fJ3 _ (by omega), fJ2 _ (by omega)]; exact c5'
        have q6 : q_at 6 (I3 (t + 1 + 2 * 6 + 1)) (w v) = w hh := (q_at_w (by omega) (by omega)).trans (by rw [e31 _ (by omega) (by omega)]; exact c3)
        have gl : qGo (qZl t f (J3 (f + 9)) hh v 0 (fun _ => 0) C) t f n I0 L0 J0 K0 I3 L3 J3 K3 := by
          refine ⟨g3.1, g3.2.1, g3.2.2.1, g3.2.2.2.1, ?_, fun _ _ _ _ => rfl, fun i hi => absurd hi (Nat.not_lt_zero i), ⟨fun i hi => absurd hi (Nat.not_lt_zero i), fun z => absurd z (Nat.lt_irrefl 0), fun i hi => absurd hi (Nat.not_lt_zero _)⟩, ?_, ?_⟩
          · rw [q_up_self]; exact g3.2.2.2.2
          · rw [q31]; exact c3
          · rw [q31]; exact c7
        have ce : jD 60 [.ref 181] (I1, L1, s) = jx_ri (jd 61 1 [some (.ref 181), none, some (.int 0), some (.int (w hh)), some (.int 1), some (.int 0), none] [] (I3, L3, s)) fun v9 M8 => jd 60 4 [some (.ref 181), some (.int (w v)), some (.int (w dd)), none] [.int v9] M8 := by
          rw [D_60, E_60_0]
          simp only [↓reduceIte, q_i, q_l, q_k, q_r, q_z, q_si, q_sl, jx_lt, jx_ri, jx_rl, jx_rv, if_true, if_false, Nat.reduceLeDiff, Nat.add_one_ne_zero, and_self, true_or, or_true, Nat.reduceEqDiff, or_self, or_false, false_or, k6, b1, m1]
          rw [E_60_1]
          simp only [↓reduceIte, q_i, q_l, q_k, q_r, q_z, q_si, q_sl, jx_lt, jx_ri, jx_rl, jx_rv, if_true, if_false, Nat.reduceLeDiff, Nat.add_one_ne_zero, and_self, true_or, or_true, Nat.reduceEqDiff, or_self, or_false, false_or, k6, r5, t0, hfl.1, r7'.1, r7'.2.1, look_eq r7'.2, q7, show (-2 : Int32) < 0 by decide]
          rw [E_60_2]
          simp only [↓reduceIte, q_i, q_l, q_k, q_r, q_z, q_si, q_sl, jx_lt, jx_ri, jx_rl, jx_rv, if_true, if_false, Nat.reduceLeDiff, Nat.add_one_ne_zero, and_self, true_or, or_true, Nat.reduceEqDiff, or_self, or_false, false_or, k6, r0, k7, e2, r5, t0, hfl.1, lastDay_eq hfl, hI0, hla, b4, hv2, r6'.1, r6'.2.1, look_eq r6'.2, q6, D_61, E_61_0]
        have rf : jD 224 [.ref 240] (J, K, s2) = jd 224 4 [some (.ref 240), some (.int (w v)), some (.int (w dd)), some (.int (w hh)), some (.int 0), some (.int 1), none] [] (J3, K3, s2) := by
          rw [rf0, b6]
          simp only [↓reduceIte, q_i, q_l, q_k, q_r, q_z, q_si, q_sl, jx_lt, jx_ri, jx_rl, jx_rv, if_true, if_false, Nat.reduceLeDiff, Nat.add_one_ne_zero, and_self, true_or, or_true, Nat.reduceEqDiff, or_self, or_false, false_or, mo_k hm, g3.2.2.1]
          rw [E_224_2]
          simp only [↓reduceIte, q_i, q_l, q_k, q_r, q_z, q_si, q_sl, jx_lt, jx_ri, jx_rl, jx_rv, if_true, if_false, Nat.reduceLeDiff, Nat.add_one_ne_zero, and_self, true_or, or_true, Nat.reduceEqDiff, or_self, or_false, false_or, mo_k hm, h4, hf0, mf_k hf, mf_r19 hf, mf_k19 hf, mf_z19 hf, Nat.add_eq_zero_iff, and_false, w_nn (a := v) (by omega), show ¬ 6 ≤ v by omega, w_tc (a := v) (by omega), hm6]
          rw [E_224_3]
        rcases route_rel cx (v := v) (by omega) hh3 l3 (w dd) 5 0 (fun _ => 0) I3 L3 J3 K3 rfl gl with ⟨k, g', I4, L4, J4, K4, k0, k5, e61, e224, g4⟩ | ⟨I4, L4, J4, K4, e61, e224, fa⟩
        · left
          obtain ⟨z1, z2, z3, z4, z5, z6⟩ := g4.2.2.2.2
          have hcd : q_cd g' k < 1048576 := Nat.lt_of_lt_of_le (cd_lt fun i hi => by have := z4.1 i hi; omega) (Nat.pow_le_pow_right (n := 16) (by omega) k5)
          have m2 : ¬ w (q_cd g' k) = (-1 : Int32) := fun e => w_nn (a := q_cd g' k) (by omega) (by rw [e]; decide)
          obtain ⟨Ia, hIa⟩ : ∃ Ia, Ia = q_up (q_up I4 (t + 1 + 2 * 7 + 1) (q_set (I4 (t + 1 + 2 * 7 + 1)) v (w dd))) (t + 1 + 2 * 8 + 1) (q_set (I4 (t + 1 + 2 * 8 + 1)) v (w (q_cd g' k))) := ⟨_, rfl⟩
          obtain ⟨Ja, hJa⟩ : ∃ Ja, Ja = q_up (q_up J4 (f + 7) (q_set (J4 (f + 7)) v (w dd))) (f + 8) (q_set (J4 (f + 8)) v (w k)) := ⟨_, rfl⟩
          have ia : ∀ a, a ≠ t + 1 + 2 * 7 + 1 → a ≠ t + 1 + 2 * 8 + 1 → Ia a = I4 a := fun a x y => by rw [hIa, q_up_ne y, q_up_ne x]
          have i7 : Ia (t + 1 + 2 * 7 + 1) = q_set (I4 (t + 1 + 2 * 7 + 1)) v (w dd) := by rw [hIa, q_up_ne (by omega), q_up_eq]
          have i8 : Ia (t + 1 + 2 * 8 + 1) = q_set (I4 (t + 1 + 2 * 8 + 1)) v (w (q_cd g' k)) := by rw [hIa, q_up_eq]
          have j0 : ∀ a, a ≠ f + 7 → a ≠ f + 8 → Ja a = J4 a := fun a x y => by rw [hJa, q_up_ne y, q_up_ne x]
          have j7 : Ja (f + 7) = q_set (J4 (f + 7)) v (w dd) := by rw [hJa, q_up_ne (by omega), q_up_eq]
          have j8 : Ja (f + 8) = q_set (J4 (f + 8)) v (w k) := by rw [hJa, q_up_eq]
          obtain ⟨C', cC, cO⟩ : ∃ C' : Nat → Nat, C' 12 = C 12 + 1 ∧ ∀ k, k ≠ 12 → C' k = C k := ⟨fun k => if k = 12 then C 12 + 1 else C k, rfl, fun k hk3 => if_neg hk3⟩
          refine ⟨C', Ia, L4, Ja, K4, ?_, ?_, ?_, mu_up (x := 12) (by omega) (by omega) h0 cC cO⟩
          · have e60 : jD 60 [.ref 181] (I1, L1, s) = some (some (.int 1), Ia, L4, s) := by
              have e61' : jd 61 1 [some (.ref 181), none, some (.int 0), some (.int (w hh)), some (.int 1), some (.int 0), none] [] (I3, L3, s) = some (some (.int (w (q_cd g' k))), I4, L4, s) := e61
              rw [ce, e61']
              show jd 60 4 [some (.ref 181), some (.int (w v)), some (.int (w dd)), none] [.int (w (q_cd g' k))] (I4, L4, s) = _
              rw [E_60_4, if_neg m2, E_60_5]
              simp only [↓reduceIte, q_i, q_l, q_k, q_r, q_z, q_si, q_sl, jx_lt, jx_ri, jx_rl, jx_rv, if_true, if_false, Nat.reduceLeDiff, Nat.add_one_ne_zero, and_self, true_or, or_true, Nat.reduceEqDiff, or_self, or_false, false_or, k6, r5, t0, hfl.1, r7'.1, r7'.2.1, put_eq r7'.2, q_put_w (n := 6) (k := v) (by omega) (by omega), r8'.1, r8'.2.1, put_eq r8'.2]
              rw [q_up_ne (show t + 1 + 2 * 8 + 1 ≠ t + 1 + 2 * 7 + 1 by omega), hIa]
            rw [cl, E_53_9]
            simp only [↓reduceIte, q_i, q_l, q_k, q_r, q_z, q_si, q_sl, jx_lt, jx_ri, jx_rl, jx_rv, if_true, if_false, Nat.reduceLeDiff, Nat.add_one_ne_zero, and_self, true_or, or_true, Nat.reduceEqDiff, or_self, or_false, false_or, k6, e60]
            rw [E_53_19, if_neg (by decide), if_pos (by decide), E_53_20, if_pos (Or.inr rfl)]
          · have e224' : jd 224 4 [some (.ref 240), some (.int (w v)), some (.int (w dd)), some (.int (w hh)), some (.int 0), some (.int 1), none] [] (J3, K3, s2) = jd 224 8 [some (.ref 240), some (.int (w v)), some (.int (w dd)), none, some (.int (w k)), none, none] [] (J4, K4, s2) := e224
            have m3 : ∀ g, q_up J4 (f + 7) g (f + 8) = J4 (f + 8) := fun g => q_up_ne (by omega)
            rw [rf, e224', E_224_8]
            simp only [↓reduceIte, q_i, q_l, q_k, q_r, q_z, q_si, q_sl, jx_lt, jx_ri, jx_rl, jx_rv, if_true, if_false, Nat.reduceLeDiff, Nat.add_one_ne_zero, and_self, true_or, or_true, Nat.reduceEqDiff, or_self, or_false, false_or, mo_k hm, h4, hf0, mf_k hf, mf_r20 hf, mf_k20 hf, mf_z20 hf, mf_r21 hf, mf_k21 hf, mf_z21 hf, Nat.add_eq_zero_iff, and_false, w_nn (a := v) (by omega), show ¬ 6 ≤ v by omega, w_tc (a := v) (by omega), m3]
            rw [hJa]
          · have hna := na_l g4.2.2.2.2
            refine go_put cx g4 (fun a ha => ia a (by omega) (by omega)) (fun a ha => j0 a (by omega) (by omega)) (fun a _ => rfl) ?_ ⟨?_, ?_⟩
            · obtain ⟨c, hc, e⟩ := g4.1.2.2.2.2.2.2
              exact ⟨c, hc, by rw [j0 _ (by omega) (by omega)]; exact e⟩
            · rw [cO 3 (by omega), cO 5 (by omega), cO 8 (by omega)]
              unfold qNa at hna ⊢
              rw [ia 181 (by omega) (by omega), ia (183 + 1) (by omega) (by omega), ia (185 + 1) (by omega) (by omega), j0 f (by omega) (by omega), j0 (f + 22) (by omega) (by omega), j0 (f + 23) (by omega) (by omega)]
              exact hna
            · have hE : ∀ k, k ≠ 9 → qme (q_up J4 (f + 9) (J3 (f + 9))) f k = qme J4 f k := fun k hk9 => me_of fun hk => q_up_ne (by omega)
              refine fy_flies (v := v) (dd := dd) (k := k) (g := g') z1.2 h0 cC cO (fun k z => qd_of fun hk => ia _ (by omega) (by omega)) (fun k z => ?_) hv z6 (by omega) k5 (fun h e h8 => ?_) (fun i => ?_) (fun i => ?_) (fun i => ?_) (fun i => ?_) (fun i hi => ?_) (fun u i hu hi => ?_)
              · rw [hE k z.2.2]
                exact me_of fun hk => j0 _ (by omega) (by omega)
              · have e6 : w hh = w h := z5.symm.trans e
                rw [w_eq (by omega) (by omega)] at e6
                rw [← e6]
                exact path_rt l3 k5 z4
              · rw [qd_at (by omega), qd_at (by omega), i7]; rfl
              · rw [qd_at (by omega), qd_at (by omega), i8]; rfl
              · rw [hE 7 (by omega), me_at (by omega), me_at (by omega), j7]; rfl
              · rw [hE 8 (by omega), me_at (by omega), me_at (by omega), j8]; rfl
              · rw [me_at (by omega), j0 _ (by omega) (by omega)]; exact z3 i hi
              · rw [me_at (by omega), me_at (by omega), j0 _ (by omega) (by omega), q_up_eq]; exact z2 u i hu hi
        · right
          have e61' : jd 61 1 [some (.ref 181), none, some (.int 0), some (.int (w hh)), some (.int 1), some (.int 0), none] [] (I3, L3, s) = some (some (.int (-1)), I4, L4, s) := e61
          refine ⟨I4, L4, J4, K4, fin0 _ _ ?_, ?_, fa⟩
          · rw [ce, e61']
            exact c4 _ _ _
          · rw [rf]
            exact e224
      · right
        have h5 := fa_5 fa
        obtain ⟨c', hc', h13⟩ := fa_c fa
        refine ⟨I3, L3, J3, K3, fin0 _ _ ?_, ?_, fa⟩
        · rw [D_60, E_60_0]
          simp only [↓reduceIte, q_i, q_l, q_k, q_r, q_z, q_si, q_sl, jx_lt, jx_ri, jx_rl, jx_rv, if_true, if_false, Nat.reduceLeDiff, Nat.add_one_ne_zero, and_self, true_or, or_true, Nat.reduceEqDiff, or_self, or_false, false_or, k6, b1, m1]
          rw [E_60_1]
          simp only [↓reduceIte, q_i, q_l, q_k, q_r, q_z, q_si, q_sl, jx_lt, jx_ri, jx_rl, jx_rv, if_true, if_false, Nat.reduceLeDiff, Nat.add_one_ne_zero, and_self, true_or, or_true, Nat.reduceEqDiff, or_self, or_false, false_or, k6, r5, t0, hfl.1, r7'.1, r7'.2.1, look_eq r7'.2, q7, show (-2 : Int32) < 0 by decide]
          rw [E_60_2]
          simp only [↓reduceIte, q_i, q_l, q_k, q_r, q_z, q_si, q_sl, jx_lt, jx_ri, jx_rl, jx_rv, if_true, if_false, Nat.reduceLeDiff, Nat.add_one_ne_zero, and_self, true_or, or_true, Nat.reduceEqDiff, or_self, or_false, false_or, k6, r0, k7, e2, r5, t0, hfl.1, lastDay_eq hfl, hI0, hla, b4]
          rw [E_60_3]
          exact c4 _ _ _
        · rw [rf0, m210 hm h4 hf hf0 hJ0 b5]
          simp only [↓reduceIte, q_i, q_l, q_k, q_r, q_z, q_si, q_sl, jx_lt, jx_ri, jx_rl, jx_rv, if_true, if_false, Nat.reduceLeDiff, Nat.add_one_ne_zero, and_self, true_or, or_true, Nat.reduceEqDiff, or_self, or_false, false_or, mo_k hm, h5, z224_3 hm h4 hf hf0 hc' h13 h5]
    · right
      have fa := go_fault cx g1 (r := 3) (by decide) (by decide)
      have h51 : (q_up J1 240 (q_set (q_set (q_set (J1 240) 13 3) 14 (J1 240 10)) 9 5)) 240 9 = 5 := fa_5 fa
      obtain ⟨c, hc, h13⟩ := fa_c fa
      have h13' : q_up J1 240 (q_set (q_set (q_set (J1 240) 13 3) 14 (J1 240 10)) 9 5) f 13 = w c := h13
      rw [c7] at c6' q7
      refine ⟨_, _, _, _, fin0 _ _ ?_, ?_, fa⟩
      · rw [D_60, E_60_0]
        simp only [↓reduceIte, q_i, q_l, q_k, q_r, q_z, q_si, q_sl, jx_lt, jx_ri, jx_rl, jx_rv, if_true, if_false, Nat.reduceLeDiff, Nat.add_one_ne_zero, and_self, true_or, or_true, Nat.reduceEqDiff, or_self, or_false, false_or, k6, b1, m1]
        rw [E_60_1]
        simp only [↓reduceIte, q_i, q_l, q_k, q_r, q_z, q_si, q_sl, jx_lt, jx_ri, jx_rl, jx_rv, if_true, if_false, Nat.reduceLeDiff, Nat.add_one_ne_zero, and_self, true_or, or_true, Nat.reduceEqDiff, or_self, or_false, false_or, k6, r5, t0, hfl.1, r7'.1, r7'.2.1, look_eq r7'.2, q7, w_nn (show a < 2147483648 by omega), c51 hr]
        rfl
      · rw [D_224, E_224_0]
        simp only [↓reduceIte, q_i, q_l, q_k, q_r, q_z, q_si, q_sl, jx_lt, jx_ri, jx_rl, jx_rv, if_true, if_false, Nat.reduceLeDiff, Nat.add_one_ne_zero, and_self, true_or, or_true, Nat.reduceEqDiff, or_self, or_false, false_or, mo_k hm, e212, b3, g1.2.2.1, h4, hf0, mf_k hf, mf_r20 hf, mf_k20 hf, mf_z20 hf, Nat.add_eq_zero_iff, and_false, w_nn (a := v) (by omega), show ¬ 6 ≤ v by omega, w_tc (a := v) (by omega), c6', show ¬ w a = (-2 : Int32) from w_m2 (by omega), m203 hm g1.2.2.1]
        exact z224_1 hm h4 hf hf0 hc h13' h51 _
  · right
    have h5 := fa_5 fa
    obtain ⟨c, hc, h13⟩ := fa_c fa
    refine ⟨I2, L1, J2, K1, fin0 _ _ ?_, ?_, fa⟩
    · rw [D_60, E_60_0]
      simp only [↓reduceIte, q_i, q_l, q_k, q_r, q_z, q_si, q_sl, jx_lt, jx_ri, jx_rl, jx_rv, if_true, if_false, Nat.reduceLeDiff, Nat.add_one_ne_zero, and_self, true_or, or_true, Nat.reduceEqDiff, or_self, or_false, false_or, k6, b1]
    · rw [D_224, E_224_0]
      simp only [↓reduceIte, q_i, q_l, q_k, q_r, q_z, q_si, q_sl, jx_lt, jx_ri, jx_rl, jx_rv, if_true, if_false, Nat.reduceLeDiff, Nat.add_one_ne_zero, and_self, true_or, or_true, Nat.reduceEqDiff, or_self, or_false, false_or, mo_k hm, h4, hf0, mf_k hf, e212, b3, h5]
      exact z224_1 hm h4 hf hf0 hc h13 h5 _
end PFm
