/-! READING: the line of a wind, both sides -/
section PRc
variable {s s2 : qS} {t f n : Nat} {b : Nat → Nat} {I0 J0 I J : qI} {L0 K0 L K : qL} {Z : qI → qL → qI → qL → Prop} {C : Nat → Nat}
theorem line_wind (cx : qCx s s2 t f n b I0 J0) (h : qGo (qZp t f 0 C) t f n I0 L0 J0 K0 I L J K) (hk : I 187 4 = 1) (h0 : C 0 ≠ 0) (h11 : C 11 < 6) : qLine C (jd 53 7 [some (.ref 181), none, some (.int 11), none, none] [] (I, L, s)) (jD 230 [.ref 240] (J, K, s2)) s s2 t f n I0 L0 J0 K0 := by
  obtain ⟨hr, hn, -, hm, h4, hf, hf0, hf9, -, -, htx⟩ := id cx
  obtain ⟨k6, r0, r1, r2, r3, r5, k182, z182, row2, row3, k7, r7, rt, hfl, ht⟩ := id hr
  have t0 : ¬ t = 0 := by omega
  have r16 := fl_k hfl (k := 16) (n := 6) (by omega) rfl
  have r17 := fl_k hfl (k := 17) (n := 6) (by omega) rfl
  have r18 := fl_k hfl (k := 18) (n := 6) (by omega) rfl
  have hz : qStab (qZp t f 0 C) := zp_stab ht hf9
  obtain ⟨I1, L1, J1, K1, e1, d1, g1, -⟩ := go_next cx hz h (by rw [hk]; decide) (by rw [hk]; decide)
  have l0 : C 0 ≤ 20 := (h.2.2.2.2.2.1.1 0 (by omega)).2
  have hE0 : J f 0 ≠ 0 := by
    rw [zp_m h.2.2.2.2 (by omega)]
    exact fun z => h0 ((w_zero (by omega)).mp z)
  have hE12 : J f 12 = w (C 11) := h.2.2.2.2.2.1.2.2.2.1
  have hI11 : qd I1 t 0 11 = w (C 11) := (g1.2.2.2.2.2.1.1 11 (by omega)).1
  have e212 := m212_go (J := J) (K := K) (x := w (C 11)) (y := 6) hm h4 hf hf0 (fun z => by
    have := (w_eq (a := C 11) (b := 6) (by omega) (by omega)).mp z
    omega) hE0 d1
  have cl : jd 53 7 [some (.ref 181), none, some (.int 11), none, none] [] (I, L, s) = jd 53 18 [some (.ref 181), none, some (.int 11), none, none] [] (I1, L1, s) := by
    rw [E_53_7_11]
    simp only [↓reduceIte, q_i, q_l, q_k, q_r, q_z, q_si, q_sl, jx_lt, jx_ri, jx_rl, jx_rv, if_true, if_false, Nat.reduceLeDiff, Nat.add_one_ne_zero, and_self, true_or, or_true, Nat.reduceEqDiff, or_self, or_false, false_or, k6, r0, k7, e1]
  have fin0 : ∀ I' L', jD 67 [.ref 181, .int (w (C 11))] (I1, L1, s) = some (some (.int 0), I', L', s) → jd 53 7 [some (.ref 181), none, some (.int 11), none, none] [] (I, L, s) = some (some (.int 0), I', L', s) := fun I' L' e => by
    rw [cl, E_53_18]
    simp only [↓reduceIte, q_i, q_l, q_k, q_r, q_z, q_si, q_sl, jx_lt, jx_ri, jx_rl, jx_rv, if_true, if_false, Nat.reduceLeDiff, Nat.add_one_ne_zero, and_self, true_or, or_true, Nat.reduceEqDiff, or_self, or_false, false_or, k6, r5, t0, hfl.1, winds_eq hfl, hI11, e]
    exact end_no
  have c4 : ∀ (M : jM) (x y z : Int32), jd 67 4 [some (.ref 181), some (.int x), some (.int y), some (.int z), none] [.int (-1)] M = some (some (.int 0), M) := fun M x y z => by
    rw [E_67_4, if_pos rfl, if_pos (Or.inl rfl)]
  have c2 : ∀ (M : jM) (x y : Int32), jd 67 2 [some (.ref 181), some (.int x), some (.int y), none, none] [.int (-1)] M = some (some (.int 0), M) := fun M x y => by
    rw [E_67_2, if_pos rfl, E_67_3]
    exact c4 M x y (-1)
  rcases go_num cx hz g1 0 100 with ⟨v1, I2, L2, J2, K2, a1, a2, b1, b3, g2, -⟩ | ⟨I2, L2, J2, K2, b1, b3, fa⟩
  · have hv1 : ¬ v1 = -1 := fun z => a1 (by rw [z]; decide)
    rcases go_wnum cx hz g2 (c := 28) (m := 57) (by omega) (by omega) t13.2.2.2.2.2.2.2.2.2.2.2.2.2.2.2.2.1 0 99 with ⟨v2, Ib, Lb, I3, L3, J3, K3, a3, a4, b4, b5, b6, g3⟩ | ⟨u, I3, L3, J3, K3, b4, b6, fa⟩
    · have hv2 : ¬ v2 = -1 := fun z => a3 (by rw [z]; decide)
      rcases go_wnum cx hz g3 (c := 29) (m := 58) (by omega) (by omega) t13.2.2.2.2.2.2.2.2.2.2.2.2.2.2.2.2.2 0 99 with ⟨v3, Ic, Lc, I4, L4, J4, K4, a5, a6, b7, b8, b9, g4⟩ | ⟨u, I4, L4, J4, K4, b7, b9, fa⟩
      · have hv3 : ¬ v3 = -1 := fun z => a5 (by rw [z]; decide)
        left
        obtain ⟨x1, rfl, -, x1b⟩ := num_w (l := 0) (m := 100) (by omega) (by omega) a1 a2
        obtain ⟨x2, rfl, -, x2b⟩ := num_w (l := 0) (m := 99) (by omega) (by omega) a3 a4
        obtain ⟨x3, rfl, -, x3b⟩ := num_w (l := 0) (m := 99) (by omega) (by omega) a5 a6
        have hz4 := g4.2.2.2.2
        have hJ12 : J4 f 12 = w (C 11) := hz4.2.1.2.2.2.1
        obtain ⟨C', cC, cO⟩ : ∃ C' : Nat → Nat, C' 11 = C 11 + 1 ∧ ∀ k, k ≠ 11 → C' k = C k := ⟨fun k => if k = 11 then C 11 + 1 else C k, rfl, fun k hk3 => if_neg hk3⟩
        obtain ⟨Ia, hIa⟩ : ∃ Ia, Ia = q_up (q_up (q_up I4 (t + 1 + 2 * 16 + 1) (q_set (I4 (t + 1 + 2 * 16 + 1)) (C 11) (w x1))) (t + 1 + 2 * 17 + 1) (q_set (I4 (t + 1 + 2 * 17 + 1)) (C 11) (w x2))) (t + 1 + 2 * 18 + 1) (q_set (I4 (t + 1 + 2 * 18 + 1)) (C 11) (w x3)) := ⟨_, rfl⟩
        obtain ⟨Ja, hJa⟩ : ∃ Ja, Ja = q_up (q_up (q_up (q_up J4 (f + 18) (q_set (J4 (f + 18)) (C 11) (w x1))) (f + 19) (q_set (J4 (f + 19)) (C 11) (w x2))) (f + 20) (q_set (J4 (f + 20)) (C 11) (w x3))) f (q_set (J4 f) 12 (w (C 11 + 1))) := ⟨_, rfl⟩
        have i0 : ∀ a, a ≠ t + 1 + 2 * 16 + 1 → a ≠ t + 1 + 2 * 17 + 1 → a ≠ t + 1 + 2 * 18 + 1 → Ia a = I4 a := fun a x y z => by rw [hIa, q_up_ne z, q_up_ne y, q_up_ne x]
        have i16 : Ia (t + 1 + 2 * 16 + 1) = q_set (I4 (t + 1 + 2 * 16 + 1)) (C 11) (w x1) := by rw [hIa, q_up_ne (by omega), q_up_ne (by omega), q_up_eq]
        have i17 : Ia (t + 1 + 2 * 17 + 1) = q_set (I4 (t + 1 + 2 * 17 + 1)) (C 11) (w x2) := by rw [hIa, q_up_ne (by omega), q_up_eq]
        have i18 : Ia (t + 1 + 2 * 18 + 1) = q_set (I4 (t + 1 + 2 * 18 + 1)) (C 11) (w x3) := by rw [hIa, q_up_eq]
        have j0 : ∀ a, a ≠ f → a ≠ f + 18 → a ≠ f + 19 → a ≠ f + 20 → Ja a = J4 a := fun a x y z u => by rw [hJa, q_up_ne x, q_up_ne u, q_up_ne z, q_up_ne y]
        have jf : Ja f = q_set (J4 f) 12 (w (C 11 + 1)) := by rw [hJa, q_up_eq]
        have j18 : Ja (f + 18) = q_set (J4 (f + 18)) (C 11) (w x1) := by rw [hJa, q_up_ne (by omega), q_up_ne (by omega), q_up_ne (by omega), q_up_eq]
        have j19 : Ja (f + 19) = q_set (J4 (f + 19)) (C 11) (w x2) := by rw [hJa, q_up_ne (by omega), q_up_ne (by omega), q_up_eq]
        have j20 : Ja (f + 20) = q_set (J4 (f + 20)) (C 11) (w x3) := by rw [hJa, q_up_ne (by omega), q_up_eq]
        have hIa11 : Ia (t + 2) 11 = w (C 11) := by
          rw [i0 _ (by omega) (by omega) (by omega)]; exact (zp_f hz4 (by omega)).1
        refine ⟨C', q_up Ia (t + 2) (q_set (Ia (t + 2)) 11 (w (C 11 + 1))), L4, Ja, K4, ?_, ?_, ?_, ?_⟩
        · have e67 : jD 67 [.ref 181, .int (w (C 11))] (I1, L1, s) = some (some (.int 1), Ia, L4, s) := by
            rw [hIa, D_67, E_67_0]
            simp only [↓reduceIte, q_i, q_l, q_k, q_r, q_z, q_si, q_sl, jx_lt, jx_ri, jx_rl, jx_rv, if_true, if_false, Nat.reduceLeDiff, Nat.add_one_ne_zero, and_self, true_or, or_true, Nat.reduceEqDiff, or_self, or_false, false_or, k6, b1, hv1, b4, b5, show ¬ (1 : Int32) = 0 by decide]
            rw [E_67_2, if_neg hv2]
            simp only [↓reduceIte, q_i, q_l, q_k, q_r, q_z, q_si, q_sl, jx_lt, jx_ri, jx_rl, jx_rv, if_true, if_false, Nat.reduceLeDiff, Nat.add_one_ne_zero, and_self, true_or, or_true, Nat.reduceEqDiff, or_self, or_false, false_or, k6, b7, b8, show ¬ (1 : Int32) = 0 by decide]
            rw [E_67_4, if_neg hv3, E_67_5]
            simp only [↓reduceIte, q_i, q_l, q_k, q_r, q_z, q_si, q_sl, jx_lt, jx_ri, jx_rl, jx_rv, if_true, if_false, Nat.reduceLeDiff, Nat.add_one_ne_zero, and_self, true_or, or_true, Nat.reduceEqDiff, or_self, or_false, false_or, k6, r5, t0, hfl.1, r16.1, r16.2.1, put_eq r16.2, q_put_w (n := 6) (k := C 11) (by omega) h11, r17.1, r17.2.1, put_eq r17.2, r18.1, r18.2.1, put_eq r18.2]
            rw [q_up_ne (show t + 1 + 2 * 17 + 1 ≠ t + 1 + 2 * 16 + 1 by omega), q_up_ne (show t + 1 + 2 * 18 + 1 ≠ t + 1 + 2 * 17 + 1 by omega), q_up_ne (show t + 1 + 2 * 18 + 1 ≠ t + 1 + 2 * 16 + 1 by omega)]
          rw [cl, E_53_18]
          simp only [↓reduceIte, q_i, q_l, q_k, q_r, q_z, q_si, q_sl, jx_lt, jx_ri, jx_rl, jx_rv, if_true, if_false, Nat.reduceLeDiff, Nat.add_one_ne_zero, and_self, true_or, or_true, Nat.reduceEqDiff, or_self, or_false, false_or, k6, r5, t0, hfl.1, winds_eq hfl, hI11, e67]
          exact end_ok hr (x := 11) (by omega) (by omega) hIa11
        · have m1 : ∀ g, q_up J4 (f + 18) g f = J4 f := fun g => q_up_ne (by omega)
          have m2 : ∀ g g', q_up (q_up J4 (f + 18) g) (f + 19) g' f = J4 f := fun g g' => by rw [q_up_ne (by omega), q_up_ne (by omega)]
          have m3 : ∀ g g' g'', q_up (q_up (q_up J4 (f + 18) g) (f + 19) g') (f + 20) g'' f = J4 f := fun g g' g'' => by rw [q_up_ne (by omega), q_up_ne (by omega), q_up_ne (by omega)]
          have m4 : ∀ g, q_up J4 (f + 18) g (f + 19) = J4 (f + 19) := fun g => q_up_ne (by omega)
          have m5 : ∀ g g', q_up (q_up J4 (f + 18) g) (f + 19) g' (f + 20) = J4 (f + 20) := fun g g' => by rw [q_up_ne (by omega), q_up_ne (by omega)]
          rw [D_230, E_230_0]
          simp only [↓reduceIte, q_i, q_l, q_k, q_r, q_z, q_si, q_sl, jx_lt, jx_ri, jx_rl, jx_rv, if_true, if_false, Nat.reduceLeDiff, Nat.add_one_ne_zero, and_self, true_or, or_true, Nat.reduceEqDiff, or_self, or_false, false_or, mo_k hm, h4, hf0, mf_k hf, hE12, e212, b3, b6, b9, g4.2.2.1]
          rw [E_230_1]
          simp only [↓reduceIte, q_i, q_l, q_k, q_r, q_z, q_si, q_sl, jx_lt, jx_ri, jx_rl, jx_rv, if_true, if_false, Nat.reduceLeDiff, Nat.add_one_ne_zero, and_self, true_or, or_true, Nat.reduceEqDiff, or_self, or_false, false_or, mo_k hm, h4, hf0, mf_k hf, mf_r31 hf, mf_k31 hf, mf_z31 hf, mf_r32 hf, mf_k32 hf, mf_z32 hf, mf_r33 hf, mf_k33 hf, mf_z33 hf, Nat.add_eq_zero_iff, and_false, m1, m2, m3, m4, m5, hJ12, w_nn (a := C 11) (by omega), show ¬ 6 ≤ C 11 by omega, w_tc (a := C 11) (by omega), w_inc]
          rw [hJa]
        · refine go_put cx g4 (fun a ha => by rw [q_up_ne (by omega)]; exact i0 a (by omega) (by omega) (by omega)) (fun a ha => j0 a (by omega) (by omega) (by omega) (by omega)) (fun a ha => rfl) ?_ ⟨?_, ?_⟩
          · obtain ⟨c, hc, e⟩ := g4.1.2.2.2.2.2.2
            exact ⟨c, hc, by rw [jf, q_set_ne (by omega)]; exact e⟩
          · obtain ⟨n1, n2, n3, n4, n5⟩ := hz4.1
            rw [cO 3 (by omega), cO 5 (by omega), cO 8 (by omega)]
            refine ⟨n1, n2, ?_, ?_, fun i hi => ?_⟩
            · rw [q_up_ne (by omega), i0 _ (by omega) (by omega) (by omega)]; exact n3
            · rw [jf, q_set_ne (by omega)]; exact n4
            · rw [q_up_ne (show (183 + 1 : Nat) ≠ t + 2 by omega), i0 (183 + 1) (by omega) (by omega) (by omega), q_up_ne (show (185 + 1 : Nat) ≠ t + 2 by omega), i0 (185 + 1) (by omega) (by omega) (by omega), j0 (f + 22) (by omega) (by omega) (by omega) (by omega), j0 (f + 23) (by omega) (by omega) (by omega) (by omega)]
              exact n5 i hi
          · have eD : ∀ k, qd (q_up Ia (t + 2) (q_set (Ia (t + 2)) 11 (w (C 11 + 1)))) t k = if k = 0 then q_set (I4 (t + 2)) 11 (w (C 11 + 1)) else qd Ia t k := fun k => by
              have a1 := congrFun (qd_up (I := Ia) (t := t) (r := 0) (g := q_set (Ia (t + 2)) 11 (w (C 11 + 1))) (by omega)) k
              rw [i0 (t + 2) (by omega) (by omega) (by omega)] at a1 ⊢
              exact a1
            have qd4 : ∀ k, k < 19 → qd I4 t k = I4 (t + 1 + 2 * k + 1) := fun k hk => by unfold qd; rw [if_pos hk]
            have qda : ∀ k, k < 19 → qd Ia t k = Ia (t + 1 + 2 * k + 1) := fun k hk => by unfold qd; rw [if_pos hk]
            have qdo : ∀ k, ¬ k < 19 → qd Ia t k = qd I4 t k := fun k hk => by unfold qd; rw [if_neg hk, if_neg hk]
            have me4 : ∀ k, k < 24 → qme J4 f k = J4 (f + k) := fun k hk => by unfold qme; rw [if_pos hk]
            have mea : ∀ k, k < 24 → qme Ja f k = Ja (f + k) := fun k hk => by unfold qme; rw [if_pos hk]
            have meo : ∀ k, ¬ k < 24 → qme Ja f k = qme J4 f k := fun k hk => by unfold qme; rw [if_neg hk, if_neg hk]
            refine fy_wind (x := x1) (y := x2) (z := x3) hz4.2 h0 h11 x1b x2b x3b cC cO (fun k a1 a2 a3 a4 => ?_) (fun k a1 a2 a3 a4 => ?_) (fun k a1 => ?_) ?_ (fun k a1 => ?_) ?_ (fun i => ?_) (fun i => ?_) (fun i => ?_) (fun i => ?_) (fun i => ?_) (fun i => ?_)
            · rw [eD, if_neg a1]
              by_cases c : k < 19
              · rw [qda k c, qd4 k c]; exact i0 _ (by omega) (by omega) (by omega)
              · exact qdo k c
            · by_cases c : k < 24
              · rw [mea k c, me4 k c]; exact j0 _ (by omega) (by omega) (by omega) (by omega)
              · exact meo k c
            · rw [eD, if_pos rfl, q_set_ne a1]; rfl
            · rw [eD, if_pos rfl, q_set_eq]
            · rw [mea 0 (by omega), me4 0 (by omega)]
              exact (congrFun jf k).trans (q_set_ne a1)
            · rw [mea 0 (by omega)]
              exact (congrFun jf 12).trans q_set_eq
            · rw [eD, if_neg (by omega), qda 16 (by omega), qd4 16 (by omega), i16]; rfl
            · rw [eD, if_neg (by omega), qda 17 (by omega), qd4 17 (by omega), i17]; rfl
            · rw [eD, if_neg (by omega), qda 18 (by omega), qd4 18 (by omega), i18]; rfl
            · rw [mea 18 (by omega), me4 18 (by omega), j18]; rfl
            · rw [mea 19 (by omega), me4 19 (by omega), j19]; rfl
            · rw [mea 20 (by omega), me4 20 (by omega), j20]; rfl
        · exact mu_up (x := 11) (by omega) (by omega) h0 cC cO
      · right
        have h5 := fa_5 fa
        refine ⟨I4, L4, J4, K4, fin0 _ _ ?_, ?_, fa⟩
        · rw [D_67, E_67_0]
          simp only [↓reduceIte, q_i, q_l, q_k, q_r, q_z, q_si, q_sl, jx_lt, jx_ri, jx_rl, jx_rv, if_true, if_false, Nat.reduceLeDiff, Nat.add_one_ne_zero, and_self, true_or, or_true, Nat.reduceEqDiff, or_self, or_false, false_or, k6, b1, hv1, b4, b5, show ¬ (1 : Int32) = 0 by decide]
          rw [E_67_2, if_neg hv2]
          rcases b7 with b7 | ⟨Ic, Lc, b7, b8⟩
          · simp only [↓reduceIte, q_i, q_l, q_k, q_r, q_z, q_si, q_sl, jx_lt, jx_ri, jx_rl, jx_rv, if_true, if_false, Nat.reduceLeDiff, Nat.add_one_ne_zero, and_self, true_or, or_true, Nat.reduceEqDiff, or_self, or_false, false_or, k6, b7]
            rw [E_67_3]
            exact c4 _ _ _ _
          · simp only [↓reduceIte, q_i, q_l, q_k, q_r, q_z, q_si, q_sl, jx_lt, jx_ri, jx_rl, jx_rv, if_true, if_false, Nat.reduceLeDiff, Nat.add_one_ne_zero, and_self, true_or, or_true, Nat.reduceEqDiff, or_self, or_false, false_or, k6, b7, b8, show ¬ (1 : Int32) = 0 by decide]
            exact c4 _ _ _ _
        · rw [D_230, E_230_0]
          simp only [↓reduceIte, q_i, q_l, q_k, q_r, q_z, q_si, q_sl, jx_lt, jx_ri, jx_rl, jx_rv, if_true, if_false, Nat.reduceLeDiff, Nat.add_one_ne_zero, and_self, true_or, or_true, Nat.reduceEqDiff, or_self, or_false, false_or, mo_k hm, h4, hf0, mf_k hf, hE12, e212, b3, b6, b9, h5]
    · right
      have h5 := fa_5 fa
      refine ⟨I3, L3, J3, K3, fin0 _ _ ?_, ?_, fa⟩
      · rw [D_67, E_67_0]
        rcases b4 with b4 | ⟨Ic, Lc, b4, b5⟩
        · simp only [↓reduceIte, q_i, q_l, q_k, q_r, q_z, q_si, q_sl, jx_lt, jx_ri, jx_rl, jx_rv, if_true, if_false, Nat.reduceLeDiff, Nat.add_one_ne_zero, and_self, true_or, or_true, Nat.reduceEqDiff, or_self, or_false, false_or, k6, b1, hv1, b4]
          rw [E_67_1]
          exact c2 _ _ _
        · simp only [↓reduceIte, q_i, q_l, q_k, q_r, q_z, q_si, q_sl, jx_lt, jx_ri, jx_rl, jx_rv, if_true, if_false, Nat.reduceLeDiff, Nat.add_one_ne_zero, and_self, true_or, or_true, Nat.reduceEqDiff, or_self, or_false, false_or, k6, b1, hv1, b4, b5, show ¬ (1 : Int32) = 0 by decide]
          exact c2 _ _ _
      · rw [D_230, E_230_0]
        simp only [↓reduceIte, q_i, q_l, q_k, q_r, q_z, q_si, q_sl, jx_lt, jx_ri, jx_rl, jx_rv, if_true, if_false, Nat.reduceLeDiff, Nat.add_one_ne_zero, and_self, true_or, or_true, Nat.reduceEqDiff, or_self, or_false, false_or, mo_k hm, h4, hf0, mf_k hf, hE12, e212, b3, b6, z209 hm h5, h5]
  · right
    have h5 := fa_5 fa
    refine ⟨I2, L2, J2, K2, fin0 _ _ ?_, ?_, fa⟩
    · rw [D_67, E_67_0]
      simp only [↓reduceIte, q_i, q_l, q_k, q_r, q_z, q_si, q_sl, jx_lt, jx_ri, jx_rl, jx_rv, if_true, if_false, Nat.reduceLeDiff, Nat.add_one_ne_zero, and_self, true_or, or_true, Nat.reduceEqDiff, or_self, or_false, false_or, k6, b1]
      rw [E_67_1]
      exact c2 _ _ _
    · rw [D_230, E_230_0]
      simp only [↓reduceIte, q_i, q_l, q_k, q_r, q_z, q_si, q_sl, jx_lt, jx_ri, jx_rl, jx_rv, if_true, if_false, Nat.reduceLeDiff, Nat.add_one_ne_zero, and_self, true_or, or_true, Nat.reduceEqDiff, or_self, or_false, false_or, mo_k hm, h4, hf0, mf_k hf, hE12, e212, b3, z209 hm h5, h5]
end PRc
