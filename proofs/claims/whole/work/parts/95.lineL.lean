/-! READING: the line of one that came back, both sides -/
section PBk
variable {s s2 : qS} {t f n : Nat} {b : Nat → Nat} {I0 J0 I J : qI} {L0 K0 L K : qL} {Z : qI → qL → qI → qL → Prop} {C : Nat → Nat} {p : Nat}
theorem zp_st (h : qZp t f p C I L J K) : ∀ i, i < C 3 → J (f + 1) i = I (t + 1 + 2 * 1 + 1) i := fun i hi => (h.2.2.1 i hi).1
theorem line_back (cx : qCx s s2 t f n b I0 J0) (h : qGo (qZp t f 0 C) t f n I0 L0 J0 K0 I L J K) (hk : I 187 4 = 1) (h0 : C 0 ≠ 0) : qLine C (jd 53 7 [some (.ref 181), none, some (.int 7), none, none] [] (I, L, s)) (jD 226 [.ref 240] (J, K, s2)) s s2 t f n I0 L0 J0 K0 := by
  obtain ⟨hr, hn, -, hm, h4, hf, hf0, hf9, -, -, htx⟩ := id cx
  obtain ⟨k6, r0, r1, r2, r3, r5, k182, z182, row2, row3, k7, r7, rt, hfl, ht⟩ := id hr
  have t0 : ¬ t = 0 := by omega
  have r9 := fl_k hfl (k := 9) (n := 6) (by omega) rfl
  have hz : qStab (qZp t f 0 C) := zp_stab ht hf9
  obtain ⟨I1, L1, J1, K1, e1, d1, g1, -⟩ := go_next cx hz h (by rw [hk]; decide) (by rw [hk]; decide)
  have l0 : C 0 ≤ 20 := (h.2.2.2.2.2.1.1 0 (by omega)).2
  have l3 : C 3 ≤ 8 := (h.2.2.2.2.2.1.1 3 (by omega)).2
  have l5 : C 5 ≤ 6 := (h.2.2.2.2.2.1.1 5 (by omega)).2
  have hE0 : J f 0 ≠ 0 := by
    rw [zp_m h.2.2.2.2 (by omega)]
    exact fun z => h0 ((w_zero (by omega)).mp z)
  have e212 := m212_go (J := J) (K := K) (x := 0) (y := 1) hm h4 hf hf0 (by decide) hE0 d1
  have cl : jd 53 7 [some (.ref 181), none, some (.int 7), none, none] [] (I, L, s) = jd 53 14 [some (.ref 181), none, some (.int 7), none, none] [] (I1, L1, s) := by
    rw [E_53_7_7]
    simp only [↓reduceIte, q_i, q_l, q_k, q_r, q_z, q_si, q_sl, jx_lt, jx_ri, jx_rl, jx_rv, if_true, if_false, Nat.reduceLeDiff, Nat.add_one_ne_zero, and_self, true_or, or_true, Nat.reduceEqDiff, or_self, or_false, false_or, k6, r0, k7, e1]
  have fin0 : ∀ I' L', jD 63 [.ref 181] (I1, L1, s) = some (some (.int 0), I', L', s) → jd 53 7 [some (.ref 181), none, some (.int 7), none, none] [] (I, L, s) = some (some (.int 0), I', L', s) := fun I' L' e => by
    rw [cl, E_53_14]
    simp only [↓reduceIte, q_i, q_l, q_k, q_r, q_z, q_si, q_sl, jx_lt, jx_ri, jx_rl, jx_rv, if_true, if_false, Nat.reduceLeDiff, Nat.add_one_ne_zero, and_self, true_or, or_true, Nat.reduceEqDiff, or_self, or_false, false_or, k6, e]
    exact end_no
  rcases go_find (kc := 5) (kr := 1) (N := C 5) cx g1 g1.2.2.2.2.1 (fun z => absurd z (by decide)) (Or.inr (Or.inl ⟨rfl, rfl, rfl⟩)) with ⟨v, hv, cs, b1, b3⟩ | ⟨I2, J2, b1, b3, fa⟩
  · have m1 : ¬ w v = (-1 : Int32) := w_m1 (by omega)
    obtain ⟨c1, c2, hh, c3, c4, c5, c6, -, c9, c10⟩ := g1.2.2.2.2.2.2.2.2.1 v hv
    have c9' : J1 (f + 10) v = qd I1 t 9 v := c9
    have q9 : q_at 6 (I1 (t + 1 + 2 * 9 + 1)) (w v) = qd I1 t 9 v := q_at_w (by omega) (by omega)
    rcases c10 with c10 | ⟨a, c10, c11⟩
    · rw [c10] at c9' q9
      obtain ⟨I3, L3, J3, K3, e3, d3, g3, fI3, fJ3⟩ := go_next cx hz g1 (by rw [cs]; decide) (by rw [cs]; decide)
      have rf : jD 226 [.ref 240] (J, K, s2) = jx_ri (jD 217 [.ref 240] (J3, K3, s2)) fun v3 M2 => if jm_k M2 240 = 13 then if jm_i M2 240 9 = 5 then some (none, M2) else jd 226 2 [some (.ref 240), some (.int (w v)), some (.int v3)] [] M2 else none := by
        rw [D_226, E_226_0]
        simp only [↓reduceIte, q_i, q_l, q_k, q_r, q_z, q_si, q_sl, jx_lt, jx_ri, jx_rl, jx_rv, if_true, if_false, Nat.reduceLeDiff, Nat.add_one_ne_zero, and_self, true_or, or_true, Nat.reduceEqDiff, or_self, or_false, false_or, mo_k hm, e212, b3, g1.2.2.1, h4, hf0, mf_k hf, mf_r23 hf, mf_k23 hf, mf_z23 hf, Nat.add_eq_zero_iff, and_false, w_nn (a := v) (by omega), show ¬ 6 ≤ v by omega, w_tc (a := v) (by omega), c9']
        rw [E_226_1]
        simp only [↓reduceIte, q_i, q_l, q_k, q_r, q_z, q_si, q_sl, jx_lt, jx_ri, jx_rl, jx_rv, if_true, if_false, Nat.reduceLeDiff, Nat.add_one_ne_zero, and_self, true_or, or_true, Nat.reduceEqDiff, or_self, or_false, false_or, mo_k hm, d3]
      have cf : ∀ X, jD 70 [.ref 181] (I3, L3, s) = X → jD 63 [.ref 181] (I1, L1, s) = jx_ri X fun v3 M2 => if v3 = -1 then some (some (.int 0), M2) else jd 63 3 [some (.ref 181), some (.int (w v)), some (.int v3)] [] M2 := fun X e => by
        rw [D_63, E_63_0]
        simp only [↓reduceIte, q_i, q_l, q_k, q_r, q_z, q_si, q_sl, jx_lt, jx_ri, jx_rl, jx_rv, if_true, if_false, Nat.reduceLeDiff, Nat.add_one_ne_zero, and_self, true_or, or_true, Nat.reduceEqDiff, or_self, or_false, false_or, k6, b1, m1]
        rw [E_63_1]
        simp only [↓reduceIte, q_i, q_l, q_k, q_r, q_z, q_si, q_sl, jx_lt, jx_ri, jx_rl, jx_rv, if_true, if_false, Nat.reduceLeDiff, Nat.add_one_ne_zero, and_self, true_or, or_true, Nat.reduceEqDiff, or_self, or_false, false_or, k6, r5, t0, hfl.1, r9.1, r9.2.1, look_eq r9.2, q9, show (-2 : Int32) < 0 by decide]
        rw [E_63_2]
        simp only [↓reduceIte, q_i, q_l, q_k, q_r, q_z, q_si, q_sl, jx_lt, jx_ri, jx_rl, jx_rv, if_true, if_false, Nat.reduceLeDiff, Nat.add_one_ne_zero, and_self, true_or, or_true, Nat.reduceEqDiff, or_self, or_false, false_or, k6, r0, k7, e3, e]
      rcases go_hall (c := C 3 + C 5 + C 8) (p := 0) cx hz g3 g3.2.2.2.2.1 l3 (zp_st g3.2.2.2.2) (fun z => absurd z (by decide)) with ⟨a, I4, L4, J4, K4, ha, b7, b8, g4, fI4, fJ4⟩ | ⟨x, I4, L4, J4, K4, b7, b8, fa⟩
      · left
        have m2 : ¬ w a = (-1 : Int32) := w_m1 (by omega)
        have hz4 := g4.2.2.2.2
        have hJ7 : J4 f 7 = w (C 7) := zp_m hz4 (by omega)
        have hn9 : qd I4 t 9 v = -2 := by
          rw [qd_same (I := I1) (J := I4) fun a h1 h2 => by rw [fI4 a (by omega), fI3 a (by omega)]]
          exact c10
        have h7 : C 7 < 6 := back_lt hz4.2 (by omega) hn9
        obtain ⟨C', cC, cO⟩ : ∃ C' : Nat → Nat, C' 7 = C 7 + 1 ∧ ∀ k, k ≠ 7 → C' k = C k := ⟨fun k => if k = 7 then C 7 + 1 else C k, rfl, fun k hk3 => if_neg hk3⟩
        obtain ⟨Ia, hIa⟩ : ∃ Ia, Ia = q_up I4 (t + 1 + 2 * 9 + 1) (q_set (I4 (t + 1 + 2 * 9 + 1)) v (w a)) := ⟨_, rfl⟩
        obtain ⟨Ja, hJa⟩ : ∃ Ja, Ja = q_up (q_up J4 (f + 10) (q_set (J4 (f + 10)) v (w a))) f (q_set (J4 f) 7 (w (C 7 + 1))) := ⟨_, rfl⟩
        have iz : Ia (t + 2) = I4 (t + 2) := by rw [hIa, q_up_ne (by omega)]
        have hIa7 : Ia (t + 2) 7 = w (C 7) := by rw [iz]; exact (zp_f hz4 (by omega)).1
        obtain ⟨Ib, hIb⟩ : ∃ Ib, Ib = q_up Ia (t + 2) (q_set (Ia (t + 2)) 7 (w (C 7 + 1))) := ⟨_, rfl⟩
        have ib : ∀ a, a ≠ t + 2 → a ≠ t + 1 + 2 * 9 + 1 → Ib a = I4 a := fun a u x => by rw [hIb, q_up_ne u, hIa, q_up_ne x]
        have ibz : Ib (t + 2) = q_set (I4 (t + 2)) 7 (w (C 7 + 1)) := by rw [hIb, q_up_eq, iz]
        have ib9 : Ib (t + 1 + 2 * 9 + 1) = q_set (I4 (t + 1 + 2 * 9 + 1)) v (w a) := by rw [hIb, q_up_ne (by omega), hIa, q_up_eq]
        have j0 : ∀ a, a ≠ f → a ≠ f + 10 → Ja a = J4 a := fun a x y => by rw [hJa, q_up_ne x, q_up_ne y]
        have jf : Ja f = q_set (J4 f) 7 (w (C 7 + 1)) := by rw [hJa, q_up_eq]
        have j10 : Ja (f + 10) = q_set (J4 (f + 10)) v (w a) := by rw [hJa, q_up_ne (by omega), q_up_eq]
        refine ⟨C', Ib, L4, Ja, K4, ?_, ?_, ?_, ?_⟩
        · have e63 : jD 63 [.ref 181] (I1, L1, s) = some (some (.int 1), Ia, L4, s) := by
            rw [cf _ b7]
            simp only [↓reduceIte, q_i, q_l, q_k, q_r, q_z, q_si, q_sl, jx_lt, jx_ri, jx_rl, jx_rv, if_true, if_false, Nat.reduceLeDiff, Nat.add_one_ne_zero, and_self, true_or, or_true, Nat.reduceEqDiff, or_self, or_false, false_or, m2]
            rw [E_63_3]
            simp only [↓reduceIte, q_i, q_l, q_k, q_r, q_z, q_si, q_sl, jx_lt, jx_ri, jx_rl, jx_rv, if_true, if_false, Nat.reduceLeDiff, Nat.add_one_ne_zero, and_self, true_or, or_true, Nat.reduceEqDiff, or_self, or_false, false_or, k6, r5, t0, hfl.1, r9.1, r9.2.1, put_eq r9.2, q_put_w (n := 6) (k := v) (by omega) (by omega)]
            rw [hIa]
          rw [cl, E_53_14, hIb]
          simp only [↓reduceIte, q_i, q_l, q_k, q_r, q_z, q_si, q_sl, jx_lt, jx_ri, jx_rl, jx_rv, if_true, if_false, Nat.reduceLeDiff, Nat.add_one_ne_zero, and_self, true_or, or_true, Nat.reduceEqDiff, or_self, or_false, false_or, k6, e63]
          exact end_ok hr (x := 7) (by omega) (by omega) hIa7
        · have m3 : ∀ g, q_up J4 (f + 10) g f = J4 f := fun g => q_up_ne (by omega)
          rw [rf, b8]
          simp only [↓reduceIte, q_i, q_l, q_k, q_r, q_z, q_si, q_sl, jx_lt, jx_ri, jx_rl, jx_rv, if_true, if_false, Nat.reduceLeDiff, Nat.add_one_ne_zero, and_self, true_or, or_true, Nat.reduceEqDiff, or_self, or_false, false_or, mo_k hm, g4.2.2.1]
          rw [E_226_2]
          simp only [↓reduceIte, q_i, q_l, q_k, q_r, q_z, q_si, q_sl, jx_lt, jx_ri, jx_rl, jx_rv, if_true, if_false, Nat.reduceLeDiff, Nat.add_one_ne_zero, and_self, true_or, or_true, Nat.reduceEqDiff, or_self, or_false, false_or, mo_k hm, h4, hf0, mf_k hf, mf_r23 hf, mf_k23 hf, mf_z23 hf, Nat.add_eq_zero_iff, and_false, w_nn (a := v) (by omega), show ¬ 6 ≤ v by omega, w_tc (a := v) (by omega), m3, hJ7, w_inc]
          rw [hJa]
        · refine go_end cx g4 (fun a ha => ib a (by omega) (by omega)) (fun a ha => j0 a (by omega) (by omega)) ?_ (cO 3 (by omega)) (cO 5 (by omega)) (cO 8 (by omega)) ?_
          · rw [jf, q_set_ne (by omega)]
          · refine fy_back (v := v) (a := a) hz4.2 h0 h7 cC cO (fun k z => qd_of fun hk => ib _ (by omega) (by omega)) (fun k z => me_of fun hk => j0 _ (by omega) (by omega)) (fun k a1 => ?_) ?_ (fun k a1 => ?_) ?_ hv ha hn9 (fun i => ?_) (fun i => ?_)
            · rw [qd_at (by omega), qd_at (by omega)]
              exact (congrFun ibz k).trans (q_set_ne a1)
            · rw [qd_at (by omega)]
              exact (congrFun ibz 7).trans q_set_eq
            · rw [me_at (by omega), me_at (by omega)]
              exact (congrFun jf k).trans (q_set_ne a1)
            · rw [me_at (by omega)]
              exact (congrFun jf 7).trans q_set_eq
            · rw [qd_at (by omega), qd_at (by omega), ib9]; rfl
            · rw [me_at (by omega), me_at (by omega), j10]; rfl
        · exact mu_up (x := 7) (by omega) (by omega) h0 cC cO
      · right
        have h5 := fa_5 fa
        refine ⟨I4, L4, J4, K4, fin0 _ _ ?_, ?_, fa⟩
        · rw [cf _ b7]
          simp only [↓reduceIte, q_i, q_l, q_k, q_r, q_z, q_si, q_sl, jx_lt, jx_ri, jx_rl, jx_rv, if_true, if_false, Nat.reduceLeDiff, Nat.add_one_ne_zero, and_self, true_or, or_true, Nat.reduceEqDiff, or_self, or_false, false_or]
        · rw [rf, b8]
          simp only [↓reduceIte, q_i, q_l, q_k, q_r, q_z, q_si, q_sl, jx_lt, jx_ri, jx_rl, jx_rv, if_true, if_false, Nat.reduceLeDiff, Nat.add_one_ne_zero, and_self, true_or, or_true, Nat.reduceEqDiff, or_self, or_false, false_or, mo_k hm, h5]
    · right
      have fa := go_fault cx g1 (r := 3) (by decide) (by decide)
      have h51 : (q_up J1 240 (q_set (q_set (q_set (J1 240) 13 3) 14 (J1 240 10)) 9 5)) 240 9 = 5 := fa_5 fa
      obtain ⟨c, hc, h13⟩ := fa_c fa
      have h13' : q_up J1 240 (q_set (q_set (q_set (J1 240) 13 3) 14 (J1 240 10)) 9 5) f 13 = w c := h13
      rw [c10] at c9' q9
      refine ⟨_, _, _, _, fin0 _ _ ?_, ?_, fa⟩
      · rw [D_63, E_63_0]
        simp only [↓reduceIte, q_i, q_l, q_k, q_r, q_z, q_si, q_sl, jx_lt, jx_ri, jx_rl, jx_rv, if_true, if_false, Nat.reduceLeDiff, Nat.add_one_ne_zero, and_self, true_or, or_true, Nat.reduceEqDiff, or_self, or_false, false_or, k6, b1, m1]
        rw [E_63_1]
        simp only [↓reduceIte, q_i, q_l, q_k, q_r, q_z, q_si, q_sl, jx_lt, jx_ri, jx_rl, jx_rv, if_true, if_false, Nat.reduceLeDiff, Nat.add_one_ne_zero, and_self, true_or, or_true, Nat.reduceEqDiff, or_self, or_false, false_or, k6, r5, t0, hfl.1, r9.1, r9.2.1, look_eq r9.2, q9, w_nn (show a < 2147483648 by omega), c51 hr]
        rfl
      · rw [D_226, E_226_0]
        simp only [↓reduceIte, q_i, q_l, q_k, q_r, q_z, q_si, q_sl, jx_lt, jx_ri, jx_rl, jx_rv, if_true, if_false, Nat.reduceLeDiff, Nat.add_one_ne_zero, and_self, true_or, or_true, Nat.reduceEqDiff, or_self, or_false, false_or, mo_k hm, e212, b3, g1.2.2.1, h4, hf0, mf_k hf, mf_r23 hf, mf_k23 hf, mf_z23 hf, Nat.add_eq_zero_iff, and_false, w_nn (a := v) (by omega), show ¬ 6 ≤ v by omega, w_tc (a := v) (by omega), c9', show ¬ w a = (-2 : Int32) from w_m2 (by omega), m203 hm g1.2.2.1]
        rw [E_226_1]
        simp only [↓reduceIte, q_i, q_l, q_k, q_r, q_z, q_si, q_sl, jx_lt, jx_ri, jx_rl, jx_rv, if_true, if_false, Nat.reduceLeDiff, Nat.add_one_ne_zero, and_self, true_or, or_true, Nat.reduceEqDiff, or_self, or_false, false_or, mo_k hm, z202 hm h51, z217 hm h4 hf hf0 hc h13' h51, h51]
        rfl
  · right
    have h5 := fa_5 fa
    obtain ⟨c, hc, h13⟩ := fa_c fa
    refine ⟨I2, L1, J2, K1, fin0 _ _ ?_, ?_, fa⟩
    · rw [D_63, E_63_0]
      simp only [↓reduceIte, q_i, q_l, q_k, q_r, q_z, q_si, q_sl, jx_lt, jx_ri, jx_rl, jx_rv, if_true, if_false, Nat.reduceLeDiff, Nat.add_one_ne_zero, and_self, true_or, or_true, Nat.reduceEqDiff, or_self, or_false, false_or, k6, b1]
    · rw [D_226, E_226_0]
      simp only [↓reduceIte, q_i, q_l, q_k, q_r, q_z, q_si, q_sl, jx_lt, jx_ri, jx_rl, jx_rv, if_true, if_false, Nat.reduceLeDiff, Nat.add_one_ne_zero, and_self, true_or, or_true, Nat.reduceEqDiff, or_self, or_false, false_or, mo_k hm, h4, hf0, mf_k hf, e212, b3, h5]
      rw [E_226_1]
      simp only [↓reduceIte, q_i, q_l, q_k, q_r, q_z, q_si, q_sl, jx_lt, jx_ri, jx_rl, jx_rv, if_true, if_false, Nat.reduceLeDiff, Nat.add_one_ne_zero, and_self, true_or, or_true, Nat.reduceEqDiff, or_self, or_false, false_or, mo_k hm, z202 hm h5, z217 hm h4 hf hf0 hc h13 h5, h5]
end PBk
