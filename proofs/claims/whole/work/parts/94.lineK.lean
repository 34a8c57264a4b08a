/-! READING: the line of a ring, both sides -/
section PRg
variable {s s2 : qS} {t f n : Nat} {b : Nat → Nat} {I0 J0 I J : qI} {L0 K0 L K : qL} {Z : qI → qL → qI → qL → Prop} {C : Nat → Nat}
theorem m210 (hm : qMo s2 240) (h4 : qr s2 240 4 = f) (hf : qMf s2 f) (h0 : f ≠ 0) {x : Int32} {d : Nat} (hd : J f 0 - 1 = w d) {v : Int32} {J1 : qI} {K1 : qL} (e : jD 208 [.ref 240, .int x, .int (w d)] (J, K, s2) = some (some (.int v), J1, K1, s2)) : jD 210 [.ref 240, .int x] (J, K, s2) = some (some (.int v), J1, K1, s2) := by
  rw [D_210, E_210_0]
  simp only [↓reduceIte, q_i, q_l, q_k, q_r, q_z, q_si, q_sl, jx_lt, jx_ri, jx_rl, jx_rv, if_true, if_false, Nat.reduceLeDiff, Nat.add_one_ne_zero, and_self, true_or, or_true, Nat.reduceEqDiff, or_self, or_false, false_or, mo_k hm, h4, h0, mf_k hf, hd, e]
theorem line_ring (cx : qCx s s2 t f n b I0 J0) (h : qGo (qZp t f 0 C) t f n I0 L0 J0 K0 I L J K) (hk : I 187 4 = 1) (h0 : C 0 ≠ 0) (h6 : C 6 < 8) : qLine C (jd 53 7 [some (.ref 181), none, some (.int 6), none, none] [] (I, L, s)) (jD 225 [.ref 240] (J, K, s2)) s s2 t f n I0 L0 J0 K0 := by
  obtain ⟨hr, hn, -, hm, h4, hf, hf0, hf9, -, -, htx⟩ := id cx
  obtain ⟨k6, r0, r1, r2, r3, r5, k182, z182, row2, row3, k7, r7, rt, hfl, ht⟩ := id hr
  have t0 : ¬ t = 0 := by omega
  have r00 := fl_k hfl (k := 0) (n := 12) (by omega) rfl
  have r10 := fl_k hfl (k := 10) (n := 8) (by omega) rfl
  have r11 := fl_k hfl (k := 11) (n := 8) (by omega) rfl
  have r12 := fl_k hfl (k := 12) (n := 8) (by omega) rfl
  have hz : qStab (qZp t f 0 C) := zp_stab ht hf9
  obtain ⟨I1, L1, J1, K1, e1, d1, g1, -⟩ := go_next cx hz h (by rw [hk]; decide) (by rw [hk]; decide)
  have l0 : C 0 ≤ 20 := (h.2.2.2.2.2.1.1 0 (by omega)).2
  have l3 : C 3 ≤ 8 := (h.2.2.2.2.2.1.1 3 (by omega)).2
  have l5 : C 5 ≤ 6 := (h.2.2.2.2.2.1.1 5 (by omega)).2
  have hla : w (C 0) - 1 = w (C 0 - 1) := w_dec (by omega) (by omega)
  have hE0 : J f 0 ≠ 0 := by
    rw [zp_m h.2.2.2.2 (by omega)]
    exact fun z => h0 ((w_zero (by omega)).mp z)
  have hE6 : J f 6 = w (C 6) := zp_m h.2.2.2.2 (by omega)
  have q6 : q_at 12 (I1 (t + 1 + 2 * 0 + 1)) 6 = w (C 6) := (q_at_w (n := 12) (k := 6) (by omega) (by omega)).trans (zp_f g1.2.2.2.2 (by omega)).1
  have e212 := m212_go (J := J) (K := K) (x := w (C 6)) (y := 8) hm h4 hf hf0 (fun z => by
    have := (w_eq (a := C 6) (b := 8) (by omega) (by omega)).mp z
    omega) hE0 d1
  have cl : jd 53 7 [some (.ref 181), none, some (.int 6), none, none] [] (I, L, s) = jd 53 13 [some (.ref 181), none, some (.int 6), none, none] [] (I1, L1, s) := by
    rw [E_53_7_6]
    simp only [↓reduceIte, q_i, q_l, q_k, q_r, q_z, q_si, q_sl, jx_lt, jx_ri, jx_rl, jx_rv, if_true, if_false, Nat.reduceLeDiff, Nat.add_one_ne_zero, and_self, true_or, or_true, Nat.reduceEqDiff, or_self, or_false, false_or, k6, r0, k7, e1]
  have fin0 : ∀ I' L', jD 62 [.ref 181, .int (w (C 6))] (I1, L1, s) = some (some (.int 0), I', L', s) → jd 53 7 [some (.ref 181), none, some (.int 6), none, none] [] (I, L, s) = some (some (.int 0), I', L', s) := fun I' L' e => by
    rw [cl, E_53_13]
    simp only [↓reduceIte, q_i, q_l, q_k, q_r, q_z, q_si, q_sl, jx_lt, jx_ri, jx_rl, jx_rv, if_true, if_false, Nat.reduceLeDiff, Nat.add_one_ne_zero, and_self, true_or, or_true, Nat.reduceEqDiff, or_self, or_false, false_or, k6, r5, t0, hfl.1, r00.1, r00.2.1, look_eq r00.2, q6, e]
    exact end_no
  rcases go_name (kc := 5) (kr := 1) (N := C 5) cx hz g1 g1.2.2.2.2.1 (fun z => absurd z (by decide)) (Or.inr (Or.inl ⟨rfl, rfl, rfl⟩)) with ⟨x1, I2, L2, J2, K2, x1b, -, b1, b2, b3, g2, -⟩ | ⟨I2, J2, b1, b3, fa⟩
  · have m1 : ¬ w x1 = (-1 : Int32) := w_m1 (by omega)
    rcases go_name (kc := 3) (kr := 0) (N := C 3) cx hz g2 g2.2.2.2.2.1 (fun z => absurd z (by decide)) (Or.inl ⟨rfl, rfl, rfl⟩) with ⟨x2, I3, L3, J3, K3, x2b, -, b4, b5, b6, g3, -⟩ | ⟨I3, J3, b4, b6, fa⟩
    · have m2 : ¬ w x2 = (-1 : Int32) := w_m1 (by omega)
      have hz3 := g3.2.2.2.2
      have hI0 : qd I3 t 0 0 = w (C 0) := (hz3.2.1.1 0 (by omega)).1
      have hJ0 : J3 f 0 - 1 = w (C 0 - 1) := by rw [zp_m hz3 (by omega), hla]
      rcases go_num cx hz g3 0 (w (C 0 - 1)) with ⟨v3, I4, L4, J4, K4, a5, a6, b7, b8, g4, -⟩ | ⟨I4, L4, J4, K4, b7, b8, fa⟩
      · left
        have hv3 : ¬ v3 = -1 := fun z => a5 (by rw [z]; decide)
        obtain ⟨x3, rfl, -, x3b⟩ := num_w (l := 0) (m := C 0 - 1) (by omega) (by omega) a5 a6
        have b9 := m210 hm h4 hf hf0 hJ0 b8
        have hz4 := g4.2.2.2.2
        have hJ6 : J4 f 6 = w (C 6) := zp_m hz4 (by omega)
        obtain ⟨C', cC, cO⟩ : ∃ C' : Nat → Nat, C' 6 = C 6 + 1 ∧ ∀ k, k ≠ 6 → C' k = C k := ⟨fun k => if k = 6 then C 6 + 1 else C k, rfl, fun k hk3 => if_neg hk3⟩
        obtain ⟨Ia, hIa⟩ : ∃ Ia, Ia = q_up (q_up (q_up I4 (t + 1 + 2 * 10 + 1) (q_set (I4 (t + 1 + 2 * 10 + 1)) (C 6) (w x1))) (t + 1 + 2 * 11 + 1) (q_set (I4 (t + 1 + 2 * 11 + 1)) (C 6) (w x2))) (t + 1 + 2 * 12 + 1) (q_set (I4 (t + 1 + 2 * 12 + 1)) (C 6) (w x3)) := ⟨_, rfl⟩
        obtain ⟨Ja, hJa⟩ : ∃ Ja, Ja = q_up (q_up (q_up (q_up J4 (f + 11) (q_set (J4 (f + 11)) (C 6) (w x1))) (f + 12) (q_set (J4 (f + 12)) (C 6) (w x2))) (f + 13) (q_set (J4 (f + 13)) (C 6) (w x3))) f (q_set (J4 f) 6 (w (C 6 + 1))) := ⟨_, rfl⟩
        have i0 : ∀ a, a ≠ t + 1 + 2 * 10 + 1 → a ≠ t + 1 + 2 * 11 + 1 → a ≠ t + 1 + 2 * 12 + 1 → Ia a = I4 a := fun a x y z => by rw [hIa, q_up_ne z, q_up_ne y, q_up_ne x]
        have iz : Ia (t + 2) = I4 (t + 2) := i0 _ (by omega) (by omega) (by omega)
        have hIa6 : Ia (t + 2) 6 = w (C 6) := by rw [iz]; exact (zp_f hz4 (by omega)).1
        obtain ⟨Ib, hIb⟩ : ∃ Ib, Ib = q_up Ia (t + 2) (q_set (Ia (t + 2)) 6 (w (C 6 + 1))) := ⟨_, rfl⟩
        have ib : ∀ a, a ≠ t + 2 → a ≠ t + 1 + 2 * 10 + 1 → a ≠ t + 1 + 2 * 11 + 1 → a ≠ t + 1 + 2 * 12 + 1 → Ib a = I4 a := fun a u x y z => by rw [hIb, q_up_ne u, i0 a x y z]
        have ibz : Ib (t + 2) = q_set (I4 (t + 2)) 6 (w (C 6 + 1)) := by rw [hIb, q_up_eq, iz]
        have ib10 : Ib (t + 1 + 2 * 10 + 1) = q_set (I4 (t + 1 + 2 * 10 + 1)) (C 6) (w x1) := by rw [hIb, q_up_ne (by omega), hIa, q_up_ne (by omega), q_up_ne (by omega), q_up_eq]
        have ib11 : Ib (t + 1 + 2 * 11 + 1) = q_set (I4 (t + 1 + 2 * 11 + 1)) (C 6) (w x2) := by rw [hIb, q_up_ne (by omega), hIa, q_up_ne (by omega), q_up_eq]
        have ib12 : Ib (t + 1 + 2 * 12 + 1) = q_set (I4 (t + 1 + 2 * 12 + 1)) (C 6) (w x3) := by rw [hIb, q_up_ne (by omega), hIa, q_up_eq]
        have j0 : ∀ a, a ≠ f → a ≠ f + 11 → a ≠ f + 12 → a ≠ f + 13 → Ja a = J4 a := fun a x y z u => by rw [hJa, q_up_ne x, q_up_ne u, q_up_ne z, q_up_ne y]
        have jf : Ja f = q_set (J4 f) 6 (w (C 6 + 1)) := by rw [hJa, q_up_eq]
        have j11 : Ja (f + 11) = q_set (J4 (f + 11)) (C 6) (w x1) := by rw [hJa, q_up_ne (by omega), q_up_ne (by omega), q_up_ne (by omega), q_up_eq]
        have j12 : Ja (f + 12) = q_set (J4 (f + 12)) (C 6) (w x2) := by rw [hJa, q_up_ne (by omega), q_up_ne (by omega), q_up_eq]
        have j13 : Ja (f + 13) = q_set (J4 (f + 13)) (C 6) (w x3) := by rw [hJa, q_up_ne (by omega), q_up_eq]
        refine ⟨C', Ib, L4, Ja, K4, ?_, ?_, ?_, ?_⟩
        · have e62 : jD 62 [.ref 181, .int (w (C 6))] (I1, L1, s) = some (some (.int 1), Ia, L4, s) := by
            rw [hIa, D_62, E_62_0]
            simp only [↓reduceIte, q_i, q_l, q_k, q_r, q_z, q_si, q_sl, jx_lt, jx_ri, jx_rl, jx_rv, if_true, if_false, Nat.reduceLeDiff, Nat.add_one_ne_zero, and_self, true_or, or_true, Nat.reduceEqDiff, or_self, or_false, false_or, k6, b1, m1]
            rw [E_62_1]
            simp only [↓reduceIte, q_i, q_l, q_k, q_r, q_z, q_si, q_sl, jx_lt, jx_ri, jx_rl, jx_rv, if_true, if_false, Nat.reduceLeDiff, Nat.add_one_ne_zero, and_self, true_or, or_true, Nat.reduceEqDiff, or_self, or_false, false_or, k6, r0, k7, b2, b4, m2]
            rw [E_62_2]
            simp only [↓reduceIte, q_i, q_l, q_k, q_r, q_z, q_si, q_sl, jx_lt, jx_ri, jx_rl, jx_rv, if_true, if_false, Nat.reduceLeDiff, Nat.add_one_ne_zero, and_self, true_or, or_true, Nat.reduceEqDiff, or_self, or_false, false_or, k6, r0, k7, b5, r5, t0, hfl.1, lastDay_eq hfl, hI0, hla, b7, hv3]
            rw [E_62_3]
            simp only [↓reduceIte, q_i, q_l, q_k, q_r, q_z, q_si, q_sl, jx_lt, jx_ri, jx_rl, jx_rv, if_true, if_false, Nat.reduceLeDiff, Nat.add_one_ne_zero, and_self, true_or, or_true, Nat.reduceEqDiff, or_self, or_false, false_or, k6, r5, t0, hfl.1, r10.1, r10.2.1, put_eq r10.2, q_put_w (n := 8) (k := C 6) (by omega) h6, r11.1, r11.2.1, put_eq r11.2, r12.1, r12.2.1, put_eq r12.2]
            rw [q_up_ne (show t + 1 + 2 * 11 + 1 ≠ t + 1 + 2 * 10 + 1 by omega), q_up_ne (show t + 1 + 2 * 12 + 1 ≠ t + 1 + 2 * 11 + 1 by omega), q_up_ne (show t + 1 + 2 * 12 + 1 ≠ t + 1 + 2 * 10 + 1 by omega)]
          rw [cl, E_53_13, hIb]
          simp only [↓reduceIte, q_i, q_l, q_k, q_r, q_z, q_si, q_sl, jx_lt, jx_ri, jx_rl, jx_rv, if_true, if_false, Nat.reduceLeDiff, Nat.add_one_ne_zero, and_self, true_or, or_true, Nat.reduceEqDiff, or_self, or_false, false_or, k6, r5, t0, hfl.1, r00.1, r00.2.1, look_eq r00.2, q6, e62]
          exact end_ok hr (x := 6) (by omega) (by omega) hIa6
        · have m1 : ∀ g, q_up J4 (f + 11) g f = J4 f := fun g => q_up_ne (by omega)
          have m2 : ∀ g g', q_up (q_up J4 (f + 11) g) (f + 12) g' f = J4 f := fun g g' => by rw [q_up_ne (by omega), q_up_ne (by omega)]
          have m3 : ∀ g g' g'', q_up (q_up (q_up J4 (f + 11) g) (f + 12) g') (f + 13) g'' f = J4 f := fun g g' g'' => by rw [q_up_ne (by omega), q_up_ne (by omega), q_up_ne (by omega)]
          have m4 : ∀ g, q_up J4 (f + 11) g (f + 12) = J4 (f + 12) := fun g => q_up_ne (by omega)
          have m5 : ∀ g g', q_up (q_up J4 (f + 11) g) (f + 12) g' (f + 13) = J4 (f + 13) := fun g g' => by rw [q_up_ne (by omega), q_up_ne (by omega)]
          rw [D_225, E_225_0]
          simp only [↓reduceIte, q_i, q_l, q_k, q_r, q_z, q_si, q_sl, jx_lt, jx_ri, jx_rl, jx_rv, if_true, if_false, Nat.reduceLeDiff, Nat.add_one_ne_zero, and_self, true_or, or_true, Nat.reduceEqDiff, or_self, or_false, false_or, mo_k hm, h4, hf0, mf_k hf, hE6, e212, b3, b6, b9, g4.2.2.1]
          rw [E_225_1]
          simp only [↓reduceIte, q_i, q_l, q_k, q_r, q_z, q_si, q_sl, jx_lt, jx_ri, jx_rl, jx_rv, if_true, if_false, Nat.reduceLeDiff, Nat.add_one_ne_zero, and_self, true_or, or_true, Nat.reduceEqDiff, or_self, or_false, false_or, mo_k hm, h4, hf0, mf_k hf, mf_r24 hf, mf_k24 hf, mf_z24 hf, mf_r25 hf, mf_k25 hf, mf_z25 hf, mf_r26 hf, mf_k26 hf, mf_z26 hf, Nat.add_eq_zero_iff, and_false, m1, m2, m3, m4, m5, hJ6, w_nn (a := C 6) (by omega), show ¬ 8 ≤ C 6 by omega, w_tc (a := C 6) (by omega), w_inc]
          rw [hJa]
        · refine go_end cx g4 (fun a ha => ib a (by omega) (by omega) (by omega) (by omega)) (fun a ha => j0 a (by omega) (by omega) (by omega) (by omega)) ?_ (cO 3 (by omega)) (cO 5 (by omega)) (cO 8 (by omega)) ?_
          · rw [jf, q_set_ne (by omega)]
          · refine fy_ring (x := x1) (y := x2) (z := x3) hz4.2 h0 h6 x1b x2b (by omega) cC cO (fun k a1 a2 a3 a4 => qd_of fun hk => ib _ (by omega) (by omega) (by omega) (by omega)) (fun k a1 a2 a3 a4 => me_of fun hk => j0 _ (by omega) (by omega) (by omega) (by omega)) (fun k a1 => ?_) ?_ (fun k a1 => ?_) ?_ (fun i => ?_) (fun i => ?_) (fun i => ?_) (fun i => ?_) (fun i => ?_) (fun i => ?_)
            · rw [qd_at (by omega), qd_at (by omega)]
              exact (congrFun ibz k).trans (q_set_ne a1)
            · rw [qd_at (by omega)]
              exact (congrFun ibz 6).trans q_set_eq
            · rw [me_at (by omega), me_at (by omega)]
              exact (congrFun jf k).trans (q_set_ne a1)
            · rw [me_at (by omega)]
              exact (congrFun jf 6).trans q_set_eq
            · rw [qd_at (by omega), qd_at (by omega), ib10]; rfl
            · rw [qd_at (by omega), qd_at (by omega), ib11]; rfl
            · rw [qd_at (by omega), qd_at (by omega), ib12]; rfl
            · rw [me_at (by omega), me_at (by omega), j11]; rfl
            · rw [me_at (by omega), me_at (by omega), j12]; rfl
            · rw [me_at (by omega), me_at (by omega), j13]; rfl
        · exact mu_up (x := 6) (by omega) (by omega) h0 cC cO
      · right
        have h5 := fa_5 fa
        refine ⟨I4, L4, J4, K4, fin0 _ _ ?_, ?_, fa⟩
        · rw [D_62, E_62_0]
          simp only [↓reduceIte, q_i, q_l, q_k, q_r, q_z, q_si, q_sl, jx_lt, jx_ri, jx_rl, jx_rv, if_true, if_false, Nat.reduceLeDiff, Nat.add_one_ne_zero, and_self, true_or, or_true, Nat.reduceEqDiff, or_self, or_false, false_or, k6, b1, m1]
          rw [E_62_1]
          simp only [↓reduceIte, q_i, q_l, q_k, q_r, q_z, q_si, q_sl, jx_lt, jx_ri, jx_rl, jx_rv, if_true, if_false, Nat.reduceLeDiff, Nat.add_one_ne_zero, and_self, true_or, or_true, Nat.reduceEqDiff, or_self, or_false, false_or, k6, r0, k7, b2, b4, m2]
          rw [E_62_2]
          simp only [↓reduceIte, q_i, q_l, q_k, q_r, q_z, q_si, q_sl, jx_lt, jx_ri, jx_rl, jx_rv, if_true, if_false, Nat.reduceLeDiff, Nat.add_one_ne_zero, and_self, true_or, or_true, Nat.reduceEqDiff, or_self, or_false, false_or, k6, r0, k7, b5, r5, t0, hfl.1, lastDay_eq hfl, hI0, hla, b7]
        · rw [D_225, E_225_0]
          simp only [↓reduceIte, q_i, q_l, q_k, q_r, q_z, q_si, q_sl, jx_lt, jx_ri, jx_rl, jx_rv, if_true, if_false, Nat.reduceLeDiff, Nat.add_one_ne_zero, and_self, true_or, or_true, Nat.reduceEqDiff, or_self, or_false, false_or, mo_k hm, h4, hf0, mf_k hf, hE6, e212, b3, b6, m210 hm h4 hf hf0 hJ0 b8, h5]
    · right
      have h5 := fa_5 fa
      refine ⟨I3, L2, J3, K2, fin0 _ _ ?_, ?_, fa⟩
      · rw [D_62, E_62_0]
        simp only [↓reduceIte, q_i, q_l, q_k, q_r, q_z, q_si, q_sl, jx_lt, jx_ri, jx_rl, jx_rv, if_true, if_false, Nat.reduceLeDiff, Nat.add_one_ne_zero, and_self, true_or, or_true, Nat.reduceEqDiff, or_self, or_false, false_or, k6, b1, m1]
        rw [E_62_1]
        simp only [↓reduceIte, q_i, q_l, q_k, q_r, q_z, q_si, q_sl, jx_lt, jx_ri, jx_rl, jx_rv, if_true, if_false, Nat.reduceLeDiff, Nat.add_one_ne_zero, and_self, true_or, or_true, Nat.reduceEqDiff, or_self, or_false, false_or, k6, r0, k7, b2, b4]
      · rw [D_225, E_225_0]
        simp only [↓reduceIte, q_i, q_l, q_k, q_r, q_z, q_si, q_sl, jx_lt, jx_ri, jx_rl, jx_rv, if_true, if_false, Nat.reduceLeDiff, Nat.add_one_ne_zero, and_self, true_or, or_true, Nat.reduceEqDiff, or_self, or_false, false_or, mo_k hm, h4, hf0, mf_k hf, hE6, e212, b3, b6, z210 hm h4 hf hf0 h5, h5]
  · right
    have h5 := fa_5 fa
    obtain ⟨c, hc, h13⟩ := fa_c fa
    refine ⟨I2, L1, J2, K1, fin0 _ _ ?_, ?_, fa⟩
    · rw [D_62, E_62_0]
      simp only [↓reduceIte, q_i, q_l, q_k, q_r, q_z, q_si, q_sl, jx_lt, jx_ri, jx_rl, jx_rv, if_true, if_false, Nat.reduceLeDiff, Nat.add_one_ne_zero, and_self, true_or, or_true, Nat.reduceEqDiff, or_self, or_false, false_or, k6, b1]
    · rw [D_225, E_225_0]
      simp only [↓reduceIte, q_i, q_l, q_k, q_r, q_z, q_si, q_sl, jx_lt, jx_ri, jx_rl, jx_rv, if_true, if_false, Nat.reduceLeDiff, Nat.add_one_ne_zero, and_self, true_or, or_true, Nat.reduceEqDiff, or_self, or_false, false_or, mo_k hm, h4, hf0, mf_k hf, hE6, e212, b3, z216 hm h4 hf hf0 hc h13 h5, z210 hm h4 hf hf0 h5, h5]
end PRg
