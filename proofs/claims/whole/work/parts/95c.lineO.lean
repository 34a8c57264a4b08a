/-! READING: the line of a way, both sides -/
section PWy
variable {s s2 : qS} {t f n : Nat} {b : Nat → Nat} {I0 J0 I J : qI} {L0 K0 L K : qL} {Z : qI → qL → qI → qL → Prop} {C : Nat → Nat} {p : Nat} {R : (Nat → Nat → Int32) → Prop}
/-- what is told, and what it says -/
def qZr (t f : Nat) (R : (Nat → Nat → Int32) → Prop) (C : Nat → Nat) (I : qI) (L : qL) (J : qI) (K : qL) : Prop := qZp t f 0 C I L J K ∧ R (qd I t)
theorem zr_stab (ht : t = 101 ∨ t = 140) (hf : 260 ≤ f) : qStab (qZr t f R C) := fun I L J K g h g' h' ⟨z1, z2⟩ => ⟨zp_stab ht hf _ _ _ _ _ _ _ _ z1, by
  rw [qd_same (I := I) fun a h1 h2 => q_up_ne (by omega)]; exact z2⟩
theorem go_r (h : qGo (qZp t f 0 C) t f n I0 L0 J0 K0 I L J K) (hR : R (qd I t)) : qGo (qZr t f R C) t f n I0 L0 J0 K0 I L J K := ⟨h.1, h.2.1, h.2.2.1, h.2.2.2.1, h.2.2.2.2, hR⟩
theorem go_p (h : qGo (qZr t f R C) t f n I0 L0 J0 K0 I L J K) : qGo (qZp t f 0 C) t f n I0 L0 J0 K0 I L J K := ⟨h.1, h.2.1, h.2.2.1, h.2.2.2.1, h.2.2.2.2.1⟩
theorem ix8 {a c : Nat} : w a * 8 + w c = w (8 * a + c) ∧ 8 * w a + w c = w (8 * a + c) := by
  rw [show (8 : Int32) = w 8 from rfl, w_mul, w_mul, w_add, w_add, Nat.mul_comm]
  exact ⟨rfl, rfl⟩
theorem line_way (cx : qCx s s2 t f n b I0 J0) (h : qGo (qZp t f 0 C) t f n I0 L0 J0 K0 I L J K) (hk : I 187 4 = 1) (h0 : C 0 ≠ 0) (h14 : C 4 < 14) : qLine C (jd 53 7 [some (.ref 181), none, some (.int 4), none, none] [] (I, L, s)) (jD 222 [.ref 240] (J, K, s2)) s s2 t f n I0 L0 J0 K0 := by
  obtain ⟨hr, hn, -, hm, h4, hf, hf0, hf9, -, -, htx⟩ := id cx
  obtain ⟨k6, r0, r1, r2, r3, r5, k182, z182, row2, row3, k7, r7, rt, hfl, ht⟩ := id hr
  have t0 : ¬ t = 0 := by omega
  have hz : qStab (qZp t f 0 C) := zp_stab ht hf9
  obtain ⟨I1, L1, J1, K1, e1, d1, g1, -⟩ := go_next cx hz h (by rw [hk]; decide) (by rw [hk]; decide)
  have l0 : C 0 ≤ 20 := (h.2.2.2.2.2.1.1 0 (by omega)).2
  have l3 : C 3 ≤ 8 := (h.2.2.2.2.2.1.1 3 (by omega)).2
  have hE0 : J f 0 ≠ 0 := by
    rw [zp_m h.2.2.2.2 (by omega)]
    exact fun z => h0 ((w_zero (by omega)).mp z)
  have hE4 : J f 4 = w (C 4) := zp_m h.2.2.2.2 (by omega)
  have e212 := m212_go (J := J) (K := K) (x := w (C 4)) (y := 14) hm h4 hf hf0 (fun z => by
    have := (w_eq (a := C 4) (b := 14) (by omega) (by omega)).mp z
    omega) hE0 d1
  have cl : jd 53 7 [some (.ref 181), none, some (.int 4), none, none] [] (I, L, s) = jd 53 11 [some (.ref 181), none, some (.int 4), none, none] [] (I1, L1, s) := by
    rw [E_53_7_4]
    simp only [↓reduceIte, q_i, q_l, q_k, q_r, q_z, q_si, q_sl, jx_lt, jx_ri, jx_rl, jx_rv, if_true, if_false, Nat.reduceLeDiff, Nat.add_one_ne_zero, and_self, true_or, or_true, Nat.reduceEqDiff, or_self, or_false, false_or, k6, r0, k7, e1]
  have fin0 : ∀ I' L', jD 57 [.ref 181] (I1, L1, s) = some (some (.int 0), I', L', s) → jd 53 7 [some (.ref 181), none, some (.int 4), none, none] [] (I, L, s) = some (some (.int 0), I', L', s) := fun I' L' e => by
    rw [cl, E_53_11]
    simp only [↓reduceIte, q_i, q_l, q_k, q_r, q_z, q_si, q_sl, jx_lt, jx_ri, jx_rl, jx_rv, if_true, if_false, Nat.reduceLeDiff, Nat.add_one_ne_zero, and_self, true_or, or_true, Nat.reduceEqDiff, or_self, or_false, false_or, k6, e]
    exact end_no
  have c8 : ∀ (M : jM) (x y z : Int32), jd 57 8 [some (.ref 181), some (.int x), some (.int y), some (.int z), none] [.int (-1)] M = some (some (.int 0), M) := fun M x y z => by
    rw [E_57_8, if_pos rfl, if_pos (Or.inl rfl)]
  have c6 : ∀ (M : jM) (x y : Int32), jd 57 6 [some (.ref 181), some (.int x), some (.int y), none, none] [.int (-1)] M = some (some (.int 0), M) := fun M x y => by
    rw [E_57_6, if_pos rfl, E_57_7]
    exact c8 M x y (-1)
  rcases go_name (kc := 3) (kr := 0) (N := C 3) cx hz g1 g1.2.2.2.2.1 (fun z => absurd z (by decide)) (Or.inl ⟨rfl, rfl, rfl⟩) with ⟨x1, I2, L2, J2, K2, x1b, -, b1, b2, b3, g2, -⟩ | ⟨I2, J2, b1, b3, fa⟩
  · have m1 : ¬ w x1 = (-1 : Int32) := w_m1 (by omega)
    rcases go_find (kc := 3) (kr := 0) (N := C 3) cx g2 g2.2.2.2.2.1 (fun z => absurd z (by decide)) (Or.inl ⟨rfl, rfl, rfl⟩) with ⟨x2, x2b, cs, b4, b5⟩ | ⟨I3, J3, b4, b5, fa⟩
    · have m2 : ¬ w x2 = (-1 : Int32) := w_m1 (by omega)
      have hz2 := g2.2.2.2.2
      have u2 := hz2.2.2.2.1.1 (8 * x1 + x2) (by omega)
      have cd : jD 57 [.ref 181] (I1, L1, s) = jd 57 2 [some (.ref 181), some (.int (w x1)), some (.int (w x2)), none, none] [] (I2, L2, s) := by
        rw [D_57, E_57_0]
        simp only [↓reduceIte, q_i, q_l, q_k, q_r, q_z, q_si, q_sl, jx_lt, jx_ri, jx_rl, jx_rv, if_true, if_false, Nat.reduceLeDiff, Nat.add_one_ne_zero, and_self, true_or, or_true, Nat.reduceEqDiff, or_self, or_false, false_or, k6, b1, m1]
        rw [E_57_1]
        simp only [↓reduceIte, q_i, q_l, q_k, q_r, q_z, q_si, q_sl, jx_lt, jx_ri, jx_rl, jx_rv, if_true, if_false, Nat.reduceLeDiff, Nat.add_one_ne_zero, and_self, true_or, or_true, Nat.reduceEqDiff, or_self, or_false, false_or, k6, r0, k7, b2, b4, m2]
      have hwi : jD 22 [.ref t, .int (w x1), .int (w x2)] (I2, L2, s) = some (some (.int (qd I2 t 2 (8 * x1 + x2))), I2, L2, s) := by
        rw [windOf_eq hfl, ix8.1, q_at_w (by omega) (by omega)]
      by_cases hbad : x1 = x2 ∨ ¬ qd I2 t 2 (8 * x1 + x2) < 0
      · right
        have fa := go_fault cx g2 (r := 3) (by decide) (by decide)
        have h51 : (q_up J2 240 (q_set (q_set (q_set (J2 240) 13 3) 14 (J2 240 10)) 9 5)) 240 9 = 5 := fa_5 fa
        have f1 : jd 222 1 [some (.ref 240), some (.int (w x1)), some (.int (w x2)), none, none] [] (J2, K2, s2) = some (none, q_up J2 240 (q_set (q_set (q_set (J2 240) 13 3) 14 (J2 240 10)) 9 5), K2, s2) := by
          rw [E_222_1]
          simp only [↓reduceIte, q_i, q_l, q_k, q_r, q_z, q_si, q_sl, jx_lt, jx_ri, jx_rl, jx_rv, if_true, if_false, Nat.reduceLeDiff, Nat.add_one_ne_zero, and_self, true_or, or_true, Nat.reduceEqDiff, or_self, or_false, false_or, mo_k hm, m203 hm g2.2.2.1]
          rw [E_222_2]
          simp only [↓reduceIte, q_i, q_l, q_k, q_r, q_z, q_si, q_sl, jx_lt, jx_ri, jx_rl, jx_rv, if_true, if_false, Nat.reduceLeDiff, Nat.add_one_ne_zero, and_self, true_or, or_true, Nat.reduceEqDiff, or_self, or_false, false_or, mo_k hm, z202 hm h51, z209 hm h51, h51]
        have f3 : jd 57 3 [some (.ref 181), none, none, none, none] [] (I2, L2, s) = some (some (.int 0), q_up I2 181 (q_set (q_set (I2 181) 6 (w 3)) 7 (I2 187 3)), L2, s) := by
          rw [E_57_3]
          simp only [↓reduceIte, q_i, q_l, q_k, q_r, q_z, q_si, q_sl, jx_lt, jx_ri, jx_rl, jx_rv, if_true, if_false, Nat.reduceLeDiff, Nat.add_one_ne_zero, and_self, true_or, or_true, Nat.reduceEqDiff, or_self, or_false, false_or, k6, show (3 : Int32) = w 3 from rfl, c51 hr]
        refine ⟨_, _, _, _, fin0 _ _ ?_, ?_, fa⟩
        · rw [cd, E_57_2]
          by_cases ce : x1 = x2
          · subst ce
            rw [if_pos rfl]
            exact f3
          · rw [if_neg (fun z => ce ((w_eq (by omega) (by omega)).mp z))]
            simp only [↓reduceIte, q_i, q_l, q_k, q_r, q_z, q_si, q_sl, jx_lt, jx_ri, jx_rl, jx_rv, if_true, if_false, Nat.reduceLeDiff, Nat.add_one_ne_zero, and_self, true_or, or_true, Nat.reduceEqDiff, or_self, or_false, false_or, k6, r5, t0, hfl.1, hwi, hbad.resolve_left ce, f3]
        · rw [D_222, E_222_0]
          by_cases ce : x1 = x2
          · subst ce
            simp only [↓reduceIte, q_i, q_l, q_k, q_r, q_z, q_si, q_sl, jx_lt, jx_ri, jx_rl, jx_rv, if_true, if_false, Nat.reduceLeDiff, Nat.add_one_ne_zero, and_self, true_or, or_true, Nat.reduceEqDiff, or_self, or_false, false_or, mo_k hm, h4, hf0, mf_k hf, hE4, e212, b3, b5, g2.2.2.1]
            exact f1
          · have cw : ¬ w x1 = w x2 := fun z => ce ((w_eq (by omega) (by omega)).mp z)
            have hw := hbad.resolve_left ce
            rcases u2 with ⟨z, -⟩ | ⟨a, c, z1, z2, -, -, z3, -⟩
            · exact absurd (by rw [z]; decide) hw
            · have e186 := mWay_eq (L := K2) hf (a := x1) (b := x2) (by omega) (by omega) (v := w a) z3
              rw [if_neg (w_m1 (by omega))] at e186
              simp only [↓reduceIte, q_i, q_l, q_k, q_r, q_z, q_si, q_sl, jx_lt, jx_ri, jx_rl, jx_rv, if_true, if_false, Nat.reduceLeDiff, Nat.add_one_ne_zero, and_self, true_or, or_true, Nat.reduceEqDiff, or_self, or_false, false_or, mo_k hm, h4, hf0, mf_k hf, hE4, e212, b3, b5, g2.2.2.1, cw, e186, show ¬ (1 : Int32) = 0 by decide]
              exact f1
      · have ce : ¬ x1 = x2 := fun z => hbad (Or.inl z)
        have cw : ¬ w x1 = w x2 := fun z => ce ((w_eq (by omega) (by omega)).mp z)
        have hneg : qd I2 t 2 (8 * x1 + x2) < 0 := Decidable.byContradiction fun z => hbad (Or.inr z)
        have hE2 : J2 (f + 2) (8 * x1 + x2) = -1 := by
          rcases u2 with ⟨-, z⟩ | ⟨a, c, z1, z2, -⟩
          · exact z
          · exact absurd hneg (by rw [z1]; exact w_nn (by omega))
        have e186 := mWay_eq (L := K2) hf (a := x1) (b := x2) (by omega) (by omega) hE2
        rw [if_pos rfl] at e186
        obtain ⟨I3, L3, J3, K3, e3, d3, g3, -⟩ := go_next cx (zr_stab (R := fun D => D 2 (8 * x1 + x2) < 0) ht hf9) (go_r g2 hneg) (by rw [cs]; decide) (by rw [cs]; decide)
        have hzr : qStab (qZr t f (fun D => D 2 (8 * x1 + x2) < 0) C) := zr_stab ht hf9
        have cf : jD 57 [.ref 181] (I1, L1, s) = jx_ri (jD 68 [.ref 181, .ref 12] (I3, L3, s)) fun v3 M2 => if v3 = 0 then jd 57 5 [some (.ref 181), some (.int (w x1)), some (.int (w x2)), none, none] [] M2 else if jm_k M2 181 = 6 then jx_ri (jD 69 [.ref 181, .int 0, .int 9] M2) fun v5 M4 => jd 57 6 [some (.ref 181), some (.int (w x1)), some (.int (w x2)), none, none] [.int v5] M4 else none := by
          rw [cd, E_57_2, if_neg cw]
          simp only [↓reduceIte, q_i, q_l, q_k, q_r, q_z, q_si, q_sl, jx_lt, jx_ri, jx_rl, jx_rv, if_true, if_false, Nat.reduceLeDiff, Nat.add_one_ne_zero, and_self, true_or, or_true, Nat.reduceEqDiff, or_self, or_false, false_or, k6, r5, t0, hfl.1, hwi, hneg]
          rw [E_57_4]
          simp only [↓reduceIte, q_i, q_l, q_k, q_r, q_z, q_si, q_sl, jx_lt, jx_ri, jx_rl, jx_rv, if_true, if_false, Nat.reduceLeDiff, Nat.add_one_ne_zero, and_self, true_or, or_true, Nat.reduceEqDiff, or_self, or_false, false_or, k6, r0, k7, e3]
        have rf : jD 222 [.ref 240] (J, K, s2) = jx_ri (jD 209 [.ref 240, .ref 44, .int 0, .int 9] (J3, K3, s2)) fun v3 M2 => if jm_k M2 240 = 13 then jx_ri (jD 209 [.ref 240, .ref 48, .int 0, .int 50] M2) fun v5 M4 => if jm_k M4 240 = 13 then if jm_i M4 240 9 = 5 then some (none, M4) else jd 222 3 [some (.ref 240), some (.int (w x1)), some (.int (w x2)), some (.int v3), some (.int v5)] [] M4 else none else none := by
          rw [D_222, E_222_0]
          simp only [↓reduceIte, q_i, q_l, q_k, q_r, q_z, q_si, q_sl, jx_lt, jx_ri, jx_rl, jx_rv, if_true, if_false, Nat.reduceLeDiff, Nat.add_one_ne_zero, and_self, true_or, or_true, Nat.reduceEqDiff, or_self, or_false, false_or, mo_k hm, h4, hf0, mf_k hf, hE4, e212, b3, b5, g2.2.2.1, cw, e186]
          rw [E_222_2]
          simp only [↓reduceIte, q_i, q_l, q_k, q_r, q_z, q_si, q_sl, jx_lt, jx_ri, jx_rl, jx_rv, if_true, if_false, Nat.reduceLeDiff, Nat.add_one_ne_zero, and_self, true_or, or_true, Nat.reduceEqDiff, or_self, or_false, false_or, mo_k hm, d3]
        rcases go_wnum cx hzr g3 (c := 12) (m := 44) (by omega) (by omega) t13.2.2.2.1 0 9 with ⟨v3, Ib, Lb, I4, L4, J4, K4, a3, a4, b6, b7, b8, g4⟩ | ⟨u, I4, L4, J4, K4, b6, b8, fa⟩
        · have hv3 : ¬ v3 = -1 := fun z => a3 (by rw [z]; decide)
          rcases go_wnum cx hzr g4 (c := 19) (m := 48) (by omega) (by omega) t13.2.2.2.2.1 0 50 with ⟨v4, Ic, Lc, I5, L5, J5, K5, a5, a6, b9, c1, c2, g5⟩ | ⟨u, I5, L5, J5, K5, b9, c2, fa⟩
          · have hv4 : ¬ v4 = -1 := fun z => a5 (by rw [z]; decide)
            left
            obtain ⟨x3, rfl, -, x3b⟩ := num_w (l := 0) (m := 9) (by omega) (by omega) a3 a4
            obtain ⟨x4, rfl, -, x4b⟩ := num_w (l := 0) (m := 50) (by omega) (by omega) a5 a6
            have g5' := go_p g5
            have hz5 := g5'.2.2.2.2
            have hn5 : qd I5 t 2 (8 * x1 + x2) < 0 := g5.2.2.2.2.2
            have hJ4 : J5 f 4 = w (C 4) := zp_m hz5 (by omega)
            obtain ⟨C', cC, cO⟩ : ∃ C' : Nat → Nat, C' 4 = C 4 + 1 ∧ ∀ k, k ≠ 4 → C' k = C k := ⟨fun k => if k = 4 then C 4 + 1 else C k, rfl, fun k hk3 => if_neg hk3⟩
            obtain ⟨Ia, hIa⟩ : ∃ Ia, Ia = q_up (q_up I5 (t + 6) (q_set (qd I5 t 2) (8 * x1 + x2) (w x3))) (t + 8) (q_set (qd I5 t 3) (8 * x1 + x2) (w x4)) := ⟨_, rfl⟩
            obtain ⟨Ja, hJa⟩ : ∃ Ja, Ja = q_up (q_up (q_up J5 (f + 2) (q_set (J5 (f + 2)) (8 * x1 + x2) (w x3))) (f + 3) (q_set (J5 (f + 3)) (8 * x1 + x2) (w x4))) f (q_set (J5 f) 4 (w (C 4 + 1))) := ⟨_, rfl⟩
            have iz : Ia (t + 2) = I5 (t + 2) := by rw [hIa, q_up_ne (by omega), q_up_ne (by omega)]
            have hIa4 : Ia (t + 2) 4 = w (C 4) := by rw [iz]; exact (zp_f hz5 (by omega)).1
            obtain ⟨Ib, hIb⟩ : ∃ Ib, Ib = q_up Ia (t + 2) (q_set (Ia (t + 2)) 4 (w (C 4 + 1))) := ⟨_, rfl⟩
            have ib : ∀ a, a ≠ t + 2 → a ≠ t + 6 → a ≠ t + 8 → Ib a = I5 a := fun a u x y => by rw [hIb, q_up_ne u, hIa, q_up_ne y, q_up_ne x]
            have ibz : Ib (t + 2) = q_set (I5 (t + 2)) 4 (w (C 4 + 1)) := by rw [hIb, q_up_eq, iz]
            have ib2 : Ib (t + 6) = q_set (qd I5 t 2) (8 * x1 + x2) (w x3) := by rw [hIb, q_up_ne (by omega), hIa, q_up_ne (by omega), q_up_eq]
            have ib3 : Ib (t + 8) = q_set (qd I5 t 3) (8 * x1 + x2) (w x4) := by rw [hIb, q_up_ne (by omega), hIa, q_up_eq]
            have j0 : ∀ a, a ≠ f → a ≠ f + 2 → a ≠ f + 3 → Ja a = J5 a := fun a x y z => by rw [hJa, q_up_ne x, q_up_ne z, q_up_ne y]
            have jf : Ja f = q_set (J5 f) 4 (w (C 4 + 1)) := by rw [hJa, q_up_eq]
            have j2 : Ja (f + 2) = q_set (J5 (f + 2)) (8 * x1 + x2) (w x3) := by rw [hJa, q_up_ne (by omega), q_up_ne (by omega), q_up_eq]
            have j3 : Ja (f + 3) = q_set (J5 (f + 3)) (8 * x1 + x2) (w x4) := by rw [hJa, q_up_ne (by omega), q_up_eq]
            refine ⟨C', Ib, L5, Ja, K5, ?_, ?_, ?_, ?_⟩
            · have e57 : jD 57 [.ref 181] (I1, L1, s) = some (some (.int 1), Ia, L5, s) := by
                rw [cf]
                simp only [↓reduceIte, q_i, q_l, q_k, q_r, q_z, q_si, q_sl, jx_lt, jx_ri, jx_rl, jx_rv, if_true, if_false, Nat.reduceLeDiff, Nat.add_one_ne_zero, and_self, true_or, or_true, Nat.reduceEqDiff, or_self, or_false, false_or, k6, b6, b7, show ¬ (1 : Int32) = 0 by decide]
                rw [E_57_6, if_neg hv3]
                simp only [↓reduceIte, q_i, q_l, q_k, q_r, q_z, q_si, q_sl, jx_lt, jx_ri, jx_rl, jx_rv, if_true, if_false, Nat.reduceLeDiff, Nat.add_one_ne_zero, and_self, true_or, or_true, Nat.reduceEqDiff, or_self, or_false, false_or, k6, b9, c1, show ¬ (1 : Int32) = 0 by decide]
                rw [E_57_8, if_neg hv4, E_57_9]
                simp only [↓reduceIte, q_i, q_l, q_k, q_r, q_z, q_si, q_sl, jx_lt, jx_ri, jx_rl, jx_rv, if_true, if_false, Nat.reduceLeDiff, Nat.add_one_ne_zero, and_self, true_or, or_true, Nat.reduceEqDiff, or_self, or_false, false_or, k6, r5, t0, hfl.1, setWay_eq hfl, ix8.1, q_put_w (n := 64) (k := 8 * x1 + x2) (by omega) (by omega)]
                rw [hIa]
              rw [cl, E_53_11, hIb]
              simp only [↓reduceIte, q_i, q_l, q_k, q_r, q_z, q_si, q_sl, jx_lt, jx_ri, jx_rl, jx_rv, if_true, if_false, Nat.reduceLeDiff, Nat.add_one_ne_zero, and_self, true_or, or_true, Nat.reduceEqDiff, or_self, or_false, false_or, k6, e57]
              exact end_ok hr (x := 4) (by omega) (by omega) hIa4
            · have m1 : ∀ g, q_up J5 (f + 2) g f = J5 f := fun g => q_up_ne (by omega)
              have m2 : ∀ g g', q_up (q_up J5 (f + 2) g) (f + 3) g' f = J5 f := fun g g' => by rw [q_up_ne (by omega), q_up_ne (by omega)]
              have m4 : ∀ g, q_up J5 (f + 2) g (f + 3) = J5 (f + 3) := fun g => q_up_ne (by omega)
              rw [rf]
              simp only [↓reduceIte, q_i, q_l, q_k, q_r, q_z, q_si, q_sl, jx_lt, jx_ri, jx_rl, jx_rv, if_true, if_false, Nat.reduceLeDiff, Nat.add_one_ne_zero, and_self, true_or, or_true, Nat.reduceEqDiff, or_self, or_false, false_or, mo_k hm, b8, c2, g5.2.2.1]
              rw [E_222_3]
              simp only [↓reduceIte, q_i, q_l, q_k, q_r, q_z, q_si, q_sl, jx_lt, jx_ri, jx_rl, jx_rv, if_true, if_false, Nat.reduceLeDiff, Nat.add_one_ne_zero, and_self, true_or, or_true, Nat.reduceEqDiff, or_self, or_false, false_or, mo_k hm, h4, hf0, mf_k hf, mf_r15 hf, mf_k15 hf, mf_z15 hf, mf_r16 hf, mf_k16 hf, mf_z16 hf, Nat.add_eq_zero_iff, and_false, ix8.2, m1, m2, m4, hJ4, w_nn (a := 8 * x1 + x2) (by omega), show ¬ 64 ≤ 8 * x1 + x2 by omega, w_tc (a := 8 * x1 + x2) (by omega), w_inc]
              rw [hJa]
            · refine go_end cx g5' (fun a ha => ib a (by omega) (by omega) (by omega)) (fun a ha => j0 a (by omega) (by omega) (by omega)) ?_ (cO 3 (by omega)) (cO 5 (by omega)) (cO 8 (by omega)) ?_
              · rw [jf, q_set_ne (by omega)]
              · refine fy_way (a := x1) (b := x2) (p := x3) (q := x4) hz5.2 h0 h14 cC cO (fun k z => qd_of fun hk => ib _ (by omega) (by omega) (by omega)) (fun k z => me_of fun hk => j0 _ (by omega) (by omega) (by omega)) (fun k a1 => ?_) ?_ (fun k a1 => ?_) ?_ (by omega) (by omega) x3b x4b hn5 (fun i => ?_) (fun i => ?_) (fun i => ?_) (fun i => ?_)
                · rw [qd_at (by omega), qd_at (by omega)]
                  exact (congrFun ibz k).trans (q_set_ne a1)
                · rw [qd_at (by omega)]
                  exact (congrFun ibz 4).trans q_set_eq
                · rw [me_at (by omega), me_at (by omega)]
                  exact (congrFun jf k).trans (q_set_ne a1)
                · rw [me_at (by omega)]
                  exact (congrFun jf 4).trans q_set_eq
                · rw [qd_at (by omega)]
                  exact congrFun ib2 i
                · rw [qd_at (by omega)]
                  exact congrFun ib3 i
                · rw [me_at (by omega), me_at (by omega), j2]; rfl
                · rw [me_at (by omega), me_at (by omega), j3]; rfl
            · exact mu_up (x := 4) (by omega) (by omega) h0 cC cO
          · right
            have h5 := fa_5 fa
            refine ⟨I5, L5, J5, K5, fin0 _ _ ?_, ?_, fa⟩
            · rw [cf]
              simp only [↓reduceIte, q_i, q_l, q_k, q_r, q_z, q_si, q_sl, jx_lt, jx_ri, jx_rl, jx_rv, if_true, if_false, Nat.reduceLeDiff, Nat.add_one_ne_zero, and_self, true_or, or_true, Nat.reduceEqDiff, or_self, or_false, false_or, k6, b6, b7, show ¬ (1 : Int32) = 0 by decide]
              rw [E_57_6, if_neg hv3]
              rcases b9 with b9 | ⟨Ic, Lc, b9, c1⟩
              · simp only [↓reduceIte, q_i, q_l, q_k, q_r, q_z, q_si, q_sl, jx_lt, jx_ri, jx_rl, jx_rv, if_true, if_false, Nat.reduceLeDiff, Nat.add_one_ne_zero, and_self, true_or, or_true, Nat.reduceEqDiff, or_self, or_false, false_or, k6, b9]
                rw [E_57_7]
                exact c8 _ _ _ _
              · simp only [↓reduceIte, q_i, q_l, q_k, q_r, q_z, q_si, q_sl, jx_lt, jx_ri, jx_rl, jx_rv, if_true, if_false, Nat.reduceLeDiff, Nat.add_one_ne_zero, and_self, true_or, or_true, Nat.reduceEqDiff, or_self, or_false, false_or, k6, b9, c1, show ¬ (1 : Int32) = 0 by decide]
                exact c8 _ _ _ _
            · rw [rf]
              simp only [↓reduceIte, q_i, q_l, q_k, q_r, q_z, q_si, q_sl, jx_lt, jx_ri, jx_rl, jx_rv, if_true, if_false, Nat.reduceLeDiff, Nat.add_one_ne_zero, and_self, true_or, or_true, Nat.reduceEqDiff, or_self, or_false, false_or, mo_k hm, b8, c2, h5]
        · right
          have h5 := fa_5 fa
          refine ⟨I4, L4, J4, K4, fin0 _ _ ?_, ?_, fa⟩
          · rw [cf]
            rcases b6 with b6 | ⟨Ic, Lc, b6, b7⟩
            · simp only [↓reduceIte, q_i, q_l, q_k, q_r, q_z, q_si, q_sl, jx_lt, jx_ri, jx_rl, jx_rv, if_true, if_false, Nat.reduceLeDiff, Nat.add_one_ne_zero, and_self, true_or, or_true, Nat.reduceEqDiff, or_self, or_false, false_or, k6, b6]
              rw [E_57_5]
              exact c6 _ _ _
            · simp only [↓reduceIte, q_i, q_l, q_k, q_r, q_z, q_si, q_sl, jx_lt, jx_ri, jx_rl, jx_rv, if_true, if_false, Nat.reduceLeDiff, Nat.add_one_ne_zero, and_self, true_or, or_true, Nat.reduceEqDiff, or_self, or_false, false_or, k6, b6, b7, show ¬ (1 : Int32) = 0 by decide]
              exact c6 _ _ _
          · rw [rf]
            simp only [↓reduceIte, q_i, q_l, q_k, q_r, q_z, q_si, q_sl, jx_lt, jx_ri, jx_rl, jx_rv, if_true, if_false, Nat.reduceLeDiff, Nat.add_one_ne_zero, and_self, true_or, or_true, Nat.reduceEqDiff, or_self, or_false, false_or, mo_k hm, b8, z209 hm h5, h5]
    · right
      have h5 := fa_5 fa
      refine ⟨I3, L2, J3, K2, fin0 _ _ ?_, ?_, fa⟩
      · rw [D_57, E_57_0]
        simp only [↓reduceIte, q_i, q_l, q_k, q_r, q_z, q_si, q_sl, jx_lt, jx_ri, jx_rl, jx_rv, if_true, if_false, Nat.reduceLeDiff, Nat.add_one_ne_zero, and_self, true_or, or_true, Nat.reduceEqDiff, or_self, or_false, false_or, k6, b1, m1]
        rw [E_57_1]
        simp only [↓reduceIte, q_i, q_l, q_k, q_r, q_z, q_si, q_sl, jx_lt, jx_ri, jx_rl, jx_rv, if_true, if_false, Nat.reduceLeDiff, Nat.add_one_ne_zero, and_self, true_or, or_true, Nat.reduceEqDiff, or_self, or_false, false_or, k6, r0, k7, b2, b4]
      · rw [D_222, E_222_0]
        simp only [↓reduceIte, q_i, q_l, q_k, q_r, q_z, q_si, q_sl, jx_lt, jx_ri, jx_rl, jx_rv, if_true, if_false, Nat.reduceLeDiff, Nat.add_one_ne_zero, and_self, true_or, or_true, Nat.reduceEqDiff, or_self, or_false, false_or, mo_k hm, h4, hf0, mf_k hf, hE4, e212, b3, b5, h5]
        rw [E_222_2]
        simp only [↓reduceIte, q_i, q_l, q_k, q_r, q_z, q_si, q_sl, jx_lt, jx_ri, jx_rl, jx_rv, if_true, if_false, Nat.reduceLeDiff, Nat.add_one_ne_zero, and_self, true_or, or_true, Nat.reduceEqDiff, or_self, or_false, false_or, mo_k hm, z202 hm h5, z209 hm h5, h5]
  · right
    have h5 := fa_5 fa
    obtain ⟨c, hc, h13⟩ := fa_c fa
    refine ⟨I2, L1, J2, K1, fin0 _ _ ?_, ?_, fa⟩
    · rw [D_57, E_57_0]
      simp only [↓reduceIte, q_i, q_l, q_k, q_r, q_z, q_si, q_sl, jx_lt, jx_ri, jx_rl, jx_rv, if_true, if_false, Nat.reduceLeDiff, Nat.add_one_ne_zero, and_self, true_or, or_true, Nat.reduceEqDiff, or_self, or_false, false_or, k6, b1]
    · rw [D_222, E_222_0]
      simp only [↓reduceIte, q_i, q_l, q_k, q_r, q_z, q_si, q_sl, jx_lt, jx_ri, jx_rl, jx_rv, if_true, if_false, Nat.reduceLeDiff, Nat.add_one_ne_zero, and_self, true_or, or_true, Nat.reduceEqDiff, or_self, or_false, false_or, mo_k hm, h4, hf0, mf_k hf, hE4, e212, b3, z215 hm h4 hf hf0 hc h13 h5, h5]
      rw [E_222_2]
      simp only [↓reduceIte, q_i, q_l, q_k, q_r, q_z, q_si, q_sl, jx_lt, jx_ri, jx_rl, jx_rv, if_true, if_false, Nat.reduceLeDiff, Nat.add_one_ne_zero, and_self, true_or, or_true, Nat.reduceEqDiff, or_self, or_false, false_or, mo_k hm, z202 hm h5, z209 hm h5, h5]
end PWy
