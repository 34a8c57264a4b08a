/-! PAIRS OF CALLS with a flight: undoing, marks -/
section UN
variable {I : qI} {L : qL} {s : qS} {t t' f U S dn R O W q : Nat}
theorem yy_congr {J : qI} (hx : qXo s t t') (h : ∀ a, ¬ qSc a → a ≠ 240 + 2 → a ≠ 240 + 3 → a ≠ 240 + 4 → J a = I a) (hy : qYY I t U dn) : qYY J t U dn := by
  have htt := xo_tt hx
  have ed : qd J t = qd I t := qd_same fun a z1 z2 => h a (by unfold qSc; omega) (by omega) (by omega) (by omega)
  unfold qYY at hy ⊢
  rw [ed, h (188 + 2) (by unfold qSc; omega) (by omega) (by omega) (by omega), h (199 + 1 + 2 * 0 + 1) (by unfold qSc; omega) (by omega) (by omega) (by omega), h (199 + 1 + 2 * 1 + 1) (by unfold qSc; omega) (by omega) (by omega) (by omega), h (199 + 1 + 2 * 2 + 1) (by unfold qSc; omega) (by omega) (by omega) (by omega), h (199 + 1 + 2 * 3 + 1) (by unfold qSc; omega) (by omega) (by omega) (by omega), h (199 + 1 + 2 * 4 + 1) (by unfold qSc; omega) (by omega) (by omega) (by omega), h (199 + 1 + 2 * 6 + 1) (by unfold qSc; omega) (by omega) (by omega) (by omega)]
  exact hy
theorem p_undo (h : qHV I s t t' f U S dn R O W) : qAnsA I L s t t' f U S dn R O W 157 [.ref 100] 309 [.ref 240] := by
  obtain ⟨h1, h2, h3, h4, h5, o, n, k, g1, g2, g3, g4, g5, g6, g7, g8, g9, g10⟩ := id h
  obtain ⟨hU, hU9⟩ := h1_U h1
  obtain ⟨hd, hd0, hd9⟩ := h1_d h1
  obtain ⟨hx, hm, hf, hT⟩ := id h1
  have htt := xo_tt hx
  by_cases c : n = 0
  · have m19 : mZ (cT I 6) 240 240 19 = 0 := by
      rw [mZ, q_up_eq, q_set_ne (by decide), cT, q_up_ne (by decide), g7, c]; rfl
    refine ansA_0 h (ans_T (v := .int 0) (r := 6) (J := mZ (cT I 6) 240) ?_ ?_ fr_mZ fr_x13 (by decide))
    · simp only [D_157, E_157_0, ↓reduceIte, q_i, q_l, q_k, q_r, q_z, q_si, q_sl, jx_lt, jx_ri, jx_rl, jx_rv, if_true, if_false, Nat.reduceLeDiff, Nat.add_one_ne_zero, and_self, true_or, or_true, Nat.reduceEqDiff, or_self, or_false, false_or, xo_k hx, xo_r0 hx, xo_r1 hx, xo_r2 hx, xo_r3 hx, xo_r4 hx, xo_r5 hx, xo_r6 hx, xo_r7 hx, xo_r8 hx, xo_r9 hx, xo_r10 hx, xo_r11 hx, xo_ka hx, xo_ra0 hx, xo_ra1 hx, xo_ko hx, xo_ro0 hx, xo_ro1 hx, xo_kf hx, xo_rf0 hx, xo_kh hx, xo_rh0 hx, xo_ke hx, xo_re0 hx, xo_re1 hx, xo_kn hx, xo_zn hx, xo_re2 hx, xo_re3 hx, xo_kt hx, xo_rt0 hx, xo_t0 hx, (xo_ft hx).1, (xo_now hx).1, (xo_now hx).2.1, (xo_now hx).2.2.1, (xo_try hx).1, (xo_yr hx).1.1, (xo_ty hx).1, answered_eq hx, refused_eq hx, show ¬ (1 : Int32) = 0 by decide, Nat.reduceLT, g3, show w n = (0 : Int32) from (w_zero (by omega)).mpr c, isRefused_eq hx]
    · simp only [D_309, E_309_0, E_309_1, ↓reduceIte, q_i, q_l, q_k, q_r, q_z, q_si, q_sl, jx_lt, jx_ri, jx_rl, jx_rv, if_true, if_false, Nat.reduceLeDiff, Nat.add_one_ne_zero, and_self, true_or, or_true, Nat.reduceEqDiff, or_self, or_false, false_or, mo_k hm.1, mo_r5 hm.1, mo_k5 hm.1, mo_z5 hm.1, mo_r16 hm.1, mo_k16 hm.1, mo_z16 hm.1, mo_r17 hm.1, mo_k17 hm.1, mo_z17 hm.1, mo_r18 hm.1, mo_k18 hm.1, mo_z18 hm.1, mo_r21 hm.1, mo_k21 hm.1, mo_z21 hm.1, mo_r22 hm.1, mo_k22 hm.1, mo_z22 hm.1, mo_r23 hm.1, mo_k23 hm.1, mo_z23 hm.1, mo_r24 hm.1, mo_k24 hm.1, mo_z24 hm.1, mo_r25 hm.1, mo_k25 hm.1, mo_z25 hm.1, mo_r26 hm.1, mo_k26 hm.1, mo_z26 hm.1, mo_r27 hm.1, mo_k27 hm.1, mo_z27 hm.1, mo_r29 hm.1, mo_k29 hm.1, mo_z29 hm.1, mo_r30 hm.1, mo_k30 hm.1, mo_z30 hm.1, mo_r31 hm.1, mo_k31 hm.1, mo_z31 hm.1, mo_r32 hm.1, mo_k32 hm.1, mo_z32 hm.1, mo_r40 hm.1, mo_k40 hm.1, mo_z40 hm.1, mo_r43 hm.1, mo_k43 hm.1, mo_z43 hm.1, mo_r44 hm.1, mo_k44 hm.1, mo_z44 hm.1, mf_k hm.2.1, mf_r14 hm.2.1, mf_k14 hm.2.1, mf_z14 hm.2.1, mf_r15 hm.2.1, mf_k15 hm.2.1, mf_z15 hm.2.1, mf_r16 hm.2.1, mf_k16 hm.2.1, mf_z16 hm.2.1, mf_r17 hm.2.1, mf_k17 hm.2.1, mf_z17 hm.2.1, mf_r18 hm.2.1, mf_k18 hm.2.1, mf_z18 hm.2.1, mf_r19 hm.2.1, mf_k19 hm.2.1, mf_z19 hm.2.1, mf_r20 hm.2.1, mf_k20 hm.2.1, mf_z20 hm.2.1, mf_r21 hm.2.1, mf_k21 hm.2.1, mf_z21 hm.2.1, mf_r22 hm.2.1, mf_k22 hm.2.1, mf_z22 hm.2.1, mf_r23 hm.2.1, mf_k23 hm.2.1, mf_z23 hm.2.1, mf_r24 hm.2.1, mf_k24 hm.2.1, mf_z24 hm.2.1, mf_r25 hm.2.1, mf_k25 hm.2.1, mf_z25 hm.2.1, mf_r26 hm.2.1, mf_k26 hm.2.1, mf_z26 hm.2.1, mf_r27 hm.2.1, mf_k27 hm.2.1, mf_z27 hm.2.1, mf_r28 hm.2.1, mf_k28 hm.2.1, mf_z28 hm.2.1, mf_r29 hm.2.1, mf_k29 hm.2.1, mf_z29 hm.2.1, mf_r30 hm.2.1, mf_k30 hm.2.1, mf_z30 hm.2.1, mf_r31 hm.2.1, mf_k31 hm.2.1, mf_z31 hm.2.1, mf_r32 hm.2.1, mf_k32 hm.2.1, mf_z32 hm.2.1, mf_r33 hm.2.1, mf_k33 hm.2.1, mf_z33 hm.2.1, mf_r34 hm.2.1, mf_k34 hm.2.1, mf_z34 hm.2.1, mf_r35 hm.2.1, mf_k35 hm.2.1, mf_z35 hm.2.1, mf_r36 hm.2.1, mf_k36 hm.2.1, mf_z36 hm.2.1, hm.2.2.1, hm.2.2.2, q_mZ, mgood_eq hm.1, mrefused_eq hm.1, show ¬ (1 : Int32) = 0 by decide, show ¬ (1 : Int32) ≤ 0 by decide, show ¬ (2 : Int32) ≤ 0 by decide, show ¬ (6 : Int32) ≤ 0 by decide, show (0 : Int32) ≤ 0 by decide, m19, mdenied_eq hm.1]
  · have hz : ¬ w n = (0 : Int32) := fun z => c ((w_zero (by omega)).mp z)
    have hlt : (o + (n - 1)) % 16 < 16 := Nat.mod_lt _ (by omega)
    have hpos : ¬ w n ≤ (0 : Int32) := by rw [show (0 : Int32) = w 0 from rfl, w_le (by omega) (by omega)]; omega
    generalize hA : q_up I 194 (q_set (I 194) 3 (w (n - 1))) = A
    have a194 : A 194 = q_set (I 194) 3 (w (n - 1)) := by rw [← hA, q_up_eq]
    have aa : ∀ a, a ≠ 194 → A a = I a := fun a z => by rw [← hA, q_up_ne z]
    have hcp := copy_eq (I := A) (L := L) (xo_now hx).2.2 (xo_past hx) (by decide) (to := 0) (fr := (o + (n - 1)) % 16 * 19) (len := 19) (by omega) (by omega)
    have hcp' : jD 83 [.ref (188 + 1), .int 0, .ref 195, .int (w ((o + (n - 1)) % 16 * 19)), .int 19] (A, L, s) = _ := hcp
    generalize hP' : (fun k => if 0 ≤ k ∧ k < 0 + 19 then A (195 + 1) ((o + (n - 1)) % 16 * 19 + (k - 0)) else A (188 + 1 + 1) k) = P' at hcp'
    have hpc := past_eq (I := A) (L := L) hx (o := o) (i := n - 1) (by rw [a194, q_set_ne (by decide)]; exact g1) (by omega) (by omega)
    have e1 : jD 3 [.ref 194, .ref 188] (I, L, s) = some (none, q_up A (188 + 1 + 1) P', L, s) := by
      rw [D_3, E_3_0]
      simp only [↓reduceIte, q_i, q_l, q_k, q_r, q_z, q_si, q_sl, jx_lt, jx_ri, jx_rl, jx_rv, if_true, if_false, Nat.reduceLeDiff, Nat.add_one_ne_zero, and_self, true_or, or_true, Nat.reduceEqDiff, or_self, or_false, false_or, xo_k hx, xo_r0 hx, xo_r1 hx, xo_r2 hx, xo_r3 hx, xo_r4 hx, xo_r5 hx, xo_r6 hx, xo_r7 hx, xo_r8 hx, xo_r9 hx, xo_r10 hx, xo_r11 hx, xo_ka hx, xo_ra0 hx, xo_ra1 hx, xo_ko hx, xo_ro0 hx, xo_ro1 hx, xo_kf hx, xo_rf0 hx, xo_kh hx, xo_rh0 hx, xo_ke hx, xo_re0 hx, xo_re1 hx, xo_kn hx, xo_zn hx, xo_re2 hx, xo_re3 hx, xo_kt hx, xo_rt0 hx, xo_t0 hx, (xo_ft hx).1, (xo_now hx).1, (xo_now hx).2.1, (xo_now hx).2.2.1, (xo_try hx).1, (xo_yr hx).1.1, (xo_ty hx).1, g3, hpos, w_dec (a := n) (by omega) (by omega), hA, a194, q_set_eq, (xo_now hx).1, (xo_now hx).2.1, (xo_now hx).2.2.1, hpc, hcp', E_3_1]
    generalize hK1 : q_up A (188 + 1 + 1) P' = K1 at e1
    have ed1 : qd K1 t = qd I t := qd_same fun a z1 z2 => by rw [← hK1, q_up_ne (by omega), aa a (by omega)]
    obtain ⟨I2, e2, s1, s2⟩ := settle_eq (I := K1) (L := L) hx (by rw [ed1]; exact hU) hU9 (by rw [ed1]; exact hd) hd9
    have i2 : ∀ a, a < 199 ∨ 214 ≤ a → a ≠ 194 → a ≠ 188 + 1 + 1 → I2 a = I a := fun a z1 z2 z3 => by
      rw [s1 a z1, ← hK1, q_up_ne z3, aa a z2]
    have f1 : qFrT I I2 := frT_of fun a ha => i2 a (by unfold qTo qSc at ha; omega) (fun e => ha (by subst e; unfold qTo; omega)) (fun e => ha (by subst e; unfold qTo; omega))
    have cT240 : cT I2 0 240 = I 240 := by
      rw [cT, q_up_ne (by decide)]
      exact i2 240 (by omega) (by omega) (by omega)
    generalize hJ0 : mZ (cT I2 0) 240 = J0
    have j0 : ∀ a, ¬ qSc a → J0 a = I2 a := fun a ha => by
      rw [← hJ0, mZ, q_up_ne (fun e => ha (by subst e; unfold qSc; omega)), cT, q_up_ne (fun e => ha (by subst e; unfold qSc; omega))]
    have j19 : J0 240 19 = w n := by rw [← hJ0, mZ, q_up_eq, q_set_ne (by decide), cT240]; exact g7
    have j20 : J0 240 20 = w k := by rw [← hJ0, mZ, q_up_eq, q_set_ne (by decide), cT240]; exact g8
    generalize hJ1 : q_up J0 240 (q_set (J0 240) 19 (w (n - 1))) = J1
    have j1 : ∀ a, a ≠ 240 → J1 a = J0 a := fun a ha => by rw [← hJ1, q_up_ne ha]
    have j1v : J1 240 = q_set (J0 240) 19 (w (n - 1)) := by rw [← hJ1, q_up_eq]
    obtain ⟨J2, e3, hJ2⟩ := q_loopE (P := fun i (J : qI) => J = q_up J1 (240 + 2) (fun j => if j < i then J1 (240 + 3) (49 * (n - 1) + j) else J1 (240 + 2) j)) (F := fun i J => jd 309 3 [some (.ref 240), some (.int (w i))] [] (J, L, s)) (n := 49) (fun i J hi hJ => by
      refine ⟨_, ?_, rfl⟩
      subst hJ
      have a1 : ∀ g : Nat → Int32, q_up J1 (240 + 2) g 240 = q_set (J0 240) 19 (w (n - 1)) := fun g => by rw [q_up_ne (by decide), j1v]
      have a2 : ∀ g : Nat → Int32, q_up J1 (240 + 2) g (240 + 3) = J1 (240 + 3) := fun g => q_up_ne (by decide)
      show jd 309 3 _ _ _ = jd 309 3 _ _ _
      rw [E_309_3, if_neg (by rw [show (49 : Int32) = w 49 from rfl, w_le (by omega) (by omega)]; omega)]
      simp only [show (49 : Int32) = w 49 from rfl, ↓reduceIte, q_i, q_l, q_k, q_r, q_z, q_si, q_sl, jx_lt, jx_ri, jx_rl, jx_rv, if_true, if_false, Nat.reduceLeDiff, Nat.add_one_ne_zero, and_self, true_or, or_true, Nat.reduceEqDiff, or_self, or_false, false_or, mo_k hm.1, mo_r17 hm.1, mo_k17 hm.1, mo_z17 hm.1, mo_r16 hm.1, mo_k16 hm.1, mo_z16 hm.1, a1, a2, q_set_eq, w_mul, w_add, w_nn (a := i) (by omega), show ¬ 49 ≤ i by omega, w_tc (a := i) (by omega), w_nn (a := 49 * (n - 1) + i) (by omega), show ¬ 784 ≤ 49 * (n - 1) + i by omega, w_tc (a := 49 * (n - 1) + i) (by omega), q_up_eq, q_up_up, w_inc]
      congr 2
      congr 1
      funext j
      unfold q_set
      by_cases c : j = i
      · subst c
        rw [if_pos rfl, if_pos (by omega)]
      · rw [if_neg c]
        show (if j < i then _ else _) = _
        by_cases c2 : j < i
        · rw [if_pos c2, if_pos (by omega)]
        · rw [if_neg c2, if_neg (by omega)]) J1 (by
      have : (fun j => if j < 0 then J1 (240 + 3) (49 * (n - 1) + j) else J1 (240 + 2) j) = J1 (240 + 2) := by funext j; rw [if_neg (by omega)]
      rw [this, q_up_self])
    have jj : ∀ a, ¬ qSc a → a ≠ 240 + 2 → J2 a = I2 a := fun a ha hb => by
      rw [hJ2, q_up_ne hb, j1 a (fun e => ha (by subst e; unfold qSc; omega)), j0 a ha]
    have jv : J2 240 = q_set (J0 240) 19 (w (n - 1)) := by rw [hJ2, q_up_ne (by decide), j1v]
    have f2 : qFrT (cT I2 0) J2 := by
      refine frT_trans (K := J2) (J := J0) (by rw [← hJ0]; exact fr_T fr_mZ) ⟨fun a ha => ?_, ⟨?_, ?_, ?_⟩, ?_, ?_⟩
      · rw [hJ2, q_up_ne (fun e => ha (by subst e; unfold qTo; omega)), j1 a (fun e => ha (by subst e; unfold qTo qSc; omega))]
      · rw [hJ2, q_up_ne (by decide), j1 _ (by decide)]
      · rw [hJ2, q_up_ne (by decide), j1 _ (by decide)]
      · rw [hJ2, q_up_ne (by decide), j1 _ (by decide)]
      · rw [jv, q_set_ne (by decide)]
      · rw [jv, q_set_ne (by decide)]
    have fall : qFrT I J2 := frT_trans f1 (frT_trans (fr_T fr_cT) f2)
    have j2_100 : J2 100 = cT I2 0 100 := by rw [hJ2, q_up_ne (by decide), j1 _ (by decide), ← hJ0, fr_x13]
    have e188 : J2 (188 + 2) = P' := by
      rw [jj (188 + 2) (by unfold qSc; omega) (by omega), s1 _ (by omega), ← hK1]
      exact q_up_eq
    have i243 : J1 (240 + 3) = I (240 + 3) := by
      rw [j1 _ (by decide), j0 _ (by unfold qSc; omega)]
      exact i2 _ (by omega) (by omega) (by omega)
    refine ansA_T (I1 := I2) (v := .int 1) (J := J2) ?_ f1 ?_ f2 j2_100 (hv_new h fall (yy_congr hx (fun a z1 z2 z3 z4 => jj a z1 z2) s2) ?_ ?_)
    · simp only [D_157, E_157_0, E_157_1, ↓reduceIte, q_i, q_l, q_k, q_r, q_z, q_si, q_sl, jx_lt, jx_ri, jx_rl, jx_rv, if_true, if_false, Nat.reduceLeDiff, Nat.add_one_ne_zero, and_self, true_or, or_true, Nat.reduceEqDiff, or_self, or_false, false_or, xo_k hx, xo_r0 hx, xo_r1 hx, xo_r2 hx, xo_r3 hx, xo_r4 hx, xo_r5 hx, xo_r6 hx, xo_r7 hx, xo_r8 hx, xo_r9 hx, xo_r10 hx, xo_r11 hx, xo_ka hx, xo_ra0 hx, xo_ra1 hx, xo_ko hx, xo_ro0 hx, xo_ro1 hx, xo_kf hx, xo_rf0 hx, xo_kh hx, xo_rh0 hx, xo_ke hx, xo_re0 hx, xo_re1 hx, xo_kn hx, xo_zn hx, xo_re2 hx, xo_re3 hx, xo_kt hx, xo_rt0 hx, xo_t0 hx, (xo_ft hx).1, (xo_now hx).1, (xo_now hx).2.1, (xo_now hx).2.2.1, (xo_try hx).1, (xo_yr hx).1.1, (xo_ty hx).1, answered_eq hx, refused_eq hx, show ¬ (1 : Int32) = 0 by decide, Nat.reduceLT, g3, hz, e1, e2, isDone_eq hx]
    · have g7' : J0 240 19 = w n := j19
      simp only [D_309, E_309_0, ↓reduceIte, q_i, q_l, q_k, q_r, q_z, q_si, q_sl, jx_lt, jx_ri, jx_rl, jx_rv, if_true, if_false, Nat.reduceLeDiff, Nat.add_one_ne_zero, and_self, true_or, or_true, Nat.reduceEqDiff, or_self, or_false, false_or, mo_k hm.1, mo_r5 hm.1, mo_k5 hm.1, mo_z5 hm.1, mo_r16 hm.1, mo_k16 hm.1, mo_z16 hm.1, mo_r17 hm.1, mo_k17 hm.1, mo_z17 hm.1, mo_r18 hm.1, mo_k18 hm.1, mo_z18 hm.1, mo_r21 hm.1, mo_k21 hm.1, mo_z21 hm.1, mo_r22 hm.1, mo_k22 hm.1, mo_z22 hm.1, mo_r23 hm.1, mo_k23 hm.1, mo_z23 hm.1, mo_r24 hm.1, mo_k24 hm.1, mo_z24 hm.1, mo_r25 hm.1, mo_k25 hm.1, mo_z25 hm.1, mo_r26 hm.1, mo_k26 hm.1, mo_z26 hm.1, mo_r27 hm.1, mo_k27 hm.1, mo_z27 hm.1, mo_r29 hm.1, mo_k29 hm.1, mo_z29 hm.1, mo_r30 hm.1, mo_k30 hm.1, mo_z30 hm.1, mo_r31 hm.1, mo_k31 hm.1, mo_z31 hm.1, mo_r32 hm.1, mo_k32 hm.1, mo_z32 hm.1, mo_r40 hm.1, mo_k40 hm.1, mo_z40 hm.1, mo_r43 hm.1, mo_k43 hm.1, mo_z43 hm.1, mo_r44 hm.1, mo_k44 hm.1, mo_z44 hm.1, mf_k hm.2.1, mf_r14 hm.2.1, mf_k14 hm.2.1, mf_z14 hm.2.1, mf_r15 hm.2.1, mf_k15 hm.2.1, mf_z15 hm.2.1, mf_r16 hm.2.1, mf_k16 hm.2.1, mf_z16 hm.2.1, mf_r17 hm.2.1, mf_k17 hm.2.1, mf_z17 hm.2.1, mf_r18 hm.2.1, mf_k18 hm.2.1, mf_z18 hm.2.1, mf_r19 hm.2.1, mf_k19 hm.2.1, mf_z19 hm.2.1, mf_r20 hm.2.1, mf_k20 hm.2.1, mf_z20 hm.2.1, mf_r21 hm.2.1, mf_k21 hm.2.1, mf_z21 hm.2.1, mf_r22 hm.2.1, mf_k22 hm.2.1, mf_z22 hm.2.1, mf_r23 hm.2.1, mf_k23 hm.2.1, mf_z23 hm.2.1, mf_r24 hm.2.1, mf_k24 hm.2.1, mf_z24 hm.2.1, mf_r25 hm.2.1, mf_k25 hm.2.1, mf_z25 hm.2.1, mf_r26 hm.2.1, mf_k26 hm.2.1, mf_z26 hm.2.1, mf_r27 hm.2.1, mf_k27 hm.2.1, mf_z27 hm.2.1, mf_r28 hm.2.1, mf_k28 hm.2.1, mf_z28 hm.2.1, mf_r29 hm.2.1, mf_k29 hm.2.1, mf_z29 hm.2.1, mf_r30 hm.2.1, mf_k30 hm.2.1, mf_z30 hm.2.1, mf_r31 hm.2.1, mf_k31 hm.2.1, mf_z31 hm.2.1, mf_r32 hm.2.1, mf_k32 hm.2.1, mf_z32 hm.2.1, mf_r33 hm.2.1, mf_k33 hm.2.1, mf_z33 hm.2.1, mf_r34 hm.2.1, mf_k34 hm.2.1, mf_z34 hm.2.1, mf_r35 hm.2.1, mf_k35 hm.2.1, mf_z35 hm.2.1, mf_r36 hm.2.1, mf_k36 hm.2.1, mf_z36 hm.2.1, hm.2.2.1, hm.2.2.2, q_mZ, mgood_eq hm.1, mrefused_eq hm.1, show ¬ (1 : Int32) = 0 by decide, show ¬ (1 : Int32) ≤ 0 by decide, show ¬ (2 : Int32) ≤ 0 by decide, show ¬ (6 : Int32) ≤ 0 by decide, show (0 : Int32) ≤ 0 by decide, hJ0, g7', hz, E_309_2, w_dec (a := n) (by omega) (by omega), hJ1]
      refine Eq.trans e3 ?_
      rw [E_309_3, if_pos (by decide), E_309_4]
      simp only [↓reduceIte, q_i, q_l, q_k, q_r, q_z, q_si, q_sl, jx_lt, jx_ri, jx_rl, jx_rv, if_true, if_false, Nat.reduceLeDiff, Nat.add_one_ne_zero, and_self, true_or, or_true, Nat.reduceEqDiff, or_self, or_false, false_or, mo_k hm.1, mgranted_eq hm.1]
    · rw [e188]
      refine pr_congr hU9 (fun j hj => ?_) (fun j hj => ?_) (g9 (n - 1) (by omega))
      · rw [← hP']
        show (if 0 ≤ j ∧ j < 0 + 19 then A (195 + 1) ((o + (n - 1)) % 16 * 19 + (j - 0)) else _) = I (195 + 1) (19 * ((o + (n - 1)) % 16) + j)
        rw [if_pos (by omega), aa _ (by omega), show (o + (n - 1)) % 16 * 19 + (j - 0) = 19 * ((o + (n - 1)) % 16) + j by omega]
      · rw [hJ2, q_up_eq]
        show (if j < 49 then J1 (240 + 3) (49 * (n - 1) + j) else _) = I (240 + 3) (49 * (n - 1) + j)
        rw [if_pos hj, i243]
    · have k194 : J2 194 = q_set (I 194) 3 (w (n - 1)) := by
        rw [jj 194 (by unfold qSc; omega) (by omega), s1 194 (by omega), ← hK1, q_up_ne (by decide), a194]
      have k196 : J2 (195 + 1) = I (195 + 1) := by
        rw [jj _ (by unfold qSc; omega) (by omega)]; exact i2 _ (by omega) (by omega) (by omega)
      have k198 : J2 (197 + 1) = I (197 + 1) := by
        rw [jj _ (by unfold qSc; omega) (by omega)]; exact i2 _ (by omega) (by omega) (by omega)
      have k243 : J2 (240 + 3) = I (240 + 3) := by
        rw [jj _ (by unfold qSc; omega) (by omega)]; exact i2 _ (by omega) (by omega) (by omega)
      have k244 : J2 (240 + 4) = I (240 + 4) := by
        rw [jj _ (by unfold qSc; omega) (by omega)]; exact i2 _ (by omega) (by omega) (by omega)
      refine ⟨o, n - 1, k, by rw [k194, q_set_ne (by decide)]; exact g1, g2, by rw [k194, q_set_eq], by omega, by rw [k194, q_set_ne (by decide)]; exact g5, g6, by rw [jv, q_set_eq], by rw [jv, q_set_ne (by decide)]; exact j20, ?_, ?_⟩
      · rw [k196, k243]
        exact fun i hi => g9 i (by omega)
      · rw [k198, k244]
        exact g10
theorem p_back (h : qHV I s t t' f U S dn R O W) (a : Int32) : qAnsA I L s t t' f U S dn R O W 159 [.ref 100, .int a] 311 [.ref 240, .int a] := by
  obtain ⟨h1, h2, h3, h4, h5, o, n, k, g1, g2, g3, g4, g5, g6, g7, g8, g9, g10⟩ := id h
  obtain ⟨hU, hU9⟩ := h1_U h1
  obtain ⟨hd, hd0, hd9⟩ := h1_d h1
  obtain ⟨hx, hm, hf, hT⟩ := id h1
  have htt := xo_tt hx
  rcases small_or a (n := k) (by omega) with ⟨b, hb, rfl⟩ | ca
  · have n3 : ¬ w b < 0 := w_nn (by omega)
    have l3 : w b < w k := by rw [w_lt (by omega) (by omega)]; exact hb
    have hcp := copy_eq (I := I) (L := L) (xo_now hx).2.2 (xo_marks hx) (by decide) (to := 0) (fr := b * 19) (len := 19) (by omega) (by omega)
    have hcp' : jD 83 [.ref (188 + 1), .int 0, .ref 197, .int (w (b * 19)), .int 19] (I, L, s) = _ := hcp
    generalize hP' : (fun k => if 0 ≤ k ∧ k < 0 + 19 then I (197 + 1) (b * 19 + (k - 0)) else I (188 + 1 + 1) k) = P' at hcp'
    have a194 : q_up I (188 + 1 + 1) P' 194 = I 194 := q_up_ne (by decide)
    generalize hK1 : q_up (q_up I (188 + 1 + 1) P') 194 (q_set (I 194) 3 0) = K1
    have e1 : jD 5 [.ref 194, .int (w b), .ref 188] (I, L, s) = some (none, K1, L, s) := by
      rw [D_5, E_5_0]
      simp only [show (19 : Int32) = w 19 from rfl, w_mul]
      simp only [← show (19 : Int32) = w 19 from rfl, ↓reduceIte, q_i, q_l, q_k, q_r, q_z, q_si, q_sl, jx_lt, jx_ri, jx_rl, jx_rv, if_true, if_false, Nat.reduceLeDiff, Nat.add_one_ne_zero, and_self, true_or, or_true, Nat.reduceEqDiff, or_self, or_false, false_or, xo_k hx, xo_r0 hx, xo_r1 hx, xo_r2 hx, xo_r3 hx, xo_r4 hx, xo_r5 hx, xo_r6 hx, xo_r7 hx, xo_r8 hx, xo_r9 hx, xo_r10 hx, xo_r11 hx, xo_ka hx, xo_ra0 hx, xo_ra1 hx, xo_ko hx, xo_ro0 hx, xo_ro1 hx, xo_kf hx, xo_rf0 hx, xo_kh hx, xo_rh0 hx, xo_ke hx, xo_re0 hx, xo_re1 hx, xo_kn hx, xo_zn hx, xo_re2 hx, xo_re3 hx, xo_kt hx, xo_rt0 hx, xo_t0 hx, (xo_ft hx).1, (xo_now hx).1, (xo_now hx).2.1, (xo_now hx).2.2.1, (xo_try hx).1, (xo_yr hx).1.1, (xo_ty hx).1, (xo_now hx).1, (xo_now hx).2.1, (xo_now hx).2.2.1, hcp', a194, hK1]
    have kk : ∀ a, a ≠ 194 → a ≠ 188 + 1 + 1 → K1 a = I a := fun a z1 z2 => by rw [← hK1, q_up_ne z1, q_up_ne z2]
    have ed1 : qd K1 t = qd I t := qd_same fun a z1 z2 => kk a (by omega) (by omega)
    obtain ⟨I2, e2, s1, s2⟩ := settle_eq (I := K1) (L := L) hx (by rw [ed1]; exact hU) hU9 (by rw [ed1]; exact hd) hd9
    have i2 : ∀ a, a < 199 ∨ 214 ≤ a → a ≠ 194 → a ≠ 188 + 1 + 1 → I2 a = I a := fun a z1 z2 z3 => by
      rw [s1 a z1, kk a z2 z3]
    have f1 : qFrT I I2 := frT_of fun a ha => i2 a (by unfold qTo qSc at ha; omega) (fun e => ha (by subst e; unfold qTo; omega)) (fun e => ha (by subst e; unfold qTo; omega))
    have cT240 : cT I2 0 240 = I 240 := by
      rw [cT, q_up_ne (by decide)]
      exact i2 240 (by omega) (by omega) (by omega)
    generalize hJ0 : mZ (cT I2 0) 240 = J0
    have j0 : ∀ a, ¬ qSc a → J0 a = I2 a := fun a ha => by
      rw [← hJ0, mZ, q_up_ne (fun e => ha (by subst e; unfold qSc; omega)), cT, q_up_ne (fun e => ha (by subst e; unfold qSc; omega))]
    have j20 : J0 240 20 = w k := by rw [← hJ0, mZ, q_up_eq, q_set_ne (by decide), cT240]; exact g8
    obtain ⟨J1, e3, hJ1⟩ := q_loopE (P := fun i (J : qI) => J = q_up J0 (240 + 2) (fun j => if j < i then J0 (240 + 4) (49 * b + j) else J0 (240 + 2) j)) (F := fun i J => jd 311 3 [some (.ref 240), some (.int (w b)), some (.int (w i))] [] (J, L, s)) (n := 49) (fun i J hi hJ => by
      refine ⟨_, ?_, rfl⟩
      subst hJ
      have a2 : ∀ g : Nat → Int32, q_up J0 (240 + 2) g (240 + 4) = J0 (240 + 4) := fun g => q_up_ne (by decide)
      show jd 311 3 _ _ _ = jd 311 3 _ _ _
      rw [E_311_3, if_neg (by rw [show (49 : Int32) = w 49 from rfl, w_le (by omega) (by omega)]; omega)]
      simp only [show (49 : Int32) = w 49 from rfl, ↓reduceIte, q_i, q_l, q_k, q_r, q_z, q_si, q_sl, jx_lt, jx_ri, jx_rl, jx_rv, if_true, if_false, Nat.reduceLeDiff, Nat.add_one_ne_zero, and_self, true_or, or_true, Nat.reduceEqDiff, or_self, or_false, false_or, mo_k hm.1, mo_r18 hm.1, mo_k18 hm.1, mo_z18 hm.1, mo_r16 hm.1, mo_k16 hm.1, mo_z16 hm.1, a2, w_mul, w_add, w_nn (a := i) (by omega), show ¬ 49 ≤ i by omega, w_tc (a := i) (by omega), w_nn (a := 49 * b + i) (by omega), show ¬ 147 ≤ 49 * b + i by omega, w_tc (a := 49 * b + i) (by omega), q_up_eq, q_up_up, w_inc]
      congr 2
      congr 1
      funext j
      unfold q_set
      by_cases c : j = i
      · subst c
        rw [if_pos rfl, if_pos (by omega)]
      · rw [if_neg c]
        show (if j < i then _ else _) = _
        by_cases c2 : j < i
        · rw [if_pos c2, if_pos (by omega)]
        · rw [if_neg c2, if_neg (by omega)]) J0 (by
      have : (fun j => if j < 0 then J0 (240 + 4) (49 * b + j) else J0 (240 + 2) j) = J0 (240 + 2) := by funext j; rw [if_neg (by omega)]
      rw [this, q_up_self])
    generalize hJ2 : q_up J1 240 (q_set (J0 240) 19 0) = J2
    have jj : ∀ a, ¬ qSc a → a ≠ 240 + 2 → J2 a = I2 a := fun a ha hb => by
      rw [← hJ2, q_up_ne (fun e => ha (by subst e; unfold qSc; omega)), hJ1, q_up_ne hb, j0 a ha]
    have jv : J2 240 = q_set (J0 240) 19 0 := by rw [← hJ2, q_up_eq]
    have j2_100 : J2 100 = cT I2 0 100 := by rw [← hJ2, q_up_ne (by decide), hJ1, q_up_ne (by decide), ← hJ0, fr_x13]
    have f2 : qFrT (cT I2 0) J2 := by
      refine frT_trans (K := J2) (J := J0) (by rw [← hJ0]; exact fr_T fr_mZ) ⟨fun a ha => ?_, ⟨?_, ?_, ?_⟩, ?_, ?_⟩
      · rw [← hJ2, q_up_ne (fun e => ha (by subst e; unfold qTo qSc; omega)), hJ1, q_up_ne (fun e => ha (by subst e; unfold qTo; omega))]
      · rw [j2_100, ← hJ0, fr_x13]
      · rw [j2_100, ← hJ0, fr_x13]
      · rw [j2_100, ← hJ0, fr_x13]
      · rw [jv, q_set_ne (by decide)]
      · rw [jv, q_set_ne (by decide)]
    have fall : qFrT I J2 := frT_trans f1 (frT_trans (fr_T fr_cT) f2)
    have e188 : J2 (188 + 2) = P' := by
      rw [jj (188 + 2) (by unfold qSc; omega) (by omega), s1 _ (by omega), ← hK1, q_up_ne (by decide)]
      exact q_up_eq
    have i244 : J0 (240 + 4) = I (240 + 4) := by
      rw [j0 _ (by unfold qSc; omega)]
      exact i2 _ (by omega) (by omega) (by omega)
    refine ansA_T (I1 := I2) (v := .int 1) (J := J2) ?_ f1 ?_ f2 j2_100 (hv_new h fall (yy_congr hx (fun a z1 z2 z3 z4 => jj a z1 z2) s2) ?_ ?_)
    · simp only [D_159, E_159_0, ↓reduceIte, q_i, q_l, q_k, q_r, q_z, q_si, q_sl, jx_lt, jx_ri, jx_rl, jx_rv, if_true, if_false, Nat.reduceLeDiff, Nat.add_one_ne_zero, and_self, true_or, or_true, Nat.reduceEqDiff, or_self, or_false, false_or, xo_k hx, xo_r0 hx, xo_r1 hx, xo_r2 hx, xo_r3 hx, xo_r4 hx, xo_r5 hx, xo_r6 hx, xo_r7 hx, xo_r8 hx, xo_r9 hx, xo_r10 hx, xo_r11 hx, xo_ka hx, xo_ra0 hx, xo_ra1 hx, xo_ko hx, xo_ro0 hx, xo_ro1 hx, xo_kf hx, xo_rf0 hx, xo_kh hx, xo_rh0 hx, xo_ke hx, xo_re0 hx, xo_re1 hx, xo_kn hx, xo_zn hx, xo_re2 hx, xo_re3 hx, xo_kt hx, xo_rt0 hx, xo_t0 hx, (xo_ft hx).1, (xo_now hx).1, (xo_now hx).2.1, (xo_now hx).2.2.1, (xo_try hx).1, (xo_yr hx).1.1, (xo_ty hx).1, answered_eq hx, refused_eq hx, show ¬ (1 : Int32) = 0 by decide, Nat.reduceLT, g5, n3, l3]
      rw [E_159_2]
      simp only [↓reduceIte, q_i, q_l, q_k, q_r, q_z, q_si, q_sl, jx_lt, jx_ri, jx_rl, jx_rv, if_true, if_false, Nat.reduceLeDiff, Nat.add_one_ne_zero, and_self, true_or, or_true, Nat.reduceEqDiff, or_self, or_false, false_or, xo_k hx, xo_r0 hx, xo_r1 hx, xo_r2 hx, xo_r3 hx, xo_r4 hx, xo_r5 hx, xo_r6 hx, xo_r7 hx, xo_r8 hx, xo_r9 hx, xo_r10 hx, xo_r11 hx, xo_ka hx, xo_ra0 hx, xo_ra1 hx, xo_ko hx, xo_ro0 hx, xo_ro1 hx, xo_kf hx, xo_rf0 hx, xo_kh hx, xo_rh0 hx, xo_ke hx, xo_re0 hx, xo_re1 hx, xo_kn hx, xo_zn hx, xo_re2 hx, xo_re3 hx, xo_kt hx, xo_rt0 hx, xo_t0 hx, (xo_ft hx).1, (xo_now hx).1, (xo_now hx).2.1, (xo_now hx).2.2.1, (xo_try hx).1, (xo_yr hx).1.1, (xo_ty hx).1, answered_eq hx, refused_eq hx, show ¬ (1 : Int32) = 0 by decide, Nat.reduceLT, e1, e2, isDone_eq hx]
    · simp only [D_311, E_311_0, ↓reduceIte, q_i, q_l, q_k, q_r, q_z, q_si, q_sl, jx_lt, jx_ri, jx_rl, jx_rv, if_true, if_false, Nat.reduceLeDiff, Nat.add_one_ne_zero, and_self, true_or, or_true, Nat.reduceEqDiff, or_self, or_false, false_or, mo_k hm.1, mo_r5 hm.1, mo_k5 hm.1, mo_z5 hm.1, mo_r16 hm.1, mo_k16 hm.1, mo_z16 hm.1, mo_r17 hm.1, mo_k17 hm.1, mo_z17 hm.1, mo_r18 hm.1, mo_k18 hm.1, mo_z18 hm.1, mo_r21 hm.1, mo_k21 hm.1, mo_z21 hm.1, mo_r22 hm.1, mo_k22 hm.1, mo_z22 hm.1, mo_r23 hm.1, mo_k23 hm.1, mo_z23 hm.1, mo_r24 hm.1, mo_k24 hm.1, mo_z24 hm.1, mo_r25 hm.1, mo_k25 hm.1, mo_z25 hm.1, mo_r26 hm.1, mo_k26 hm.1, mo_z26 hm.1, mo_r27 hm.1, mo_k27 hm.1, mo_z27 hm.1, mo_r29 hm.1, mo_k29 hm.1, mo_z29 hm.1, mo_r30 hm.1, mo_k30 hm.1, mo_z30 hm.1, mo_r31 hm.1, mo_k31 hm.1, mo_z31 hm.1, mo_r32 hm.1, mo_k32 hm.1, mo_z32 hm.1, mo_r40 hm.1, mo_k40 hm.1, mo_z40 hm.1, mo_r43 hm.1, mo_k43 hm.1, mo_z43 hm.1, mo_r44 hm.1, mo_k44 hm.1, mo_z44 hm.1, mf_k hm.2.1, mf_r14 hm.2.1, mf_k14 hm.2.1, mf_z14 hm.2.1, mf_r15 hm.2.1, mf_k15 hm.2.1, mf_z15 hm.2.1, mf_r16 hm.2.1, mf_k16 hm.2.1, mf_z16 hm.2.1, mf_r17 hm.2.1, mf_k17 hm.2.1, mf_z17 hm.2.1, mf_r18 hm.2.1, mf_k18 hm.2.1, mf_z18 hm.2.1, mf_r19 hm.2.1, mf_k19 hm.2.1, mf_z19 hm.2.1, mf_r20 hm.2.1, mf_k20 hm.2.1, mf_z20 hm.2.1, mf_r21 hm.2.1, mf_k21 hm.2.1, mf_z21 hm.2.1, mf_r22 hm.2.1, mf_k22 hm.2.1, mf_z22 hm.2.1, mf_r23 hm.2.1, mf_k23 hm.2.1, mf_z23 hm.2.1, mf_r24 hm.2.1, mf_k24 hm.2.1, mf_z24 hm.2.1, mf_r25 hm.2.1, mf_k25 hm.2.1, mf_z25 hm.2.1, mf_r26 hm.2.1, mf_k26 hm.2.1, mf_z26 hm.2.1, mf_r27 hm.2.1, mf_k27 hm.2.1, mf_z27 hm.2.1, mf_r28 hm.2.1, mf_k28 hm.2.1, mf_z28 hm.2.1, mf_r29 hm.2.1, mf_k29 hm.2.1, mf_z29 hm.2.1, mf_r30 hm.2.1, mf_k30 hm.2.1, mf_z30 hm.2.1, mf_r31 hm.2.1, mf_k31 hm.2.1, mf_z31 hm.2.1, mf_r32 hm.2.1, mf_k32 hm.2.1, mf_z32 hm.2.1, mf_r33 hm.2.1, mf_k33 hm.2.1, mf_z33 hm.2.1, mf_r34 hm.2.1, mf_k34 hm.2.1, mf_z34 hm.2.1, mf_r35 hm.2.1, mf_k35 hm.2.1, mf_z35 hm.2.1, mf_r36 hm.2.1, mf_k36 hm.2.1, mf_z36 hm.2.1, hm.2.2.1, hm.2.2.2, q_mZ, mgood_eq hm.1, mrefused_eq hm.1, show ¬ (1 : Int32) = 0 by decide, show ¬ (1 : Int32) ≤ 0 by decide, show ¬ (2 : Int32) ≤ 0 by decide, show ¬ (6 : Int32) ≤ 0 by decide, show (0 : Int32) ≤ 0 by decide, hJ0, j20, n3, l3, E_311_2]
      refine Eq.trans e3 ?_
      have j240 : J1 240 = J0 240 := by rw [hJ1, q_up_ne (by decide)]
      rw [E_311_3, if_pos (by decide), E_311_4]
      simp only [↓reduceIte, q_i, q_l, q_k, q_r, q_z, q_si, q_sl, jx_lt, jx_ri, jx_rl, jx_rv, if_true, if_false, Nat.reduceLeDiff, Nat.add_one_ne_zero, and_self, true_or, or_true, Nat.reduceEqDiff, or_self, or_false, false_or, mo_k hm.1, j240, hJ2, mgranted_eq hm.1]
    · rw [e188]
      refine pr_congr hU9 (fun j hj => ?_) (fun j hj => ?_) (g10 b hb)
      · rw [← hP']
        show (if 0 ≤ j ∧ j < 0 + 19 then I (197 + 1) (b * 19 + (j - 0)) else _) = I (197 + 1) (19 * b + j)
        rw [if_pos (by omega), show b * 19 + (j - 0) = 19 * b + j by omega]
      · rw [← hJ2, q_up_ne (by decide), hJ1, q_up_eq]
        show (if j < 49 then J0 (240 + 4) (49 * b + j) else _) = I (240 + 4) (49 * b + j)
        rw [if_pos hj, i244]
    · have k194 : J2 194 = q_set (I 194) 3 0 := by
        rw [jj 194 (by unfold qSc; omega) (by omega), s1 194 (by omega), ← hK1, q_up_eq]
      have k198 : J2 (197 + 1) = I (197 + 1) := by
        rw [jj _ (by unfold qSc; omega) (by omega)]; exact i2 _ (by omega) (by omega) (by omega)
      have k244 : J2 (240 + 4) = I (240 + 4) := by
        rw [jj _ (by unfold qSc; omega) (by omega)]; exact i2 _ (by omega) (by omega) (by omega)
      refine ⟨o, 0, k, by rw [k194, q_set_ne (by decide)]; exact g1, g2, by rw [k194, q_set_eq]; rfl, by omega, by rw [k194, q_set_ne (by decide)]; exact g5, g6, by rw [jv, q_set_eq]; rfl, by rw [jv, q_set_ne (by decide)]; exact j20, fun i hi => absurd hi (Nat.not_lt_zero i), ?_⟩
      rw [k198, k244]
      exact g10
  · have m20 : mZ (cT I 1) 240 240 20 = w k := by
      rw [mZ, q_up_eq, q_set_ne (by decide), cT, q_up_ne (by decide)]; exact g8
    refine ansA_0 h (ans_T (v := .int 0) (r := 1) (J := mZ (cT I 1) 240) ?_ ?_ fr_mZ fr_x13 (by decide))
    · by_cases c0 : a < 0
      · simp only [D_159, E_159_0, E_159_1, ↓reduceIte, q_i, q_l, q_k, q_r, q_z, q_si, q_sl, jx_lt, jx_ri, jx_rl, jx_rv, if_true, if_false, Nat.reduceLeDiff, Nat.add_one_ne_zero, and_self, true_or, or_true, Nat.reduceEqDiff, or_self, or_false, false_or, xo_k hx, xo_r0 hx, xo_r1 hx, xo_r2 hx, xo_r3 hx, xo_r4 hx, xo_r5 hx, xo_r6 hx, xo_r7 hx, xo_r8 hx, xo_r9 hx, xo_r10 hx, xo_r11 hx, xo_ka hx, xo_ra0 hx, xo_ra1 hx, xo_ko hx, xo_ro0 hx, xo_ro1 hx, xo_kf hx, xo_rf0 hx, xo_kh hx, xo_rh0 hx, xo_ke hx, xo_re0 hx, xo_re1 hx, xo_kn hx, xo_zn hx, xo_re2 hx, xo_re3 hx, xo_kt hx, xo_rt0 hx, xo_t0 hx, (xo_ft hx).1, (xo_now hx).1, (xo_now hx).2.1, (xo_now hx).2.2.1, (xo_try hx).1, (xo_yr hx).1.1, (xo_ty hx).1, answered_eq hx, refused_eq hx, show ¬ (1 : Int32) = 0 by decide, Nat.reduceLT, c0, isRefused_eq hx]
      · have c1 : ¬ a < w k := Int32.not_lt.mpr (ca.resolve_left c0)
        simp only [D_159, E_159_0, E_159_1, ↓reduceIte, q_i, q_l, q_k, q_r, q_z, q_si, q_sl, jx_lt, jx_ri, jx_rl, jx_rv, if_true, if_false, Nat.reduceLeDiff, Nat.add_one_ne_zero, and_self, true_or, or_true, Nat.reduceEqDiff, or_self, or_false, false_or, xo_k hx, xo_r0 hx, xo_r1 hx, xo_r2 hx, xo_r3 hx, xo_r4 hx, xo_r5 hx, xo_r6 hx, xo_r7 hx, xo_r8 hx, xo_r9 hx, xo_r10 hx, xo_r11 hx, xo_ka hx, xo_ra0 hx, xo_ra1 hx, xo_ko hx, xo_ro0 hx, xo_ro1 hx, xo_kf hx, xo_rf0 hx, xo_kh hx, xo_rh0 hx, xo_ke hx, xo_re0 hx, xo_re1 hx, xo_kn hx, xo_zn hx, xo_re2 hx, xo_re3 hx, xo_kt hx, xo_rt0 hx, xo_t0 hx, (xo_ft hx).1, (xo_now hx).1, (xo_now hx).2.1, (xo_now hx).2.2.1, (xo_try hx).1, (xo_yr hx).1.1, (xo_ty hx).1, answered_eq hx, refused_eq hx, show ¬ (1 : Int32) = 0 by decide, Nat.reduceLT, c0, g5, c1, isRefused_eq hx]
    · by_cases c0 : a < 0
      · simp only [D_311, E_311_0, E_311_1, ↓reduceIte, q_i, q_l, q_k, q_r, q_z, q_si, q_sl, jx_lt, jx_ri, jx_rl, jx_rv, if_true, if_false, Nat.reduceLeDiff, Nat.add_one_ne_zero, and_self, true_or, or_true, Nat.reduceEqDiff, or_self, or_false, false_or, mo_k hm.1, mo_r5 hm.1, mo_k5 hm.1, mo_z5 hm.1, mo_r16 hm.1, mo_k16 hm.1, mo_z16 hm.1, mo_r17 hm.1, mo_k17 hm.1, mo_z17 hm.1, mo_r18 hm.1, mo_k18 hm.1, mo_z18 hm.1, mo_r21 hm.1, mo_k21 hm.1, mo_z21 hm.1, mo_r22 hm.1, mo_k22 hm.1, mo_z22 hm.1, mo_r23 hm.1, mo_k23 hm.1, mo_z23 hm.1, mo_r24 hm.1, mo_k24 hm.1, mo_z24 hm.1, mo_r25 hm.1, mo_k25 hm.1, mo_z25 hm.1, mo_r26 hm.1, mo_k26 hm.1, mo_z26 hm.1, mo_r27 hm.1, mo_k27 hm.1, mo_z27 hm.1, mo_r29 hm.1, mo_k29 hm.1, mo_z29 hm.1, mo_r30 hm.1, mo_k30 hm.1, mo_z30 hm.1, mo_r31 hm.1, mo_k31 hm.1, mo_z31 hm.1, mo_r32 hm.1, mo_k32 hm.1, mo_z32 hm.1, mo_r40 hm.1, mo_k40 hm.1, mo_z40 hm.1, mo_r43 hm.1, mo_k43 hm.1, mo_z43 hm.1, mo_r44 hm.1, mo_k44 hm.1, mo_z44 hm.1, mf_k hm.2.1, mf_r14 hm.2.1, mf_k14 hm.2.1, mf_z14 hm.2.1, mf_r15 hm.2.1, mf_k15 hm.2.1, mf_z15 hm.2.1, mf_r16 hm.2.1, mf_k16 hm.2.1, mf_z16 hm.2.1, mf_r17 hm.2.1, mf_k17 hm.2.1, mf_z17 hm.2.1, mf_r18 hm.2.1, mf_k18 hm.2.1, mf_z18 hm.2.1, mf_r19 hm.2.1, mf_k19 hm.2.1, mf_z19 hm.2.1, mf_r20 hm.2.1, mf_k20 hm.2.1, mf_z20 hm.2.1, mf_r21 hm.2.1, mf_k21 hm.2.1, mf_z21 hm.2.1, mf_r22 hm.2.1, mf_k22 hm.2.1, mf_z22 hm.2.1, mf_r23 hm.2.1, mf_k23 hm.2.1, mf_z23 hm.2.1, mf_r24 hm.2.1, mf_k24 hm.2.1, mf_z24 hm.2.1, mf_r25 hm.2.1, mf_k25 hm.2.1, mf_z25 hm.2.1, mf_r26 hm.2.1, mf_k26 hm.2.1, mf_z26 hm.2.1, mf_r27 hm.2.1, mf_k27 hm.2.1, mf_z27 hm.2.1, mf_r28 hm.2.1, mf_k28 hm.2.1, mf_z28 hm.2.1, mf_r29 hm.2.1, mf_k29 hm.2.1, mf_z29 hm.2.1, mf_r30 hm.2.1, mf_k30 hm.2.1, mf_z30 hm.2.1, mf_r31 hm.2.1, mf_k31 hm.2.1, mf_z31 hm.2.1, mf_r32 hm.2.1, mf_k32 hm.2.1, mf_z32 hm.2.1, mf_r33 hm.2.1, mf_k33 hm.2.1, mf_z33 hm.2.1, mf_r34 hm.2.1, mf_k34 hm.2.1, mf_z34 hm.2.1, mf_r35 hm.2.1, mf_k35 hm.2.1, mf_z35 hm.2.1, mf_r36 hm.2.1, mf_k36 hm.2.1, mf_z36 hm.2.1, hm.2.2.1, hm.2.2.2, q_mZ, mgood_eq hm.1, mrefused_eq hm.1, show ¬ (1 : Int32) = 0 by decide, show ¬ (1 : Int32) ≤ 0 by decide, show ¬ (2 : Int32) ≤ 0 by decide, show ¬ (6 : Int32) ≤ 0 by decide, show (0 : Int32) ≤ 0 by decide, c0, mdenied_eq hm.1]
      · have c1 : ¬ a < w k := Int32.not_lt.mpr (ca.resolve_left c0)
        simp only [D_311, E_311_0, E_311_1, ↓reduceIte, q_i, q_l, q_k, q_r, q_z, q_si, q_sl, jx_lt, jx_ri, jx_rl, jx_rv, if_true, if_false, Nat.reduceLeDiff, Nat.add_one_ne_zero, and_self, true_or, or_true, Nat.reduceEqDiff, or_self, or_false, false_or, mo_k hm.1, mo_r5 hm.1, mo_k5 hm.1, mo_z5 hm.1, mo_r16 hm.1, mo_k16 hm.1, mo_z16 hm.1, mo_r17 hm.1, mo_k17 hm.1, mo_z17 hm.1, mo_r18 hm.1, mo_k18 hm.1, mo_z18 hm.1, mo_r21 hm.1, mo_k21 hm.1, mo_z21 hm.1, mo_r22 hm.1, mo_k22 hm.1, mo_z22 hm.1, mo_r23 hm.1, mo_k23 hm.1, mo_z23 hm.1, mo_r24 hm.1, mo_k24 hm.1, mo_z24 hm.1, mo_r25 hm.1, mo_k25 hm.1, mo_z25 hm.1, mo_r26 hm.1, mo_k26 hm.1, mo_z26 hm.1, mo_r27 hm.1, mo_k27 hm.1, mo_z27 hm.1, mo_r29 hm.1, mo_k29 hm.1, mo_z29 hm.1, mo_r30 hm.1, mo_k30 hm.1, mo_z30 hm.1, mo_r31 hm.1, mo_k31 hm.1, mo_z31 hm.1, mo_r32 hm.1, mo_k32 hm.1, mo_z32 hm.1, mo_r40 hm.1, mo_k40 hm.1, mo_z40 hm.1, mo_r43 hm.1, mo_k43 hm.1, mo_z43 hm.1, mo_r44 hm.1, mo_k44 hm.1, mo_z44 hm.1, mf_k hm.2.1, mf_r14 hm.2.1, mf_k14 hm.2.1, mf_z14 hm.2.1, mf_r15 hm.2.1, mf_k15 hm.2.1, mf_z15 hm.2.1, mf_r16 hm.2.1, mf_k16 hm.2.1, mf_z16 hm.2.1, mf_r17 hm.2.1, mf_k17 hm.2.1, mf_z17 hm.2.1, mf_r18 hm.2.1, mf_k18 hm.2.1, mf_z18 hm.2.1, mf_r19 hm.2.1, mf_k19 hm.2.1, mf_z19 hm.2.1, mf_r20 hm.2.1, mf_k20 hm.2.1, mf_z20 hm.2.1, mf_r21 hm.2.1, mf_k21 hm.2.1, mf_z21 hm.2.1, mf_r22 hm.2.1, mf_k22 hm.2.1, mf_z22 hm.2.1, mf_r23 hm.2.1, mf_k23 hm.2.1, mf_z23 hm.2.1, mf_r24 hm.2.1, mf_k24 hm.2.1, mf_z24 hm.2.1, mf_r25 hm.2.1, mf_k25 hm.2.1, mf_z25 hm.2.1, mf_r26 hm.2.1, mf_k26 hm.2.1, mf_z26 hm.2.1, mf_r27 hm.2.1, mf_k27 hm.2.1, mf_z27 hm.2.1, mf_r28 hm.2.1, mf_k28 hm.2.1, mf_z28 hm.2.1, mf_r29 hm.2.1, mf_k29 hm.2.1, mf_z29 hm.2.1, mf_r30 hm.2.1, mf_k30 hm.2.1, mf_z30 hm.2.1, mf_r31 hm.2.1, mf_k31 hm.2.1, mf_z31 hm.2.1, mf_r32 hm.2.1, mf_k32 hm.2.1, mf_z32 hm.2.1, mf_r33 hm.2.1, mf_k33 hm.2.1, mf_z33 hm.2.1, mf_r34 hm.2.1, mf_k34 hm.2.1, mf_z34 hm.2.1, mf_r35 hm.2.1, mf_k35 hm.2.1, mf_z35 hm.2.1, mf_r36 hm.2.1, mf_k36 hm.2.1, mf_z36 hm.2.1, hm.2.2.1, hm.2.2.2, q_mZ, mgood_eq hm.1, mrefused_eq hm.1, show ¬ (1 : Int32) = 0 by decide, show ¬ (1 : Int32) ≤ 0 by decide, show ¬ (2 : Int32) ≤ 0 by decide, show ¬ (6 : Int32) ≤ 0 by decide, show (0 : Int32) ≤ 0 by decide, c0, m20, c1, mdenied_eq hm.1]
theorem p_mark (h : qHV I s t t' f U S dn R O W) : qAnsA I L s t t' f U S dn R O W 158 [.ref 100] 310 [.ref 240] := by
  obtain ⟨h1, h2, h3, h4, h5, o, n, k, g1, g2, g3, g4, g5, g6, g7, g8, g9, g10⟩ := id h
  obtain ⟨hU, hU9⟩ := h1_U h1
  obtain ⟨hd, hd0, hd9⟩ := h1_d h1
  obtain ⟨hx, hm, hf, hT⟩ := id h1
  have htt := xo_tt hx
  by_cases c : k < 3
  · have l3 : w k < (3 : Int32) := by rw [show (3 : Int32) = w 3 from rfl, w_lt (by omega) (by omega)]; exact c
    have n3 : ¬ w k = (3 : Int32) := by rw [show (3 : Int32) = w 3 from rfl, w_eq (by omega) (by omega)]; omega
    have hcp := copy_eq (I := I) (L := L) (xo_marks hx) (xo_now hx).2.2 (by decide) (to := k * 19) (fr := 0) (len := 19) (by omega) (by omega)
    have hcp' : jD 83 [.ref 197, .int (w (k * 19)), .ref (188 + 1), .int 0, .int 19] (I, L, s) = _ := hcp
    generalize hP' : (fun j => if k * 19 ≤ j ∧ j < k * 19 + 19 then I (188 + 1 + 1) (0 + (j - k * 19)) else I (197 + 1) j) = P' at hcp'
    have a194 : q_up I (197 + 1) P' 194 = I 194 := q_up_ne (by decide)
    generalize hI2 : q_up (q_up I (197 + 1) P') 194 (q_set (I 194) 4 (w (k + 1))) = I2
    have i194 : I2 194 = q_set (I 194) 4 (w (k + 1)) := by rw [← hI2, q_up_eq]
    have e1 : jD 4 [.ref 194, .ref 188] (I, L, s) = some (some (.int (w k)), I2, L, s) := by
      rw [D_4, E_4_0]
      simp only [show (19 : Int32) = w 19 from rfl, ↓reduceIte, q_i, q_l, q_k, q_r, q_z, q_si, q_sl, jx_lt, jx_ri, jx_rl, jx_rv, if_true, if_false, Nat.reduceLeDiff, Nat.add_one_ne_zero, and_self, true_or, or_true, Nat.reduceEqDiff, or_self, or_false, false_or, xo_k hx, xo_r0 hx, xo_r1 hx, xo_r2 hx, xo_r3 hx, xo_r4 hx, xo_r5 hx, xo_r6 hx, xo_r7 hx, xo_r8 hx, xo_r9 hx, xo_r10 hx, xo_r11 hx, xo_ka hx, xo_ra0 hx, xo_ra1 hx, xo_ko hx, xo_ro0 hx, xo_ro1 hx, xo_kf hx, xo_rf0 hx, xo_kh hx, xo_rh0 hx, xo_ke hx, xo_re0 hx, xo_re1 hx, xo_kn hx, xo_zn hx, xo_re2 hx, xo_re3 hx, xo_kt hx, xo_rt0 hx, xo_t0 hx, (xo_ft hx).1, (xo_now hx).1, (xo_now hx).2.1, (xo_now hx).2.2.1, (xo_try hx).1, (xo_yr hx).1.1, (xo_ty hx).1, g5, w_mul]
      simp only [← show (19 : Int32) = w 19 from rfl, ↓reduceIte, q_i, q_l, q_k, q_r, q_z, q_si, q_sl, jx_lt, jx_ri, jx_rl, jx_rv, if_true, if_false, Nat.reduceLeDiff, Nat.add_one_ne_zero, and_self, true_or, or_true, Nat.reduceEqDiff, or_self, or_false, false_or, xo_k hx, xo_r0 hx, xo_r1 hx, xo_r2 hx, xo_r3 hx, xo_r4 hx, xo_r5 hx, xo_r6 hx, xo_r7 hx, xo_r8 hx, xo_r9 hx, xo_r10 hx, xo_r11 hx, xo_ka hx, xo_ra0 hx, xo_ra1 hx, xo_ko hx, xo_ro0 hx, xo_ro1 hx, xo_kf hx, xo_rf0 hx, xo_kh hx, xo_rh0 hx, xo_ke hx, xo_re0 hx, xo_re1 hx, xo_kn hx, xo_zn hx, xo_re2 hx, xo_re3 hx, xo_kt hx, xo_rt0 hx, xo_t0 hx, (xo_ft hx).1, (xo_now hx).1, (xo_now hx).2.1, (xo_now hx).2.2.1, (xo_try hx).1, (xo_yr hx).1.1, (xo_ty hx).1, (xo_now hx).1, (xo_now hx).2.1, (xo_marks hx).1, hcp', a194, g5, w_inc, hI2, i194, q_set_eq, w_sub1 (show k < 1000000 by omega)]
    have i2 : ∀ a, a ≠ 194 → a ≠ 197 + 1 → I2 a = I a := fun a z1 z2 => by rw [← hI2, q_up_ne z1, q_up_ne z2]
    have f1 : qFrT I I2 := frT_of fun a ha => i2 a (fun e => ha (by subst e; unfold qTo; omega)) (fun e => ha (by subst e; unfold qTo; omega))
    have cT240 : cT I2 0 240 = I 240 := by
      rw [cT, q_up_ne (by decide)]
      exact i2 240 (by omega) (by omega)
    generalize hJ0 : mZ (cT I2 0) 240 = J0
    have j0 : ∀ a, ¬ qSc a → J0 a = I2 a := fun a ha => by
      rw [← hJ0, mZ, q_up_ne (fun e => ha (by subst e; unfold qSc; omega)), cT, q_up_ne (fun e => ha (by subst e; unfold qSc; omega))]
    have j19 : J0 240 19 = w n := by rw [← hJ0, mZ, q_up_eq, q_set_ne (by decide), cT240]; exact g7
    have j20 : J0 240 20 = w k := by rw [← hJ0, mZ, q_up_eq, q_set_ne (by decide), cT240]; exact g8
    obtain ⟨J1, e3, hJ1⟩ := q_loopE (P := fun i (J : qI) => J = q_up J0 (240 + 4) (fun j => if 49 * k ≤ j ∧ j < 49 * k + i then J0 (240 + 2) (j - 49 * k) else J0 (240 + 4) j)) (F := fun i J => jd 310 3 [some (.ref 240), some (.int (w i))] [] (J, L, s)) (n := 49) (fun i J hi hJ => by
      refine ⟨_, ?_, rfl⟩
      subst hJ
      have a1 : ∀ g : Nat → Int32, q_up J0 (240 + 4) g 240 = J0 240 := fun g => q_up_ne (by decide)
      have a2 : ∀ g : Nat → Int32, q_up J0 (240 + 4) g (240 + 2) = J0 (240 + 2) := fun g => q_up_ne (by decide)
      show jd 310 3 _ _ _ = jd 310 3 _ _ _
      rw [E_310_3, if_neg (by rw [show (49 : Int32) = w 49 from rfl, w_le (by omega) (by omega)]; omega)]
      simp only [show (49 : Int32) = w 49 from rfl, ↓reduceIte, q_i, q_l, q_k, q_r, q_z, q_si, q_sl, jx_lt, jx_ri, jx_rl, jx_rv, if_true, if_false, Nat.reduceLeDiff, Nat.add_one_ne_zero, and_self, true_or, or_true, Nat.reduceEqDiff, or_self, or_false, false_or, mo_k hm.1, mo_r18 hm.1, mo_k18 hm.1, mo_z18 hm.1, mo_r16 hm.1, mo_k16 hm.1, mo_z16 hm.1, a1, a2, j20, w_mul, w_add, w_nn (a := i) (by omega), show ¬ 49 ≤ i by omega, w_tc (a := i) (by omega), w_nn (a := 49 * k + i) (by omega), show ¬ 147 ≤ 49 * k + i by omega, w_tc (a := 49 * k + i) (by omega), q_up_eq, q_up_up, w_inc]
      congr 2
      congr 1
      funext j
      unfold q_set
      by_cases c : j = 49 * k + i
      · subst c
        rw [if_pos rfl, if_pos (by omega), Nat.add_sub_cancel_left]
      · rw [if_neg c]
        show (if 49 * k ≤ j ∧ j < 49 * k + i then _ else _) = _
        by_cases c2 : 49 * k ≤ j ∧ j < 49 * k + i
        · rw [if_pos c2, if_pos (by omega)]
        · rw [if_neg c2, if_neg (by omega)]) J0 (by
      have : (fun j => if 49 * k ≤ j ∧ j < 49 * k + 0 then J0 (240 + 2) (j - 49 * k) else J0 (240 + 4) j) = J0 (240 + 4) := by funext j; rw [if_neg (by omega)]
      rw [this, q_up_self])
    generalize hJ2 : q_up J1 240 (q_set (J0 240) 20 (w (k + 1))) = J2
    have j240 : J1 240 = J0 240 := by rw [hJ1, q_up_ne (by decide)]
    have jj : ∀ a, ¬ qSc a → a ≠ 240 + 4 → J2 a = I2 a := fun a ha hb => by
      rw [← hJ2, q_up_ne (fun e => ha (by subst e; unfold qSc; omega)), hJ1, q_up_ne hb, j0 a ha]
    have jv : J2 240 = q_set (J0 240) 20 (w (k + 1)) := by rw [← hJ2, q_up_eq]
    have j2_100 : J2 100 = cT I2 0 100 := by rw [← hJ2, q_up_ne (by decide), hJ1, q_up_ne (by decide), ← hJ0, fr_x13]
    have f2 : qFrT (cT I2 0) J2 := by
      refine frT_trans (K := J2) (J := J0) (by rw [← hJ0]; exact fr_T fr_mZ) ⟨fun a ha => ?_, ⟨?_, ?_, ?_⟩, ?_, ?_⟩
      · rw [← hJ2, q_up_ne (fun e => ha (by subst e; unfold qTo qSc; omega)), hJ1, q_up_ne (fun e => ha (by subst e; unfold qTo; omega))]
      · rw [j2_100, ← hJ0, fr_x13]
      · rw [j2_100, ← hJ0, fr_x13]
      · rw [j2_100, ← hJ0, fr_x13]
      · rw [jv, q_set_ne (by decide)]
      · rw [jv, q_set_ne (by decide)]
    have fall : qFrT I J2 := frT_trans f1 (frT_trans (fr_T fr_cT) f2)
    have i242 : J0 (240 + 2) = I (240 + 2) := by
      rw [j0 _ (by unfold qSc; omega)]
      exact i2 _ (by omega) (by omega)
    have i244 : J0 (240 + 4) = I (240 + 4) := by
      rw [j0 _ (by unfold qSc; omega)]
      exact i2 _ (by omega) (by omega)
    refine ansA_T (I1 := I2) (v := .int (w k)) (J := J2) ?_ f1 ?_ f2 j2_100 (hv_new h fall (yy_congr (I := I2) hx (fun a z1 z2 z3 z4 => jj a z1 z4) ?_) ?_ ?_)
    · simp only [D_158, E_158_0, E_158_1, ↓reduceIte, q_i, q_l, q_k, q_r, q_z, q_si, q_sl, jx_lt, jx_ri, jx_rl, jx_rv, if_true, if_false, Nat.reduceLeDiff, Nat.add_one_ne_zero, and_self, true_or, or_true, Nat.reduceEqDiff, or_self, or_false, false_or, xo_k hx, xo_r0 hx, xo_r1 hx, xo_r2 hx, xo_r3 hx, xo_r4 hx, xo_r5 hx, xo_r6 hx, xo_r7 hx, xo_r8 hx, xo_r9 hx, xo_r10 hx, xo_r11 hx, xo_ka hx, xo_ra0 hx, xo_ra1 hx, xo_ko hx, xo_ro0 hx, xo_ro1 hx, xo_kf hx, xo_rf0 hx, xo_kh hx, xo_rh0 hx, xo_ke hx, xo_re0 hx, xo_re1 hx, xo_kn hx, xo_zn hx, xo_re2 hx, xo_re3 hx, xo_kt hx, xo_rt0 hx, xo_t0 hx, (xo_ft hx).1, (xo_now hx).1, (xo_now hx).2.1, (xo_now hx).2.2.1, (xo_try hx).1, (xo_yr hx).1.1, (xo_ty hx).1, answered_eq hx, refused_eq hx, show ¬ (1 : Int32) = 0 by decide, Nat.reduceLT, hasFlight_eq hx hd hd9, show ¬ dn = 0 by omega, g5, l3]
      rw [E_158_2]
      simp only [↓reduceIte, q_i, q_l, q_k, q_r, q_z, q_si, q_sl, jx_lt, jx_ri, jx_rl, jx_rv, if_true, if_false, Nat.reduceLeDiff, Nat.add_one_ne_zero, and_self, true_or, or_true, Nat.reduceEqDiff, or_self, or_false, false_or, xo_k hx, xo_r0 hx, xo_r1 hx, xo_r2 hx, xo_r3 hx, xo_r4 hx, xo_r5 hx, xo_r6 hx, xo_r7 hx, xo_r8 hx, xo_r9 hx, xo_r10 hx, xo_r11 hx, xo_ka hx, xo_ra0 hx, xo_ra1 hx, xo_ko hx, xo_ro0 hx, xo_ro1 hx, xo_kf hx, xo_rf0 hx, xo_kh hx, xo_rh0 hx, xo_ke hx, xo_re0 hx, xo_re1 hx, xo_kn hx, xo_zn hx, xo_re2 hx, xo_re3 hx, xo_kt hx, xo_rt0 hx, xo_t0 hx, (xo_ft hx).1, (xo_now hx).1, (xo_now hx).2.1, (xo_now hx).2.2.1, (xo_try hx).1, (xo_yr hx).1.1, (xo_ty hx).1, answered_eq hx, refused_eq hx, show ¬ (1 : Int32) = 0 by decide, Nat.reduceLT, e1]
    · simp only [D_310, E_310_0, ↓reduceIte, q_i, q_l, q_k, q_r, q_z, q_si, q_sl, jx_lt, jx_ri, jx_rl, jx_rv, if_true, if_false, Nat.reduceLeDiff, Nat.add_one_ne_zero, and_self, true_or, or_true, Nat.reduceEqDiff, or_self, or_false, false_or, mo_k hm.1, mo_r5 hm.1, mo_k5 hm.1, mo_z5 hm.1, mo_r16 hm.1, mo_k16 hm.1, mo_z16 hm.1, mo_r17 hm.1, mo_k17 hm.1, mo_z17 hm.1, mo_r18 hm.1, mo_k18 hm.1, mo_z18 hm.1, mo_r21 hm.1, mo_k21 hm.1, mo_z21 hm.1, mo_r22 hm.1, mo_k22 hm.1, mo_z22 hm.1, mo_r23 hm.1, mo_k23 hm.1, mo_z23 hm.1, mo_r24 hm.1, mo_k24 hm.1, mo_z24 hm.1, mo_r25 hm.1, mo_k25 hm.1, mo_z25 hm.1, mo_r26 hm.1, mo_k26 hm.1, mo_z26 hm.1, mo_r27 hm.1, mo_k27 hm.1, mo_z27 hm.1, mo_r29 hm.1, mo_k29 hm.1, mo_z29 hm.1, mo_r30 hm.1, mo_k30 hm.1, mo_z30 hm.1, mo_r31 hm.1, mo_k31 hm.1, mo_z31 hm.1, mo_r32 hm.1, mo_k32 hm.1, mo_z32 hm.1, mo_r40 hm.1, mo_k40 hm.1, mo_z40 hm.1, mo_r43 hm.1, mo_k43 hm.1, mo_z43 hm.1, mo_r44 hm.1, mo_k44 hm.1, mo_z44 hm.1, mf_k hm.2.1, mf_r14 hm.2.1, mf_k14 hm.2.1, mf_z14 hm.2.1, mf_r15 hm.2.1, mf_k15 hm.2.1, mf_z15 hm.2.1, mf_r16 hm.2.1, mf_k16 hm.2.1, mf_z16 hm.2.1, mf_r17 hm.2.1, mf_k17 hm.2.1, mf_z17 hm.2.1, mf_r18 hm.2.1, mf_k18 hm.2.1, mf_z18 hm.2.1, mf_r19 hm.2.1, mf_k19 hm.2.1, mf_z19 hm.2.1, mf_r20 hm.2.1, mf_k20 hm.2.1, mf_z20 hm.2.1, mf_r21 hm.2.1, mf_k21 hm.2.1, mf_z21 hm.2.1, mf_r22 hm.2.1, mf_k22 hm.2.1, mf_z22 hm.2.1, mf_r23 hm.2.1, mf_k23 hm.2.1, mf_z23 hm.2.1, mf_r24 hm.2.1, mf_k24 hm.2.1, mf_z24 hm.2.1, mf_r25 hm.2.1, mf_k25 hm.2.1, mf_z25 hm.2.1, mf_r26 hm.2.1, mf_k26 hm.2.1, mf_z26 hm.2.1, mf_r27 hm.2.1, mf_k27 hm.2.1, mf_z27 hm.2.1, mf_r28 hm.2.1, mf_k28 hm.2.1, mf_z28 hm.2.1, mf_r29 hm.2.1, mf_k29 hm.2.1, mf_z29 hm.2.1, mf_r30 hm.2.1, mf_k30 hm.2.1, mf_z30 hm.2.1, mf_r31 hm.2.1, mf_k31 hm.2.1, mf_z31 hm.2.1, mf_r32 hm.2.1, mf_k32 hm.2.1, mf_z32 hm.2.1, mf_r33 hm.2.1, mf_k33 hm.2.1, mf_z33 hm.2.1, mf_r34 hm.2.1, mf_k34 hm.2.1, mf_z34 hm.2.1, mf_r35 hm.2.1, mf_k35 hm.2.1, mf_z35 hm.2.1, mf_r36 hm.2.1, mf_k36 hm.2.1, mf_z36 hm.2.1, hm.2.2.1, hm.2.2.2, q_mZ, mgood_eq hm.1, mrefused_eq hm.1, show ¬ (1 : Int32) = 0 by decide, show ¬ (1 : Int32) ≤ 0 by decide, show ¬ (2 : Int32) ≤ 0 by decide, show ¬ (6 : Int32) ≤ 0 by decide, show (0 : Int32) ≤ 0 by decide, hJ0, E_310_1, j20, n3, E_310_2]
      refine Eq.trans e3 ?_
      rw [E_310_3, if_pos (by decide), E_310_4]
      simp only [↓reduceIte, q_i, q_l, q_k, q_r, q_z, q_si, q_sl, jx_lt, jx_ri, jx_rl, jx_rv, if_true, if_false, Nat.reduceLeDiff, Nat.add_one_ne_zero, and_self, true_or, or_true, Nat.reduceEqDiff, or_self, or_false, false_or, mo_k hm.1, j240, j20, w_inc, hJ2, jv, q_set_eq, w_sub1 (show k < 1000000 by omega), mgood_eq hm.1]
    · have ed : qd I2 t = qd I t := qd_same fun a z1 z2 => i2 a (by omega) (by omega)
      unfold qYY at h2 ⊢
      rw [ed, i2 (188 + 2) (by omega) (by omega), i2 (199 + 1 + 2 * 0 + 1) (by omega) (by omega), i2 (199 + 1 + 2 * 1 + 1) (by omega) (by omega), i2 (199 + 1 + 2 * 2 + 1) (by omega) (by omega), i2 (199 + 1 + 2 * 3 + 1) (by omega) (by omega), i2 (199 + 1 + 2 * 4 + 1) (by omega) (by omega), i2 (199 + 1 + 2 * 6 + 1) (by omega) (by omega)]
      exact h2
    · rw [jj (188 + 2) (by unfold qSc; omega) (by omega), i2 _ (by omega) (by omega), jj (240 + 2) (by unfold qSc; omega) (by omega), i2 _ (by omega) (by omega)]
      exact h5
    · have k194 : J2 194 = q_set (I 194) 4 (w (k + 1)) := by rw [jj 194 (by unfold qSc; omega) (by omega), i194]
      have k196 : J2 (195 + 1) = I (195 + 1) := by
        rw [jj _ (by unfold qSc; omega) (by omega)]; exact i2 _ (by omega) (by omega)
      have k198 : J2 (197 + 1) = P' := by
        rw [jj _ (by unfold qSc; omega) (by omega), ← hI2, q_up_ne (by decide), q_up_eq]
      have k243 : J2 (240 + 3) = I (240 + 3) := by
        rw [jj _ (by unfold qSc; omega) (by omega)]; exact i2 _ (by omega) (by omega)
      have k244 : ∀ j, J2 (240 + 4) j = if 49 * k ≤ j ∧ j < 49 * k + 49 then I (240 + 2) (j - 49 * k) else I (240 + 4) j := fun j => by
        rw [← hJ2, q_up_ne (by decide), hJ1, q_up_eq, i242, i244]
      refine ⟨o, n, k + 1, by rw [k194, q_set_ne (by decide)]; exact g1, g2, by rw [k194, q_set_ne (by decide)]; exact g3, g4, by rw [k194, q_set_eq], by omega, by rw [jv, q_set_ne (by decide)]; exact j19, by rw [jv, q_set_eq], ?_, fun i hi => ?_⟩
      · rw [k196, k243]
        exact g9
      · by_cases ci : i = k
        · subst ci
          refine pr_congr hU9 (fun j hj => ?_) (fun j hj => ?_) h5
          · show J2 (197 + 1) (19 * i + j) = I (188 + 1 + 1) j
            rw [k198, ← hP']
            show (if i * 19 ≤ 19 * i + j ∧ 19 * i + j < i * 19 + 19 then I (188 + 1 + 1) (0 + (19 * i + j - i * 19)) else _) = _
            rw [if_pos (by omega), show 0 + (19 * i + j - i * 19) = j by omega]
          · show J2 (240 + 4) (49 * i + j) = I (240 + 2) j
            rw [k244, if_pos (by omega), Nat.add_sub_cancel_left]
        · refine pr_congr hU9 (fun j hj => ?_) (fun j hj => ?_) (g10 i (by omega))
          · show J2 (197 + 1) (19 * i + j) = I (197 + 1) (19 * i + j)
            rw [k198, ← hP']
            show (if k * 19 ≤ 19 * i + j ∧ 19 * i + j < k * 19 + 19 then _ else _) = _
            rw [if_neg (by omega)]
          · show J2 (240 + 4) (49 * i + j) = I (240 + 4) (49 * i + j)
            rw [k244, if_neg (by omega)]
  · obtain rfl : k = 3 := by omega
    have m20 : mZ (cT I 3) 240 240 20 = 3 := by
      rw [mZ, q_up_eq, q_set_ne (by decide), cT, q_up_ne (by decide)]; exact g8
    refine ansA_0 h (ans_T (v := .int (-1)) (r := 3) (J := mZ (cT I 3) 240) ?_ ?_ fr_mZ fr_x13 (by decide))
    · simp only [D_158, E_158_0, E_158_1, ↓reduceIte, q_i, q_l, q_k, q_r, q_z, q_si, q_sl, jx_lt, jx_ri, jx_rl, jx_rv, if_true, if_false, Nat.reduceLeDiff, Nat.add_one_ne_zero, and_self, true_or, or_true, Nat.reduceEqDiff, or_self, or_false, false_or, xo_k hx, xo_r0 hx, xo_r1 hx, xo_r2 hx, xo_r3 hx, xo_r4 hx, xo_r5 hx, xo_r6 hx, xo_r7 hx, xo_r8 hx, xo_r9 hx, xo_r10 hx, xo_r11 hx, xo_ka hx, xo_ra0 hx, xo_ra1 hx, xo_ko hx, xo_ro0 hx, xo_ro1 hx, xo_kf hx, xo_rf0 hx, xo_kh hx, xo_rh0 hx, xo_ke hx, xo_re0 hx, xo_re1 hx, xo_kn hx, xo_zn hx, xo_re2 hx, xo_re3 hx, xo_kt hx, xo_rt0 hx, xo_t0 hx, (xo_ft hx).1, (xo_now hx).1, (xo_now hx).2.1, (xo_now hx).2.2.1, (xo_try hx).1, (xo_yr hx).1.1, (xo_ty hx).1, answered_eq hx, refused_eq hx, show ¬ (1 : Int32) = 0 by decide, Nat.reduceLT, hasFlight_eq hx hd hd9, show ¬ dn = 0 by omega, g5, show ¬ w 3 < (3 : Int32) by decide]
    · simp only [D_310, E_310_0, E_310_1, ↓reduceIte, q_i, q_l, q_k, q_r, q_z, q_si, q_sl, jx_lt, jx_ri, jx_rl, jx_rv, if_true, if_false, Nat.reduceLeDiff, Nat.add_one_ne_zero, and_self, true_or, or_true, Nat.reduceEqDiff, or_self, or_false, false_or, mo_k hm.1, mo_r5 hm.1, mo_k5 hm.1, mo_z5 hm.1, mo_r16 hm.1, mo_k16 hm.1, mo_z16 hm.1, mo_r17 hm.1, mo_k17 hm.1, mo_z17 hm.1, mo_r18 hm.1, mo_k18 hm.1, mo_z18 hm.1, mo_r21 hm.1, mo_k21 hm.1, mo_z21 hm.1, mo_r22 hm.1, mo_k22 hm.1, mo_z22 hm.1, mo_r23 hm.1, mo_k23 hm.1, mo_z23 hm.1, mo_r24 hm.1, mo_k24 hm.1, mo_z24 hm.1, mo_r25 hm.1, mo_k25 hm.1, mo_z25 hm.1, mo_r26 hm.1, mo_k26 hm.1, mo_z26 hm.1, mo_r27 hm.1, mo_k27 hm.1, mo_z27 hm.1, mo_r29 hm.1, mo_k29 hm.1, mo_z29 hm.1, mo_r30 hm.1, mo_k30 hm.1, mo_z30 hm.1, mo_r31 hm.1, mo_k31 hm.1, mo_z31 hm.1, mo_r32 hm.1, mo_k32 hm.1, mo_z32 hm.1, mo_r40 hm.1, mo_k40 hm.1, mo_z40 hm.1, mo_r43 hm.1, mo_k43 hm.1, mo_z43 hm.1, mo_r44 hm.1, mo_k44 hm.1, mo_z44 hm.1, mf_k hm.2.1, mf_r14 hm.2.1, mf_k14 hm.2.1, mf_z14 hm.2.1, mf_r15 hm.2.1, mf_k15 hm.2.1, mf_z15 hm.2.1, mf_r16 hm.2.1, mf_k16 hm.2.1, mf_z16 hm.2.1, mf_r17 hm.2.1, mf_k17 hm.2.1, mf_z17 hm.2.1, mf_r18 hm.2.1, mf_k18 hm.2.1, mf_z18 hm.2.1, mf_r19 hm.2.1, mf_k19 hm.2.1, mf_z19 hm.2.1, mf_r20 hm.2.1, mf_k20 hm.2.1, mf_z20 hm.2.1, mf_r21 hm.2.1, mf_k21 hm.2.1, mf_z21 hm.2.1, mf_r22 hm.2.1, mf_k22 hm.2.1, mf_z22 hm.2.1, mf_r23 hm.2.1, mf_k23 hm.2.1, mf_z23 hm.2.1, mf_r24 hm.2.1, mf_k24 hm.2.1, mf_z24 hm.2.1, mf_r25 hm.2.1, mf_k25 hm.2.1, mf_z25 hm.2.1, mf_r26 hm.2.1, mf_k26 hm.2.1, mf_z26 hm.2.1, mf_r27 hm.2.1, mf_k27 hm.2.1, mf_z27 hm.2.1, mf_r28 hm.2.1, mf_k28 hm.2.1, mf_z28 hm.2.1, mf_r29 hm.2.1, mf_k29 hm.2.1, mf_z29 hm.2.1, mf_r30 hm.2.1, mf_k30 hm.2.1, mf_z30 hm.2.1, mf_r31 hm.2.1, mf_k31 hm.2.1, mf_z31 hm.2.1, mf_r32 hm.2.1, mf_k32 hm.2.1, mf_z32 hm.2.1, mf_r33 hm.2.1, mf_k33 hm.2.1, mf_z33 hm.2.1, mf_r34 hm.2.1, mf_k34 hm.2.1, mf_z34 hm.2.1, mf_r35 hm.2.1, mf_k35 hm.2.1, mf_z35 hm.2.1, mf_r36 hm.2.1, mf_k36 hm.2.1, mf_z36 hm.2.1, hm.2.2.1, hm.2.2.2, q_mZ, mgood_eq hm.1, mrefused_eq hm.1, show ¬ (1 : Int32) = 0 by decide, show ¬ (1 : Int32) ≤ 0 by decide, show ¬ (2 : Int32) ≤ 0 by decide, show ¬ (6 : Int32) ≤ 0 by decide, show (0 : Int32) ≤ 0 by decide, m20]
end UN
