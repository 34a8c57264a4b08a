/-! PAIRS OF CALLS with a flight: years by draws -/
def q_sea (D : Nat → Nat → Int32) (P : Nat → Int32) (U dn : Nat) (sd : Int32) : Nat → Int32 × Int32
  | 0 => (0, sd)
  | i + 1 => ((q_sea D P U dn sd i).1 + w (q_pop (q_arr D (q_Y D P U (q_sea D P U dn sd i).2 dn).1 U).toNatClampNeg), (q_Y D P U (q_sea D P U dn sd i).2 dn).2.2.2)
section DR
variable {I : qI} {L : qL} {s : qS} {t t' f U S dn R O W : Nat}
theorem tie_fr {J K : qI} {D : Nat → Nat → Int32} {P : Nat → Int32} (hf : 260 ≤ f) (h : qTie J 240 f D P U S dn R O W) (hfr : qFr J K) : qTie K 240 f D P U S dn R O W :=
  tie_congr (me_congr fun k hk => hfr.1 _ (by unfold qSc; omega)) (hfr.1 _ (by unfold qSc; omega)) h
/-- a year by draws of the reference -/
theorem mDraw (hm : qMF s 240 f) (hf : 260 ≤ f) {J : qI} {D : Nat → Nat → Int32} {P : Nat → Int32} (ht : qTie J 240 f D P U S dn R O W) {n : Nat} (hn : n < 65537) (h28 : J 240 28 = w n) : ∃ K n', jD 242 [.ref 240, .int 1] (J, L, s) = some (none, K, L, s) ∧ jD 244 [.ref 240] (K, L, s) = some (some (.int (q_arr D (q_Y D P U (w n) dn).1 U)), K, L, s) ∧ qFr J K ∧ K 100 = J 100 ∧ n' < 65537 ∧ K 240 28 = w n' ∧ (q_Y D P U (w n) dn).2.2.2 = w n' := by
  have hdn9 := ht.1.1.2.2.2.2.2.2.1
  obtain ⟨xi, xl, xp, xs, xf, xa, xt, sd, e1, ⟨-, y2, -⟩, y3⟩ := mYear_eq (L := L) (dr := 1) (sdc := w n) hm (by omega) ht.1 (Or.inr ⟨rfl, h28.symm, n, h28, hn⟩)
  have ht2 := tie_mm (xi := xi) (xl := xl) (xp := xp) (xs := xs) (xf := xf) (xa := xa) (xt := xt) (sd := sd) (by omega) ht
  have harr := mArr_eq (I := q_mm J 240 xi xl xp xs xf xa xt sd) (L := L) hm ht2.1 (fun v hv => by
    rw [q_mm_xi, (y2 v hv).1]
    exact Y_at ht.1.1 ht.1.2.1 dn hdn9 v hv)
  rw [q_mm_xi, arr_congr (fun v hv => (y2 v hv).1)] at harr
  rcases y3 with ⟨z, -⟩ | ⟨-, z2, n', z3, z4⟩
  · exact absurd z (by decide)
  · exact ⟨_, n', e1, harr, fr_mm, by rw [q_mm_out (by omega)], z4, by rw [q_mm_o, q_set_eq]; exact z3, z2.trans z3⟩
theorem p_yearBy (h : qH1 I s t t' f U S dn R O W) (a : Int32) : qAns I L s 152 [.ref 100, .int a] 303 [.ref 240, .int a] := by
  obtain ⟨hU, hU9⟩ := h1_U h
  obtain ⟨hd, hd0, hd9⟩ := h1_d h
  obtain ⟨hx, hm, hf, hT⟩ := id h
  have k9 : (65536 : Int32) = w 65536 := rfl
  rcases le_or a (n := 65536) (by omega) with ⟨n, hn, rfl⟩ | ca
  · obtain ⟨J, s2, e1, e2, e3, e4, e5, e6⟩ := cTrial (L := L) hx hU hU9 hd hd9 (q := 188) (Or.inl rfl) (w n)
    have h' := h1_fr h e3 e6
    have hx2 := h'.1
    have hm2 := h'.2.1
    have hZ' := h1_Z h' 0
    rw [fr_d hx e3, fr_190 e3] at hZ'
    generalize hK0 : mZ (cT J 0) 240 = K0 at hZ'
    have hfrK : qFr K0 (q_up K0 240 (q_set (K0 240) 28 (w n))) := fr_m (by simp [q_set])
    obtain ⟨K, n', m1, m2, m3, m4, -⟩ := mDraw (L := L) hm2 hf (tie_fr hf hZ' hfrK) (n := n) (by omega) (by rw [q_up_eq, q_set_eq])
    refine ans_K (v := .int (q_arr (qd I t) (q_Y (qd I t) (I (188 + 2)) U (w n) dn).1 U)) (I1 := J) (s1 := s2) (r := 0) (J := K) ?_ e3 e6 ?_ (by rw [← hK0] at hfrK m3; exact fr_trans fr_mZ (fr_trans hfrK m3)) ?_ (by decide)
    · simp only [D_152, E_152_0, ↓reduceIte, q_i, q_l, q_k, q_r, q_z, q_si, q_sl, jx_lt, jx_ri, jx_rl, jx_rv, if_true, if_false, Nat.reduceLeDiff, Nat.add_one_ne_zero, and_self, true_or, or_true, Nat.reduceEqDiff, or_self, or_false, false_or, xo_k hx, xo_r0 hx, xo_r1 hx, xo_r2 hx, xo_r3 hx, xo_r4 hx, xo_r5 hx, xo_r6 hx, xo_r7 hx, xo_r8 hx, xo_r9 hx, xo_r10 hx, xo_r11 hx, xo_ka hx, xo_ra0 hx, xo_ra1 hx, xo_ko hx, xo_ro0 hx, xo_ro1 hx, xo_kf hx, xo_rf0 hx, xo_kh hx, xo_rh0 hx, xo_ke hx, xo_re0 hx, xo_re1 hx, xo_kn hx, xo_zn hx, xo_re2 hx, xo_re3 hx, xo_kt hx, xo_rt0 hx, xo_t0 hx, (xo_ft hx).1, (xo_now hx).1, (xo_now hx).2.1, (xo_now hx).2.2.1, (xo_try hx).1, (xo_yr hx).1.1, (xo_ty hx).1, answered_eq hx, refused_eq hx, show ¬ (1 : Int32) = 0 by decide, Nat.reduceLT, hasFlight_eq hx hd hd9, show ¬ dn = 0 by omega]
      rw [E_152_1, k9, if_neg (w_nn (by omega)), if_pos (w_le' hn (by omega)), E_152_3]
      simp only [↓reduceIte, q_i, q_l, q_k, q_r, q_z, q_si, q_sl, jx_lt, jx_ri, jx_rl, jx_rv, if_true, if_false, Nat.reduceLeDiff, Nat.add_one_ne_zero, and_self, true_or, or_true, Nat.reduceEqDiff, or_self, or_false, false_or, xo_k hx, xo_r0 hx, xo_r1 hx, xo_r2 hx, xo_r3 hx, xo_r4 hx, xo_r5 hx, xo_r6 hx, xo_r7 hx, xo_r8 hx, xo_r9 hx, xo_r10 hx, xo_r11 hx, xo_ka hx, xo_ra0 hx, xo_ra1 hx, xo_ko hx, xo_ro0 hx, xo_ro1 hx, xo_kf hx, xo_rf0 hx, xo_kh hx, xo_rh0 hx, xo_ke hx, xo_re0 hx, xo_re1 hx, xo_kn hx, xo_zn hx, xo_re2 hx, xo_re3 hx, xo_kt hx, xo_rt0 hx, xo_t0 hx, (xo_ft hx).1, (xo_now hx).1, (xo_now hx).2.1, (xo_now hx).2.2.1, (xo_try hx).1, (xo_yr hx).1.1, (xo_ty hx).1, answered_eq hx, refused_eq hx, show ¬ (1 : Int32) = 0 by decide, Nat.reduceLT, e1]
      simp only [↓reduceIte, q_i, q_l, q_k, q_r, q_z, q_si, q_sl, jx_lt, jx_ri, jx_rl, jx_rv, if_true, if_false, Nat.reduceLeDiff, Nat.add_one_ne_zero, and_self, true_or, or_true, Nat.reduceEqDiff, or_self, or_false, false_or, xo_k hx2, xo_r8 hx2, (xo_ty hx2).1, e2, answered_eq hx2]
    · simp only [D_303, E_303_0, ↓reduceIte, q_i, q_l, q_k, q_r, q_z, q_si, q_sl, jx_lt, jx_ri, jx_rl, jx_rv, if_true, if_false, Nat.reduceLeDiff, Nat.add_one_ne_zero, and_self, true_or, or_true, Nat.reduceEqDiff, or_self, or_false, false_or, mo_k hm2.1, hm2.2.2.1, hm2.2.2.2, q_mZ, E_303_1, k9, in_eq, w_nn (a := n) (by omega), w_nlt hn (by omega), show ¬ (1 : Int32) = 0 by decide]
      rw [E_303_2, hK0]
      simp only [↓reduceIte, q_i, q_l, q_k, q_r, q_z, q_si, q_sl, jx_lt, jx_ri, jx_rl, jx_rv, if_true, if_false, Nat.reduceLeDiff, Nat.add_one_ne_zero, and_self, true_or, or_true, Nat.reduceEqDiff, or_self, or_false, false_or, mo_k hm2.1, m1, m2, mgood_eq hm2.1]
    · rw [m4, q_up_ne (by decide), ← hK0]
      exact fr_x13
  · have hZ := h1_Z h
    have e3 : jd 152 1 [some (.ref 100), some (.int a)] [] (I, L, s) = jd 152 2 [some (.ref 100), none] [] (I, L, s) := by
      rw [E_152_1, k9]
      by_cases c0 : a < 0
      · rw [if_pos c0]
      · rw [if_neg c0, if_neg (Int32.not_le.mpr (ca.resolve_left c0))]
    have e4 : ∀ J : qI, jD 195 [.int a, .int 0, .int 65536] (J, L, s) = some (some (.int 0), J, L, s) := by
      intro J
      rw [in_eq, k9]
      by_cases c0 : a < 0
      · rw [if_pos c0]
      · rw [if_neg c0, if_pos (ca.resolve_left c0)]
    refine ans_T (v := .int (-1)) (r := 2) (J := mZ (cT I 2) 240) ?_ ?_ fr_mZ fr_x13 (by decide)
    · simp only [D_152, E_152_0, ↓reduceIte, q_i, q_l, q_k, q_r, q_z, q_si, q_sl, jx_lt, jx_ri, jx_rl, jx_rv, if_true, if_false, Nat.reduceLeDiff, Nat.add_one_ne_zero, and_self, true_or, or_true, Nat.reduceEqDiff, or_self, or_false, false_or, xo_k hx, xo_r0 hx, xo_r1 hx, xo_r2 hx, xo_r3 hx, xo_r4 hx, xo_r5 hx, xo_r6 hx, xo_r7 hx, xo_r8 hx, xo_r9 hx, xo_r10 hx, xo_r11 hx, xo_ka hx, xo_ra0 hx, xo_ra1 hx, xo_ko hx, xo_ro0 hx, xo_ro1 hx, xo_kf hx, xo_rf0 hx, xo_kh hx, xo_rh0 hx, xo_ke hx, xo_re0 hx, xo_re1 hx, xo_kn hx, xo_zn hx, xo_re2 hx, xo_re3 hx, xo_kt hx, xo_rt0 hx, xo_t0 hx, (xo_ft hx).1, (xo_now hx).1, (xo_now hx).2.1, (xo_now hx).2.2.1, (xo_try hx).1, (xo_yr hx).1.1, (xo_ty hx).1, answered_eq hx, refused_eq hx, show ¬ (1 : Int32) = 0 by decide, Nat.reduceLT, hasFlight_eq hx hd hd9, show ¬ dn = 0 by omega, e3, E_152_2]
    · simp only [D_303, E_303_0, E_303_1, ↓reduceIte, q_i, q_l, q_k, q_r, q_z, q_si, q_sl, jx_lt, jx_ri, jx_rl, jx_rv, if_true, if_false, Nat.reduceLeDiff, Nat.add_one_ne_zero, and_self, true_or, or_true, Nat.reduceEqDiff, or_self, or_false, false_or, mo_k hm.1, mo_r5 hm.1, mo_k5 hm.1, mo_z5 hm.1, mo_r16 hm.1, mo_k16 hm.1, mo_z16 hm.1, mo_r17 hm.1, mo_k17 hm.1, mo_z17 hm.1, mo_r18 hm.1, mo_k18 hm.1, mo_z18 hm.1, mo_r21 hm.1, mo_k21 hm.1, mo_z21 hm.1, mo_r22 hm.1, mo_k22 hm.1, mo_z22 hm.1, mo_r23 hm.1, mo_k23 hm.1, mo_z23 hm.1, mo_r24 hm.1, mo_k24 hm.1, mo_z24 hm.1, mo_r25 hm.1, mo_k25 hm.1, mo_z25 hm.1, mo_r26 hm.1, mo_k26 hm.1, mo_z26 hm.1, mo_r27 hm.1, mo_k27 hm.1, mo_z27 hm.1, mo_r29 hm.1, mo_k29 hm.1, mo_z29 hm.1, mo_r30 hm.1, mo_k30 hm.1, mo_z30 hm.1, mo_r31 hm.1, mo_k31 hm.1, mo_z31 hm.1, mo_r32 hm.1, mo_k32 hm.1, mo_z32 hm.1, mo_r40 hm.1, mo_k40 hm.1, mo_z40 hm.1, mo_r43 hm.1, mo_k43 hm.1, mo_z43 hm.1, mo_r44 hm.1, mo_k44 hm.1, mo_z44 hm.1, mf_k hm.2.1, mf_r14 hm.2.1, mf_k14 hm.2.1, mf_z14 hm.2.1, mf_r15 hm.2.1, mf_k15 hm.2.1, mf_z15 hm.2.1, mf_r16 hm.2.1, mf_k16 hm.2.1, mf_z16 hm.2.1, mf_r17 hm.2.1, mf_k17 hm.2.1, mf_z17 hm.2.1, mf_r18 hm.2.1, mf_k18 hm.2.1, mf_z18 hm.2.1, mf_r19 hm.2.1, mf_k19 hm.2.1, mf_z19 hm.2.1, mf_r20 hm.2.1, mf_k20 hm.2.1, mf_z20 hm.2.1, mf_r21 hm.2.1, mf_k21 hm.2.1, mf_z21 hm.2.1, mf_r22 hm.2.1, mf_k22 hm.2.1, mf_z22 hm.2.1, mf_r23 hm.2.1, mf_k23 hm.2.1, mf_z23 hm.2.1, mf_r24 hm.2.1, mf_k24 hm.2.1, mf_z24 hm.2.1, mf_r25 hm.2.1, mf_k25 hm.2.1, mf_z25 hm.2.1, mf_r26 hm.2.1, mf_k26 hm.2.1, mf_z26 hm.2.1, mf_r27 hm.2.1, mf_k27 hm.2.1, mf_z27 hm.2.1, mf_r28 hm.2.1, mf_k28 hm.2.1, mf_z28 hm.2.1, mf_r29 hm.2.1, mf_k29 hm.2.1, mf_z29 hm.2.1, mf_r30 hm.2.1, mf_k30 hm.2.1, mf_z30 hm.2.1, mf_r31 hm.2.1, mf_k31 hm.2.1, mf_z31 hm.2.1, mf_r32 hm.2.1, mf_k32 hm.2.1, mf_z32 hm.2.1, mf_r33 hm.2.1, mf_k33 hm.2.1, mf_z33 hm.2.1, mf_r34 hm.2.1, mf_k34 hm.2.1, mf_z34 hm.2.1, mf_r35 hm.2.1, mf_k35 hm.2.1, mf_z35 hm.2.1, mf_r36 hm.2.1, mf_k36 hm.2.1, mf_z36 hm.2.1, hm.2.2.1, hm.2.2.2, q_mZ, mgood_eq hm.1, mrefused_eq hm.1, show ¬ (1 : Int32) = 0 by decide, show ¬ (1 : Int32) ≤ 0 by decide, show ¬ (2 : Int32) ≤ 0 by decide, show ¬ (6 : Int32) ≤ 0 by decide, show (0 : Int32) ≤ 0 by decide, e4]
theorem p_seasons (h : qH1 I s t t' f U S dn R O W) (a b : Int32) : qAns I L s 153 [.ref 100, .int a, .int b] 304 [.ref 240, .int a, .int b] := by
  obtain ⟨hU, hU9⟩ := h1_U h
  obtain ⟨hd, hd0, hd9⟩ := h1_d h
  obtain ⟨hx, hm, hf, hT⟩ := id h
  have k9 : (65536 : Int32) = w 65536 := rfl
  have k5 : (50 : Int32) = w 50 := rfl
  have k1 : (1 : Int32) = w 1 := rfl
  by_cases hno : ∃ n k, n ≤ 65536 ∧ 1 ≤ k ∧ k ≤ 50 ∧ a = w n ∧ b = w k
  · obtain ⟨n, k, hn, hk1, hk, rfl, rfl⟩ := hno
    obtain ⟨⟨J, s2⟩, e, h1, h2, h3⟩ := q_loopE (P := fun i (x : qI × qS) => qFr I x.1 ∧ x.1 100 = I 100 ∧ qKs s x.2) (F := fun i x => jd 153 4 [some (.ref 100), none, some (.int (w k)), some (.int (q_sea (qd I t) (I (188 + 2)) U dn (w n) i).1), some (.int (q_sea (qd I t) (I (188 + 2)) U dn (w n) i).2), some (.int (w i))] [] (x.1, L, x.2)) (n := k) (fun i x hi hx1 => by
      obtain ⟨h1, h2, h3⟩ := hx1
      have hx2 := xo_ks h3 hx
      have hdd := fr_d hx h1
      obtain ⟨J, s2, e1, e2, e3, e4, e5, e6⟩ := cTrial (I := x.1) (L := L) hx2 (by rw [hdd]; exact hU) hU9 (by rw [hdd]; exact hd) hd9 (q := 188) (Or.inl rfl) (q_sea (qd I t) (I (188 + 2)) U dn (w n) i).2
      rw [hdd, fr_190 h1] at e2 e5
      have hx3 := xo_ks e6 hx2
      obtain ⟨N, hN, hN9, -⟩ := arr_mask (D := qd I t) (sp := (q_Y (qd I t) (I (188 + 2)) U (q_sea (qd I t) (I (188 + 2)) U dn (w n) i).2 dn).1) hU9
      have hs : q_sea (qd I t) (I (188 + 2)) U dn (w n) (i + 1) = ((q_sea (qd I t) (I (188 + 2)) U dn (w n) i).1 + w (q_pop N), (q_Y (qd I t) (I (188 + 2)) U (q_sea (qd I t) (I (188 + 2)) U dn (w n) i).2 dn).2.2.2) := by
        show (_ + w (q_pop (q_arr _ _ U).toNatClampNeg), _) = _
        rw [hN, w_tc (by omega)]
      rw [hN] at e2
      refine ⟨(J, s2), ?_, fr_trans h1 e3, e4.trans h2, ks_trans h3 e6⟩
      show jd 153 4 _ _ _ = jd 153 4 _ _ _
      rw [hs, E_153_4, if_neg (w_nle hi (by omega))]
      simp only [↓reduceIte, q_i, q_l, q_k, q_r, q_z, q_si, q_sl, jx_lt, jx_ri, jx_rl, jx_rv, if_true, if_false, Nat.reduceLeDiff, Nat.add_one_ne_zero, and_self, true_or, or_true, Nat.reduceEqDiff, or_self, or_false, false_or, xo_k hx2, xo_r8 hx2, xo_r0 hx2, xo_r4 hx2, xo_t0 hx, (xo_ty hx2).1, e1, xo_k hx3, xo_r8 hx3, (xo_ty hx3).1, e2, bitCount_eq hN9, e5, w_inc]) (I, s) ⟨fr_refl, rfl, ks_refl⟩
    have h' := h1_fr h h1 h3
    have hx2 := h'.1
    have hm2 := h'.2.1
    have hZ' := h1_Z h' 0
    rw [fr_d hx h1, fr_190 h1] at hZ'
    generalize hK0 : mZ (cT J 0) 240 = K0 at hZ'
    have hfrK : qFr K0 (q_up K0 240 (q_set (K0 240) 28 (w n))) := fr_m (by simp [q_set])
    obtain ⟨K, m1, m2, m3, -⟩ := q_loopE (P := fun i (K : qI) => qFr K0 K ∧ K 100 = K0 100 ∧ ∃ n', n' < 65537 ∧ K 240 28 = w n' ∧ (q_sea (qd I t) (I (188 + 2)) U dn (w n) i).2 = w n') (F := fun i K => jd 304 4 [some (.ref 240), none, some (.int (w k)), some (.int (q_sea (qd I t) (I (188 + 2)) U dn (w n) i).1), some (.int (w i))] [] (K, L, s2)) (n := k) (fun i K hi hK => by
      obtain ⟨h1, h2, n', h3, h4, h5⟩ := hK
      obtain ⟨K2, n2, a1, a2, a3, a4, a5, a6, a7⟩ := mDraw (L := L) hm2 hf (tie_fr hf hZ' h1) h3 h4
      obtain ⟨N, hN, hN9, -⟩ := arr_mask (D := qd I t) (sp := (q_Y (qd I t) (I (188 + 2)) U (w n') dn).1) hU9
      have hs : q_sea (qd I t) (I (188 + 2)) U dn (w n) (i + 1) = ((q_sea (qd I t) (I (188 + 2)) U dn (w n) i).1 + w (q_pop N), w n2) := by
        show (_ + w (q_pop (q_arr _ _ U).toNatClampNeg), _) = _
        rw [h5, hN, w_tc (by omega), a7]
      rw [hN] at a2
      refine ⟨K2, ?_, fr_trans h1 a3, a4.trans h2, n2, a5, a6, by rw [hs]⟩
      show jd 304 4 _ _ _ = jd 304 4 _ _ _
      rw [hs, E_304_4, if_neg (w_nle hi (by omega))]
      simp only [↓reduceIte, q_i, q_l, q_k, q_r, q_z, q_si, q_sl, jx_lt, jx_ri, jx_rl, jx_rv, if_true, if_false, Nat.reduceLeDiff, Nat.add_one_ne_zero, and_self, true_or, or_true, Nat.reduceEqDiff, or_self, or_false, false_or, mo_k hm2.1, a1, a2, bits_eq hN9, w_inc]) (q_up K0 240 (q_set (K0 240) 28 (w n))) ⟨hfrK, q_up_ne (by decide), n, by omega, by rw [q_up_eq, q_set_eq], rfl⟩
    refine ans_K (v := .int (q_sea (qd I t) (I (188 + 2)) U dn (w n) k).1) (I1 := J) (s1 := s2) (r := 0) (J := K) ?_ h1 h3 ?_ (by rw [← hK0] at m2; exact fr_trans fr_mZ m2) ?_ (by decide)
    · simp only [D_153, E_153_0, ↓reduceIte, q_i, q_l, q_k, q_r, q_z, q_si, q_sl, jx_lt, jx_ri, jx_rl, jx_rv, if_true, if_false, Nat.reduceLeDiff, Nat.add_one_ne_zero, and_self, true_or, or_true, Nat.reduceEqDiff, or_self, or_false, false_or, xo_k hx, xo_r0 hx, xo_r1 hx, xo_r2 hx, xo_r3 hx, xo_r4 hx, xo_r5 hx, xo_r6 hx, xo_r7 hx, xo_r8 hx, xo_r9 hx, xo_r10 hx, xo_r11 hx, xo_ka hx, xo_ra0 hx, xo_ra1 hx, xo_ko hx, xo_ro0 hx, xo_ro1 hx, xo_kf hx, xo_rf0 hx, xo_kh hx, xo_rh0 hx, xo_ke hx, xo_re0 hx, xo_re1 hx, xo_kn hx, xo_zn hx, xo_re2 hx, xo_re3 hx, xo_kt hx, xo_rt0 hx, xo_t0 hx, (xo_ft hx).1, (xo_now hx).1, (xo_now hx).2.1, (xo_now hx).2.2.1, (xo_try hx).1, (xo_yr hx).1.1, (xo_ty hx).1, answered_eq hx, refused_eq hx, show ¬ (1 : Int32) = 0 by decide, Nat.reduceLT, hasFlight_eq hx hd hd9, show ¬ dn = 0 by omega]
      rw [E_153_1, k9, k5, if_neg (w_nn (by omega)), if_neg (w_nlt hn (by omega)), k1, if_neg (by rw [w_lt (by omega) (by omega)]; omega), if_pos (w_le' hk (by omega)), E_153_3]
      refine Eq.trans e ?_
      show jd 153 4 _ _ _ = _
      rw [E_153_4, if_pos (Int32.le_refl _), E_153_5]
      simp only [↓reduceIte, q_i, q_l, q_k, q_r, q_z, q_si, q_sl, jx_lt, jx_ri, jx_rl, jx_rv, if_true, if_false, Nat.reduceLeDiff, Nat.add_one_ne_zero, and_self, true_or, or_true, Nat.reduceEqDiff, or_self, or_false, false_or, xo_k hx2, answered_eq hx2]
    · simp only [D_304, E_304_0, ↓reduceIte, q_i, q_l, q_k, q_r, q_z, q_si, q_sl, jx_lt, jx_ri, jx_rl, jx_rv, if_true, if_false, Nat.reduceLeDiff, Nat.add_one_ne_zero, and_self, true_or, or_true, Nat.reduceEqDiff, or_self, or_false, false_or, mo_k hm2.1, hm2.2.2.1, hm2.2.2.2, q_mZ, E_304_1, k9, k5, in_eq, w_nn (a := n) (by omega), w_nlt hn (by omega), show ¬ (1 : Int32) = 0 by decide]
      rw [if_neg (show ¬ w k < 1 by rw [k1, w_lt (by omega) (by omega)]; omega), if_neg (w_nlt hk (by omega))]
      simp only [↓reduceIte, q_i, q_l, q_k, q_r, q_z, q_si, q_sl, jx_lt, jx_ri, jx_rl, jx_rv, if_true, if_false, Nat.reduceLeDiff, Nat.add_one_ne_zero, and_self, true_or, or_true, Nat.reduceEqDiff, or_self, or_false, false_or, show ¬ (1 : Int32) = 0 by decide]
      rw [E_304_3, hK0]
      simp only [↓reduceIte, q_i, q_l, q_k, q_r, q_z, q_si, q_sl, jx_lt, jx_ri, jx_rl, jx_rv, if_true, if_false, Nat.reduceLeDiff, Nat.add_one_ne_zero, and_self, true_or, or_true, Nat.reduceEqDiff, or_self, or_false, false_or, mo_k hm2.1]
      refine Eq.trans m1 ?_
      show jd 304 4 _ _ _ = _
      rw [E_304_4, if_pos (Int32.le_refl _), E_304_5]
      simp only [↓reduceIte, q_i, q_l, q_k, q_r, q_z, q_si, q_sl, jx_lt, jx_ri, jx_rl, jx_rv, if_true, if_false, Nat.reduceLeDiff, Nat.add_one_ne_zero, and_self, true_or, or_true, Nat.reduceEqDiff, or_self, or_false, false_or, mo_k hm2.1, mgood_eq hm2.1]
    · rw [m3, ← hK0]
      exact fr_x13
  · have hZ := h1_Z h
    have e3 : jd 153 1 [some (.ref 100), some (.int a), some (.int b), none, none, none] [] (I, L, s) = jd 153 2 [some (.ref 100), none, none, none, none, none] [] (I, L, s) := by
      rw [E_153_1, k9, k5]
      rcases le_or a (n := 65536) (by omega) with ⟨n, h1, rfl⟩ | z | z
      · rw [if_neg (w_nn (by omega)), if_neg (w_nlt h1 (by omega))]
        by_cases c0 : b < 1
        · rw [if_pos c0]
        · rw [if_neg c0]
          rcases le_or b (n := 50) (by omega) with ⟨k, h3, rfl⟩ | z | z
          · refine absurd ⟨n, k, h1, ?_, h3, rfl, rfl⟩ hno
            rw [k1, w_lt (by omega) (by omega)] at c0; omega
          · exact absurd (Int32.lt_trans z (show (0 : Int32) < 1 by decide)) c0
          · rw [if_neg (Int32.not_le.mpr z)]
      · rw [if_pos z]
      · by_cases c0 : a < 0
        · rw [if_pos c0]
        · rw [if_neg c0, if_pos z]
    have e4 : ∀ J : qI, jd 304 1 [some (.ref 240), some (.int a), some (.int b), none, none] [] (J, L, s) = jd 304 2 [some (.ref 240), none, none, none, none] [] (J, L, s) := by
      intro J
      rw [E_304_1]
      simp only [in_eq, ↓reduceIte, q_i, q_l, q_k, q_r, q_z, q_si, q_sl, jx_lt, jx_ri, jx_rl, jx_rv, if_true, if_false, Nat.reduceLeDiff, Nat.add_one_ne_zero, and_self, true_or, or_true, Nat.reduceEqDiff, or_self, or_false, false_or, k9, k5]
      rcases le_or a (n := 65536) (by omega) with ⟨n, h1, rfl⟩ | z | z
      · simp only [w_nn (a := n) (by omega), w_nlt h1 (by omega), ↓reduceIte, q_i, q_l, q_k, q_r, q_z, q_si, q_sl, jx_lt, jx_ri, jx_rl, jx_rv, if_true, if_false, Nat.reduceLeDiff, Nat.add_one_ne_zero, and_self, true_or, or_true, Nat.reduceEqDiff, or_self, or_false, false_or, show ¬ (1 : Int32) = 0 by decide]
        by_cases c0 : b < 1
        · simp only [c0, ↓reduceIte, q_i, q_l, q_k, q_r, q_z, q_si, q_sl, jx_lt, jx_ri, jx_rl, jx_rv, if_true, if_false, Nat.reduceLeDiff, Nat.add_one_ne_zero, and_self, true_or, or_true, Nat.reduceEqDiff, or_self, or_false, false_or]
        · simp only [c0, ↓reduceIte, q_i, q_l, q_k, q_r, q_z, q_si, q_sl, jx_lt, jx_ri, jx_rl, jx_rv, if_true, if_false, Nat.reduceLeDiff, Nat.add_one_ne_zero, and_self, true_or, or_true, Nat.reduceEqDiff, or_self, or_false, false_or]
          rcases le_or b (n := 50) (by omega) with ⟨k, h3, rfl⟩ | z | z
          · refine absurd ⟨n, k, h1, ?_, h3, rfl, rfl⟩ hno
            rw [k1, w_lt (by omega) (by omega)] at c0; omega
          · exact absurd (Int32.lt_trans z (show (0 : Int32) < 1 by decide)) c0
          · simp only [z, ↓reduceIte, q_i, q_l, q_k, q_r, q_z, q_si, q_sl, jx_lt, jx_ri, jx_rl, jx_rv, if_true, if_false, Nat.reduceLeDiff, Nat.add_one_ne_zero, and_self, true_or, or_true, Nat.reduceEqDiff, or_self, or_false, false_or]
      · simp only [z, ↓reduceIte, q_i, q_l, q_k, q_r, q_z, q_si, q_sl, jx_lt, jx_ri, jx_rl, jx_rv, if_true, if_false, Nat.reduceLeDiff, Nat.add_one_ne_zero, and_self, true_or, or_true, Nat.reduceEqDiff, or_self, or_false, false_or]
      · by_cases c0 : a < 0
        · simp only [c0, ↓reduceIte, q_i, q_l, q_k, q_r, q_z, q_si, q_sl, jx_lt, jx_ri, jx_rl, jx_rv, if_true, if_false, Nat.reduceLeDiff, Nat.add_one_ne_zero, and_self, true_or, or_true, Nat.reduceEqDiff, or_self, or_false, false_or]
        · simp only [c0, z, ↓reduceIte, q_i, q_l, q_k, q_r, q_z, q_si, q_sl, jx_lt, jx_ri, jx_rl, jx_rv, if_true, if_false, Nat.reduceLeDiff, Nat.add_one_ne_zero, and_self, true_or, or_true, Nat.reduceEqDiff, or_self, or_false, false_or]
    refine ans_T (v := .int (-1)) (r := 2) (J := mZ (cT I 2) 240) ?_ ?_ fr_mZ fr_x13 (by decide)
    · simp only [D_153, E_153_0, ↓reduceIte, q_i, q_l, q_k, q_r, q_z, q_si, q_sl, jx_lt, jx_ri, jx_rl, jx_rv, if_true, if_false, Nat.reduceLeDiff, Nat.add_one_ne_zero, and_self, true_or, or_true, Nat.reduceEqDiff, or_self, or_false, false_or, xo_k hx, xo_r0 hx, xo_r1 hx, xo_r2 hx, xo_r3 hx, xo_r4 hx, xo_r5 hx, xo_r6 hx, xo_r7 hx, xo_r8 hx, xo_r9 hx, xo_r10 hx, xo_r11 hx, xo_ka hx, xo_ra0 hx, xo_ra1 hx, xo_ko hx, xo_ro0 hx, xo_ro1 hx, xo_kf hx, xo_rf0 hx, xo_kh hx, xo_rh0 hx, xo_ke hx, xo_re0 hx, xo_re1 hx, xo_kn hx, xo_zn hx, xo_re2 hx, xo_re3 hx, xo_kt hx, xo_rt0 hx, xo_t0 hx, (xo_ft hx).1, (xo_now hx).1, (xo_now hx).2.1, (xo_now hx).2.2.1, (xo_try hx).1, (xo_yr hx).1.1, (xo_ty hx).1, answered_eq hx, refused_eq hx, show ¬ (1 : Int32) = 0 by decide, Nat.reduceLT, hasFlight_eq hx hd hd9, show ¬ dn = 0 by omega, e3, E_153_2]
    · simp only [D_304, E_304_0, ↓reduceIte, q_i, q_l, q_k, q_r, q_z, q_si, q_sl, jx_lt, jx_ri, jx_rl, jx_rv, if_true, if_false, Nat.reduceLeDiff, Nat.add_one_ne_zero, and_self, true_or, or_true, Nat.reduceEqDiff, or_self, or_false, false_or, mo_k hm.1, mo_r5 hm.1, mo_k5 hm.1, mo_z5 hm.1, mo_r16 hm.1, mo_k16 hm.1, mo_z16 hm.1, mo_r17 hm.1, mo_k17 hm.1, mo_z17 hm.1, mo_r18 hm.1, mo_k18 hm.1, mo_z18 hm.1, mo_r21 hm.1, mo_k21 hm.1, mo_z21 hm.1, mo_r22 hm.1, mo_k22 hm.1, mo_z22 hm.1, mo_r23 hm.1, mo_k23 hm.1, mo_z23 hm.1, mo_r24 hm.1, mo_k24 hm.1, mo_z24 hm.1, mo_r25 hm.1, mo_k25 hm.1, mo_z25 hm.1, mo_r26 hm.1, mo_k26 hm.1, mo_z26 hm.1, mo_r27 hm.1, mo_k27 hm.1, mo_z27 hm.1, mo_r29 hm.1, mo_k29 hm.1, mo_z29 hm.1, mo_r30 hm.1, mo_k30 hm.1, mo_z30 hm.1, mo_r31 hm.1, mo_k31 hm.1, mo_z31 hm.1, mo_r32 hm.1, mo_k32 hm.1, mo_z32 hm.1, mo_r40 hm.1, mo_k40 hm.1, mo_z40 hm.1, mo_r43 hm.1, mo_k43 hm.1, mo_z43 hm.1, mo_r44 hm.1, mo_k44 hm.1, mo_z44 hm.1, mf_k hm.2.1, mf_r14 hm.2.1, mf_k14 hm.2.1, mf_z14 hm.2.1, mf_r15 hm.2.1, mf_k15 hm.2.1, mf_z15 hm.2.1, mf_r16 hm.2.1, mf_k16 hm.2.1, mf_z16 hm.2.1, mf_r17 hm.2.1, mf_k17 hm.2.1, mf_z17 hm.2.1, mf_r18 hm.2.1, mf_k18 hm.2.1, mf_z18 hm.2.1, mf_r19 hm.2.1, mf_k19 hm.2.1, mf_z19 hm.2.1, mf_r20 hm.2.1, mf_k20 hm.2.1, mf_z20 hm.2.1, mf_r21 hm.2.1, mf_k21 hm.2.1, mf_z21 hm.2.1, mf_r22 hm.2.1, mf_k22 hm.2.1, mf_z22 hm.2.1, mf_r23 hm.2.1, mf_k23 hm.2.1, mf_z23 hm.2.1, mf_r24 hm.2.1, mf_k24 hm.2.1, mf_z24 hm.2.1, mf_r25 hm.2.1, mf_k25 hm.2.1, mf_z25 hm.2.1, mf_r26 hm.2.1, mf_k26 hm.2.1, mf_z26 hm.2.1, mf_r27 hm.2.1, mf_k27 hm.2.1, mf_z27 hm.2.1, mf_r28 hm.2.1, mf_k28 hm.2.1, mf_z28 hm.2.1, mf_r29 hm.2.1, mf_k29 hm.2.1, mf_z29 hm.2.1, mf_r30 hm.2.1, mf_k30 hm.2.1, mf_z30 hm.2.1, mf_r31 hm.2.1, mf_k31 hm.2.1, mf_z31 hm.2.1, mf_r32 hm.2.1, mf_k32 hm.2.1, mf_z32 hm.2.1, mf_r33 hm.2.1, mf_k33 hm.2.1, mf_z33 hm.2.1, mf_r34 hm.2.1, mf_k34 hm.2.1, mf_z34 hm.2.1, mf_r35 hm.2.1, mf_k35 hm.2.1, mf_z35 hm.2.1, mf_r36 hm.2.1, mf_k36 hm.2.1, mf_z36 hm.2.1, hm.2.2.1, hm.2.2.2, q_mZ, mgood_eq hm.1, mrefused_eq hm.1, show ¬ (1 : Int32) = 0 by decide, show ¬ (1 : Int32) ≤ 0 by decide, show ¬ (2 : Int32) ≤ 0 by decide, show ¬ (6 : Int32) ≤ 0 by decide, show (0 : Int32) ≤ 0 by decide, e4, E_304_2]
end DR
