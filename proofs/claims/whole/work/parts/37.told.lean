/-! PAIRS OF CALLS with a flight: as told -/
def qH1 (I : qI) (s : qS) (t t' f U S dn R O W : Nat) : Prop := qXo s t t' ∧ qMF s 240 f ∧ 260 ≤ f ∧ qTie I 240 f (qd I t) (I (188 + 2)) U S dn R O W
theorem ans_G {I J : qI} {L : qL} {s : qS} {j j' : Nat} {as as' : List Value} {v : Value} (h1 : jD j as (I, L, s) = some (some v, cT I 0, L, s)) (h2 : jD j' as' (cT I 0, L, s) = some (some v, mG J 240 0, L, s)) (hf : qFr (cT I 0) J) (hx : J 100 = cT I 0 100) : qAns I L s j as j' as' := ans_T h1 h2 hf hx (by decide)
theorem q_mZ {I : qI} {m : Nat} : q_up I m (q_set (I m) 0 0) = mZ I m := rfl
theorem and1 (x : Int32) : x &&& 1 = 0 ∨ x &&& 1 = 1 := by
  rcases Nat.mod_two_eq_zero_or_one x.toBitVec.toNat with h | h
  · left
    apply Int32.toBitVec_inj.mp
    apply BitVec.eq_of_toNat_eq
    show (x.toBitVec &&& 1#32).toNat = 0
    rw [BitVec.toNat_and]
    show x.toBitVec.toNat &&& 1 = 0
    rw [Nat.and_one_is_mod]; exact h
  · right
    apply Int32.toBitVec_inj.mp
    apply BitVec.eq_of_toNat_eq
    show (x.toBitVec &&& 1#32).toNat = 1
    rw [BitVec.toNat_and]
    show x.toBitVec.toNat &&& 1 = 1
    rw [Nat.and_one_is_mod]; exact h
theorem and1_if (x : Int32) : (if x &&& 1 = 1 then (1 : Int32) else 0) = x &&& 1 := by
  rcases and1 x with h | h
  · rw [h]; rfl
  · rw [h]; rfl
theorem ways_rt {D : Nat → Nat → Int32} {S h k : Nat} {x : Int32} {g : Nat → Nat} (hr : qRt D S h x k g) (hS : S ≤ 8) : q_ways x = w k := by
  obtain ⟨hk, hst, hg, -⟩ := hr
  have e : ∀ n, n ≤ 5 → q_it (fun i a => a + (if q_stop x (w i) < 0 then 0 else 1)) n 0 = w (min n k) := by
    intro n
    induction n with
    | zero => intro _; rw [Nat.zero_min]; rfl
    | succ n ih =>
      intro hn
      show q_it _ n 0 + _ = _
      rw [ih (by omega), hst n (by omega)]
      by_cases c : n < k
      · have := hg n c
        rw [if_pos c, if_neg (w_nn (by omega)), show (1 : Int32) = w 1 from rfl, w_add]
        congr 1
        omega
      · rw [if_neg c, if_pos m1_lt, Int32.add_zero]
        congr 1
        omega
  unfold q_ways
  rw [e 5 (by omega)]
  congr 1
  omega
section TD
variable {I : qI} {L : qL} {s : qS} {t t' f U S dn R O W : Nat}
theorem h1_Z (h : qH1 I s t t' f U S dn R O W) (r : Int32) : qTie (mZ (cT I r) 240) 240 f (qd I t) (I (188 + 2)) U S dn R O W := by
  obtain ⟨-, -, hf, ht⟩ := h
  exact tie_Z (by omega) (tie_up (by omega) (by omega) ht)
theorem h1_U (h : qH1 I s t t' f U S dn R O W) : qd I t 0 5 = w U ∧ U ≤ 6 := ⟨h.2.2.2.1.1.1, h.2.2.2.1.1.2.1⟩
theorem h1_S (h : qH1 I s t t' f U S dn R O W) : qd I t 0 3 = w S ∧ S ≤ 8 := ⟨h.2.2.2.1.1.2.2.1, h.2.2.2.1.1.2.2.2.1⟩
theorem h1_d (h : qH1 I s t t' f U S dn R O W) : qd I t 0 0 = w dn ∧ 0 < dn ∧ dn ≤ 20 := ⟨h.2.2.2.1.1.2.2.2.2.1, h.2.2.2.1.1.2.2.2.2.2.1, h.2.2.2.1.1.2.2.2.2.2.2.1⟩
theorem tie_5 {J : qI} {m : Nat} {D : Nat → Nat → Int32} {P : Nat → Int32} (h : qTie J m f D P U S dn R O W) : J f 5 = w U := (mU h.1).1
theorem tie_3 {J : qI} {m : Nat} {D : Nat → Nat → Int32} {P : Nat → Int32} (h : qTie J m f D P U S dn R O W) : J f 3 = w S := (h.1.2.2.1.1 3 (by omega)).trans h.1.1.2.2.1
theorem tie_0 {J : qI} {m : Nat} {D : Nat → Nat → Int32} {P : Nat → Int32} (h : qTie J m f D P U S dn R O W) : J f 0 = w dn := (h.1.2.2.1.1 0 (by omega)).trans h.1.1.2.2.2.2.1
theorem tie_1 {J : qI} {m a : Nat} {D : Nat → Nat → Int32} {P : Nat → Int32} (h : qTie J m f D P U S dn R O W) (ha : a < S) : J (f + 1) a = D 1 a := h.1.2.2.1.2.2.2.1 a ha
theorem tie_2 {J : qI} {m i : Nat} {D : Nat → Nat → Int32} {P : Nat → Int32} (h : qTie J m f D P U S dn R O W) (hi : i < 64) : (D 2 i = -2 ∧ J (f + 2) i = -1) ∨ ∃ a b, D 2 i = w a ∧ a ≤ 9 ∧ D 3 i = w b ∧ b ≤ 50 ∧ J (f + 2) i = w a ∧ J (f + 3) i = w b := by
  rcases h.2.1.2.2.2.2.2.2.1 i hi with z | ⟨a, b, h1, h2, h3, h4⟩
  · rcases h.1.2.2.1.2.2.2.2.1 i hi with ⟨-, z2⟩ | ⟨z2, -⟩
    · exact Or.inl ⟨z, z2⟩
    · exact absurd (by rw [z]; exact m2_lt) z2
  · rcases h.1.2.2.1.2.2.2.2.1 i hi with ⟨z2, -⟩ | ⟨-, z2, z3⟩
    · exact absurd z2 (by rw [h1]; exact w_nn (by omega))
    · exact Or.inr ⟨a, b, h1, h2, h3, h4, z2.trans h1, z3.trans h3⟩
/-- what both sides hold of umbrella u's plan -/
theorem tie_u {J : qI} {m u : Nat} {D : Nat → Nat → Int32} {P : Nat → Int32} (h : qTie J m f D P U S dn R O W) (hu : u < U) : ∃ a k g, D 6 u = w a ∧ a < S ∧ J (f + 6) u = w a ∧ J (f + 4) u = D 4 u ∧ J (m + 2) u = P u ∧ J (m + 2) (6 + u) = P (6 + u) ∧ J (m + 2) 48 = P 18 ∧ (P (6 + u) = -2 ∨ ∃ d, P (6 + u) = w d ∧ d < dn) ∧ qRt D S a (P (12 + u)) k g ∧ q_ways (P (12 + u)) = w k ∧ J (m + 2) (12 + u) = w k ∧ ∀ i, i < k → J (m + 2) (18 + 5 * u + i) = w (g i) := by
  have hS := h.1.1.2.2.2.1
  obtain ⟨a, ha, ha9⟩ := h.1.1.2.2.2.2.2.2.2 u hu
  obtain ⟨h1, h2, h3⟩ := h.1.2.2.2.2 u hu
  obtain ⟨k, g, h4, h5, h6⟩ := h3 a ha (by omega)
  obtain ⟨e4, e6⟩ := h.1.2.2.1.2.2.2.2.2 u hu
  exact ⟨a, k, g, ha, ha9, (by rw [← ha]; exact e6), e4, h1, h2, h.1.2.2.2.1, (h.1.2.1 u hu).1, h4, ways_rt h4 hS, h5, h6⟩
theorem p_stop (h : qH1 I s t t' f U S dn R O W) (a : Int32) : qAns I L s 118 [.ref 100, .int a] 246 [.ref 240, .int a] := by
  obtain ⟨hS, hS9⟩ := h1_S h
  obtain ⟨hx, hm, -⟩ := id h
  have hZ := h1_Z h
  have r1 := fl_k (xo_ft hx) (k := 1) (n := 8) (by omega) rfl
  rcases small_or a (n := S) (by omega) with ⟨k, hk, rfl⟩ | c
  · refine ans_G (v := .int (qd I t 1 k)) (J := mZ (cT I 0) 240) ?_ ?_ fr_mZ fr_x13
    · simp only [D_118, E_118_0, E_118_1, ↓reduceIte, q_i, q_l, q_k, q_r, q_z, q_si, q_sl, jx_lt, jx_ri, jx_rl, jx_rv, if_true, if_false, Nat.reduceLeDiff, Nat.add_one_ne_zero, and_self, true_or, or_true, Nat.reduceEqDiff, or_self, or_false, false_or, xo_k hx, xo_r0 hx, xo_r1 hx, xo_r2 hx, xo_r3 hx, xo_r4 hx, xo_r5 hx, xo_r6 hx, xo_r7 hx, xo_r8 hx, xo_r9 hx, xo_r10 hx, xo_r11 hx, xo_ka hx, xo_ra0 hx, xo_ra1 hx, xo_ko hx, xo_ro0 hx, xo_ro1 hx, xo_kf hx, xo_rf0 hx, xo_kh hx, xo_rh0 hx, xo_ke hx, xo_re0 hx, xo_re1 hx, xo_kn hx, xo_zn hx, xo_re2 hx, xo_re3 hx, xo_kt hx, xo_rt0 hx, xo_t0 hx, (xo_ft hx).1, (xo_now hx).1, (xo_now hx).2.1, (xo_now hx).2.2.1, (xo_try hx).1, (xo_yr hx).1.1, (xo_ty hx).1, isStop_y hx hS hS9 hk, r1.1, r1.2.1, look_eq r1.2, q_at_w (n := 8) (k := k) (by omega) (by omega), answered_eq hx, qd, Nat.reduceLT, show ¬ (1 : Int32) = 0 by decide]
    · simp only [D_246, E_246_0, E_246_1, E_246_2, ↓reduceIte, q_i, q_l, q_k, q_r, q_z, q_si, q_sl, jx_lt, jx_ri, jx_rl, jx_rv, if_true, if_false, Nat.reduceLeDiff, Nat.add_one_ne_zero, and_self, true_or, or_true, Nat.reduceEqDiff, or_self, or_false, false_or, mo_k hm.1, mo_r5 hm.1, mo_k5 hm.1, mo_z5 hm.1, mo_r16 hm.1, mo_k16 hm.1, mo_z16 hm.1, mo_r17 hm.1, mo_k17 hm.1, mo_z17 hm.1, mo_r18 hm.1, mo_k18 hm.1, mo_z18 hm.1, mo_r21 hm.1, mo_k21 hm.1, mo_z21 hm.1, mo_r22 hm.1, mo_k22 hm.1, mo_z22 hm.1, mo_r23 hm.1, mo_k23 hm.1, mo_z23 hm.1, mo_r24 hm.1, mo_k24 hm.1, mo_z24 hm.1, mo_r25 hm.1, mo_k25 hm.1, mo_z25 hm.1, mo_r26 hm.1, mo_k26 hm.1, mo_z26 hm.1, mo_r27 hm.1, mo_k27 hm.1, mo_z27 hm.1, mo_r29 hm.1, mo_k29 hm.1, mo_z29 hm.1, mo_r30 hm.1, mo_k30 hm.1, mo_z30 hm.1, mo_r31 hm.1, mo_k31 hm.1, mo_z31 hm.1, mo_r32 hm.1, mo_k32 hm.1, mo_z32 hm.1, mo_r40 hm.1, mo_k40 hm.1, mo_z40 hm.1, mo_r43 hm.1, mo_k43 hm.1, mo_z43 hm.1, mo_r44 hm.1, mo_k44 hm.1, mo_z44 hm.1, mf_k hm.2.1, mf_r14 hm.2.1, mf_k14 hm.2.1, mf_z14 hm.2.1, mf_r15 hm.2.1, mf_k15 hm.2.1, mf_z15 hm.2.1, mf_r16 hm.2.1, mf_k16 hm.2.1, mf_z16 hm.2.1, mf_r17 hm.2.1, mf_k17 hm.2.1, mf_z17 hm.2.1, mf_r18 hm.2.1, mf_k18 hm.2.1, mf_z18 hm.2.1, mf_r19 hm.2.1, mf_k19 hm.2.1, mf_z19 hm.2.1, mf_r20 hm.2.1, mf_k20 hm.2.1, mf_z20 hm.2.1, mf_r21 hm.2.1, mf_k21 hm.2.1, mf_z21 hm.2.1, mf_r22 hm.2.1, mf_k22 hm.2.1, mf_z22 hm.2.1, mf_r23 hm.2.1, mf_k23 hm.2.1, mf_z23 hm.2.1, mf_r24 hm.2.1, mf_k24 hm.2.1, mf_z24 hm.2.1, mf_r25 hm.2.1, mf_k25 hm.2.1, mf_z25 hm.2.1, mf_r26 hm.2.1, mf_k26 hm.2.1, mf_z26 hm.2.1, mf_r27 hm.2.1, mf_k27 hm.2.1, mf_z27 hm.2.1, mf_r28 hm.2.1, mf_k28 hm.2.1, mf_z28 hm.2.1, mf_r29 hm.2.1, mf_k29 hm.2.1, mf_z29 hm.2.1, mf_r30 hm.2.1, mf_k30 hm.2.1, mf_z30 hm.2.1, mf_r31 hm.2.1, mf_k31 hm.2.1, mf_z31 hm.2.1, mf_r32 hm.2.1, mf_k32 hm.2.1, mf_z32 hm.2.1, mf_r33 hm.2.1, mf_k33 hm.2.1, mf_z33 hm.2.1, mf_r34 hm.2.1, mf_k34 hm.2.1, mf_z34 hm.2.1, mf_r35 hm.2.1, mf_k35 hm.2.1, mf_z35 hm.2.1, mf_r36 hm.2.1, mf_k36 hm.2.1, mf_z36 hm.2.1, hm.2.2.1, hm.2.2.2, q_mZ, mStop_y hm (tie_3 (hZ 0)) hS9 hk, w_nn (a := k) (by omega), show ¬ 8 ≤ k by omega, w_tc (a := k) (by omega), mgood_eq hm.1, tie_1 (hZ 0) hk, show ¬ (1 : Int32) = 0 by decide]
  · refine ans_T (v := .int (-1)) (r := 1) (J := mZ (cT I 1) 240) ?_ ?_ fr_mZ fr_x13 (by decide)
    · simp only [D_118, E_118_0, E_118_1, ↓reduceIte, q_i, q_l, q_k, q_r, q_z, q_si, q_sl, jx_lt, jx_ri, jx_rl, jx_rv, if_true, if_false, Nat.reduceLeDiff, Nat.add_one_ne_zero, and_self, true_or, or_true, Nat.reduceEqDiff, or_self, or_false, false_or, xo_k hx, xo_r0 hx, xo_r1 hx, xo_r2 hx, xo_r3 hx, xo_r4 hx, xo_r5 hx, xo_r6 hx, xo_r7 hx, xo_r8 hx, xo_r9 hx, xo_r10 hx, xo_r11 hx, xo_ka hx, xo_ra0 hx, xo_ra1 hx, xo_ko hx, xo_ro0 hx, xo_ro1 hx, xo_kf hx, xo_rf0 hx, xo_kh hx, xo_rh0 hx, xo_ke hx, xo_re0 hx, xo_re1 hx, xo_kn hx, xo_zn hx, xo_re2 hx, xo_re3 hx, xo_kt hx, xo_rt0 hx, xo_t0 hx, (xo_ft hx).1, (xo_now hx).1, (xo_now hx).2.1, (xo_now hx).2.2.1, (xo_try hx).1, (xo_yr hx).1.1, (xo_ty hx).1, isStop_n hx hS c, refused_eq hx]
    · simp only [D_246, E_246_0, E_246_1, E_246_2, ↓reduceIte, q_i, q_l, q_k, q_r, q_z, q_si, q_sl, jx_lt, jx_ri, jx_rl, jx_rv, if_true, if_false, Nat.reduceLeDiff, Nat.add_one_ne_zero, and_self, true_or, or_true, Nat.reduceEqDiff, or_self, or_false, false_or, mo_k hm.1, mo_r5 hm.1, mo_k5 hm.1, mo_z5 hm.1, mo_r16 hm.1, mo_k16 hm.1, mo_z16 hm.1, mo_r17 hm.1, mo_k17 hm.1, mo_z17 hm.1, mo_r18 hm.1, mo_k18 hm.1, mo_z18 hm.1, mo_r21 hm.1, mo_k21 hm.1, mo_z21 hm.1, mo_r22 hm.1, mo_k22 hm.1, mo_z22 hm.1, mo_r23 hm.1, mo_k23 hm.1, mo_z23 hm.1, mo_r24 hm.1, mo_k24 hm.1, mo_z24 hm.1, mo_r25 hm.1, mo_k25 hm.1, mo_z25 hm.1, mo_r26 hm.1, mo_k26 hm.1, mo_z26 hm.1, mo_r27 hm.1, mo_k27 hm.1, mo_z27 hm.1, mo_r29 hm.1, mo_k29 hm.1, mo_z29 hm.1, mo_r30 hm.1, mo_k30 hm.1, mo_z30 hm.1, mo_r31 hm.1, mo_k31 hm.1, mo_z31 hm.1, mo_r32 hm.1, mo_k32 hm.1, mo_z32 hm.1, mo_r40 hm.1, mo_k40 hm.1, mo_z40 hm.1, mo_r43 hm.1, mo_k43 hm.1, mo_z43 hm.1, mo_r44 hm.1, mo_k44 hm.1, mo_z44 hm.1, mf_k hm.2.1, mf_r14 hm.2.1, mf_k14 hm.2.1, mf_z14 hm.2.1, mf_r15 hm.2.1, mf_k15 hm.2.1, mf_z15 hm.2.1, mf_r16 hm.2.1, mf_k16 hm.2.1, mf_z16 hm.2.1, mf_r17 hm.2.1, mf_k17 hm.2.1, mf_z17 hm.2.1, mf_r18 hm.2.1, mf_k18 hm.2.1, mf_z18 hm.2.1, mf_r19 hm.2.1, mf_k19 hm.2.1, mf_z19 hm.2.1, mf_r20 hm.2.1, mf_k20 hm.2.1, mf_z20 hm.2.1, mf_r21 hm.2.1, mf_k21 hm.2.1, mf_z21 hm.2.1, mf_r22 hm.2.1, mf_k22 hm.2.1, mf_z22 hm.2.1, mf_r23 hm.2.1, mf_k23 hm.2.1, mf_z23 hm.2.1, mf_r24 hm.2.1, mf_k24 hm.2.1, mf_z24 hm.2.1, mf_r25 hm.2.1, mf_k25 hm.2.1, mf_z25 hm.2.1, mf_r26 hm.2.1, mf_k26 hm.2.1, mf_z26 hm.2.1, mf_r27 hm.2.1, mf_k27 hm.2.1, mf_z27 hm.2.1, mf_r28 hm.2.1, mf_k28 hm.2.1, mf_z28 hm.2.1, mf_r29 hm.2.1, mf_k29 hm.2.1, mf_z29 hm.2.1, mf_r30 hm.2.1, mf_k30 hm.2.1, mf_z30 hm.2.1, mf_r31 hm.2.1, mf_k31 hm.2.1, mf_z31 hm.2.1, mf_r32 hm.2.1, mf_k32 hm.2.1, mf_z32 hm.2.1, mf_r33 hm.2.1, mf_k33 hm.2.1, mf_z33 hm.2.1, mf_r34 hm.2.1, mf_k34 hm.2.1, mf_z34 hm.2.1, mf_r35 hm.2.1, mf_k35 hm.2.1, mf_z35 hm.2.1, mf_r36 hm.2.1, mf_k36 hm.2.1, mf_z36 hm.2.1, hm.2.2.1, hm.2.2.2, q_mZ, mStop_n hm (tie_3 (hZ 1)) c, mrefused_eq hm.1]
end TD
