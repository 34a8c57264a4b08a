/-! WHAT FITS: the reference -/
def q_ml (I : qI) (m : Nat) (ft so sa lk : Int32) : qI := fun a => if a = m then (q_set (q_set (q_set (q_set (I m) 36 ft) 37 so) 38 sa) 39 lk) else I a
section q_ml_F
variable {I : qI} {m : Nat} { f : Nat → Int32} {ft so sa lk v : Int32}
theorem q_ml_o : q_ml I m ft so sa lk m = (q_set (q_set (q_set (q_set (I m) 36 ft) 37 so) 38 sa) 39 lk) := if_pos rfl
theorem q_ml_uft : q_up (q_ml I m ft so sa lk) m (q_set (q_set (q_set (q_set (q_set (I m) 36 ft) 37 so) 38 sa) 39 lk) 36 v) = q_ml I m v so sa lk := by
  funext a
  unfold q_up q_ml
  by_cases h : a = m
  · rw [if_pos h, if_pos h]
    funext j
    simp only [q_set]
    repeat' split
    all_goals (first | rfl | (exfalso; omega))
  · rw [if_neg h, if_neg h]
    simp only [h, if_false]
theorem q_ml_gft : (q_set (q_set (q_set (q_set (I m) 36 ft) 37 so) 38 sa) 39 lk) 36 = ft := by
  simp [q_set]
theorem q_ml_uso : q_up (q_ml I m ft so sa lk) m (q_set (q_set (q_set (q_set (q_set (I m) 36 ft) 37 so) 38 sa) 39 lk) 37 v) = q_ml I m ft v sa lk := by
  funext a
  unfold q_up q_ml
  by_cases h : a = m
  · rw [if_pos h, if_pos h]
    funext j
    simp only [q_set]
    repeat' split
    all_goals (first | rfl | (exfalso; omega))
  · rw [if_neg h, if_neg h]
    simp only [h, if_false]
theorem q_ml_gso : (q_set (q_set (q_set (q_set (I m) 36 ft) 37 so) 38 sa) 39 lk) 37 = so := by
  simp [q_set]
theorem q_ml_usa : q_up (q_ml I m ft so sa lk) m (q_set (q_set (q_set (q_set (q_set (I m) 36 ft) 37 so) 38 sa) 39 lk) 38 v) = q_ml I m ft so v lk := by
  funext a
  unfold q_up q_ml
  by_cases h : a = m
  · rw [if_pos h, if_pos h]
    funext j
    simp only [q_set]
    repeat' split
    all_goals (first | rfl | (exfalso; omega))
  · rw [if_neg h, if_neg h]
    simp only [h, if_false]
theorem q_ml_gsa : (q_set (q_set (q_set (q_set (I m) 36 ft) 37 so) 38 sa) 39 lk) 38 = sa := by
  simp [q_set]
theorem q_ml_ulk : q_up (q_ml I m ft so sa lk) m (q_set (q_set (q_set (q_set (q_set (I m) 36 ft) 37 so) 38 sa) 39 lk) 39 v) = q_ml I m ft so sa v := by
  funext a
  unfold q_up q_ml
  by_cases h : a = m
  · rw [if_pos h, if_pos h]
    funext j
    simp only [q_set]
    repeat' split
    all_goals (first | rfl | (exfalso; omega))
  · rw [if_neg h, if_neg h]
    simp only [h, if_false]
theorem q_ml_glk : (q_set (q_set (q_set (q_set (I m) 36 ft) 37 so) 38 sa) 39 lk) 39 = lk := by
  simp [q_set]
theorem q_ml_out {a : Nat} (h : a ≠ m) : q_ml I m ft so sa lk a = I a := by
  unfold q_ml
  rw [if_neg (by omega)]
theorem q_ml_self : q_ml I m (I m 36) (I m 37) (I m 38) (I m 39) = I := by
  funext a
  unfold q_ml
  by_cases h : a = m
  · rw [if_pos h]
    subst h
    funext j
    simp only [q_set]
    repeat (split <;> try (rename_i e; subst e; rfl))
    all_goals rfl
  · rw [if_neg h]
    repeat (split; · rename_i e; rw [e])
    try rfl
end q_ml_F
def q_mk (I : qI) (m : Nat) (xe : Nat → Int32) (ca cl : Int32) : qI := fun a => if a = m then (q_set (q_set (I m) 41 ca) 42 cl) else if a = m + 16 then xe else I a
section q_mk_F
variable {I : qI} {m : Nat} {xe f : Nat → Int32} {ca cl v : Int32}
theorem q_mk_o : q_mk I m xe ca cl m = (q_set (q_set (I m) 41 ca) 42 cl) := if_pos rfl
theorem q_mk_xe : q_mk I m xe ca cl (m + 16) = xe := by
  unfold q_mk
  rw [if_neg (by omega), if_pos rfl]
theorem q_mk_uxe : q_up (q_mk I m xe ca cl) (m + 16) f = q_mk I m f ca cl := by
  funext a
  unfold q_up q_mk
  by_cases h : a = m + 16
  · subst h
    rw [if_pos rfl, if_neg (by omega), if_pos rfl]
  · rw [if_neg h]
    by_cases h0 : a = m
    · rw [if_pos h0, if_pos h0]
    · rw [if_neg h0, if_neg h0]
      simp only [h, if_false]
theorem q_mk_uca : q_up (q_mk I m xe ca cl) m (q_set (q_set (q_set (I m) 41 ca) 42 cl) 41 v) = q_mk I m xe v cl := by
  funext a
  unfold q_up q_mk
  by_cases h : a = m
  · rw [if_pos h, if_pos h]
    funext j
    simp only [q_set]
    repeat' split
    all_goals (first | rfl | (exfalso; omega))
  · rw [if_neg h, if_neg h]
    simp only [h, if_false]
theorem q_mk_gca : (q_set (q_set (I m) 41 ca) 42 cl) 41 = ca := by
  simp [q_set]
theorem q_mk_ucl : q_up (q_mk I m xe ca cl) m (q_set (q_set (q_set (I m) 41 ca) 42 cl) 42 v) = q_mk I m xe ca v := by
  funext a
  unfold q_up q_mk
  by_cases h : a = m
  · rw [if_pos h, if_pos h]
    funext j
    simp only [q_set]
    repeat' split
    all_goals (first | rfl | (exfalso; omega))
  · rw [if_neg h, if_neg h]
    simp only [h, if_false]
theorem q_mk_gcl : (q_set (q_set (I m) 41 ca) 42 cl) 42 = cl := by
  simp [q_set]
theorem q_mk_out {a : Nat} (h : a ≠ m ∧ a ≠ m + 16) : q_mk I m xe ca cl a = I a := by
  unfold q_mk
  rw [if_neg (by omega), if_neg (by omega)]
theorem q_mk_self : q_mk I m (I (m + 16)) (I m 41) (I m 42) = I := by
  funext a
  unfold q_mk
  by_cases h : a = m
  · rw [if_pos h]
    subst h
    funext j
    simp only [q_set]
    repeat (split <;> try (rename_i e; subst e; rfl))
    all_goals rfl
  · rw [if_neg h]
    repeat (split; · rename_i e; rw [e])
    try rfl
end q_mk_F
/-- the reference's rows of ways out, in memory -/
def qLay (J : qI) (m : Nat) (D : Nat → Nat → Int32) (S h : Nat) (X : List Nat) : Prop := J m 33 = w X.length ∧ qRW D S h X (J (m + 12)) (J (m + 13))
theorem sub_inc {x y : Int32} : x - y + 1 = x + 1 - y := by
  rw [Int32.sub_eq_add_neg, Int32.sub_eq_add_neg, Int32.add_assoc, Int32.add_assoc, Int32.add_comm (-y) 1]
section MF
variable {J : qI} {L : qL} {s : qS} {m f U S dn R O W : Nat} {D : Nat → Nat → Int32} {P : Nat → Int32}
theorem along_eq (hm : qMF s m f) (hS : S ≤ 8) {h : Nat} {X : List Nat} (hl : X.length ≤ 300) (hY : qLay J m D S h X) {e out d : Nat} (he : e < X.length) (hout : out < 20) (hd : d < 20) : jD 272 [.ref m, .int (w e), .int (w out), .int (w d)] (J, L, s) = some (some (.int (w (q_plc h (X.getD e 0) out d))), J, L, s) := by
  obtain ⟨hc, a1, a2, a3⟩ := rw_std hS hY.2 he
  have h0 := hc.1
  have h5 := hc.2.1
  rw [D_272, E_272_0]
  unfold q_plc
  by_cases c1 : d < out
  · have e2 : w d - w out + 1 = w (d + 1) - w out := by rw [sub_inc, w_inc]
    rw [if_pos c1, e2]
    by_cases c : d + 1 < out
    · have hneg : ¬ (0 : Int32) ≤ w (d + 1) - w out := Int32.not_le.mpr (w_sub_neg c (by omega))
      simp only [↓reduceIte, q_i, q_l, q_k, q_r, q_z, q_si, q_sl, jx_lt, jx_ri, jx_rl, jx_rv, if_true, if_false, Nat.reduceLeDiff, Nat.add_one_ne_zero, and_self, true_or, or_true, Nat.reduceEqDiff, or_self, or_false, false_or, mo_k hm.1, mo_r5 hm.1, mo_k5 hm.1, mo_z5 hm.1, mo_r16 hm.1, mo_k16 hm.1, mo_z16 hm.1, mo_r17 hm.1, mo_k17 hm.1, mo_z17 hm.1, mo_r18 hm.1, mo_k18 hm.1, mo_z18 hm.1, mo_r21 hm.1, mo_k21 hm.1, mo_z21 hm.1, mo_r22 hm.1, mo_k22 hm.1, mo_z22 hm.1, mo_r23 hm.1, mo_k23 hm.1, mo_z23 hm.1, mo_r24 hm.1, mo_k24 hm.1, mo_z24 hm.1, mo_r25 hm.1, mo_k25 hm.1, mo_z25 hm.1, mo_r26 hm.1, mo_k26 hm.1, mo_z26 hm.1, mo_r27 hm.1, mo_k27 hm.1, mo_z27 hm.1, mo_r29 hm.1, mo_k29 hm.1, mo_z29 hm.1, mo_r30 hm.1, mo_k30 hm.1, mo_z30 hm.1, mo_r31 hm.1, mo_k31 hm.1, mo_z31 hm.1, mo_r32 hm.1, mo_k32 hm.1, mo_z32 hm.1, mo_r40 hm.1, mo_k40 hm.1, mo_z40 hm.1, mo_r43 hm.1, mo_k43 hm.1, mo_z43 hm.1, mo_r44 hm.1, mo_k44 hm.1, mo_z44 hm.1, mf_k hm.2.1, mf_r14 hm.2.1, mf_k14 hm.2.1, mf_z14 hm.2.1, mf_r15 hm.2.1, mf_k15 hm.2.1, mf_z15 hm.2.1, mf_r16 hm.2.1, mf_k16 hm.2.1, mf_z16 hm.2.1, mf_r17 hm.2.1, mf_k17 hm.2.1, mf_z17 hm.2.1, mf_r18 hm.2.1, mf_k18 hm.2.1, mf_z18 hm.2.1, mf_r19 hm.2.1, mf_k19 hm.2.1, mf_z19 hm.2.1, mf_r20 hm.2.1, mf_k20 hm.2.1, mf_z20 hm.2.1, mf_r21 hm.2.1, mf_k21 hm.2.1, mf_z21 hm.2.1, mf_r22 hm.2.1, mf_k22 hm.2.1, mf_z22 hm.2.1, mf_r23 hm.2.1, mf_k23 hm.2.1, mf_z23 hm.2.1, mf_r24 hm.2.1, mf_k24 hm.2.1, mf_z24 hm.2.1, mf_r25 hm.2.1, mf_k25 hm.2.1, mf_z25 hm.2.1, mf_r26 hm.2.1, mf_k26 hm.2.1, mf_z26 hm.2.1, mf_r27 hm.2.1, mf_k27 hm.2.1, mf_z27 hm.2.1, mf_r28 hm.2.1, mf_k28 hm.2.1, mf_z28 hm.2.1, mf_r29 hm.2.1, mf_k29 hm.2.1, mf_z29 hm.2.1, mf_r30 hm.2.1, mf_k30 hm.2.1, mf_z30 hm.2.1, mf_r31 hm.2.1, mf_k31 hm.2.1, mf_z31 hm.2.1, mf_r32 hm.2.1, mf_k32 hm.2.1, mf_z32 hm.2.1, mf_r33 hm.2.1, mf_k33 hm.2.1, mf_z33 hm.2.1, mf_r34 hm.2.1, mf_k34 hm.2.1, mf_z34 hm.2.1, mf_r35 hm.2.1, mf_k35 hm.2.1, mf_z35 hm.2.1, mf_r36 hm.2.1, mf_k36 hm.2.1, mf_z36 hm.2.1, hm.2.2.1, hm.2.2.2, hneg, E_272_3, show (6 : Int32) = w 6 from rfl, w_mul, Int32.add_zero, w_nn (a := 6 * e) (by omega), show ¬ 6000 ≤ 6 * e by omega, w_tc (a := 6 * e) (by omega), a2]
    · rw [w_sub (show out ≤ d + 1 by omega) (by omega), show d + 1 - out = 0 by omega]
      simp only [↓reduceIte, q_i, q_l, q_k, q_r, q_z, q_si, q_sl, jx_lt, jx_ri, jx_rl, jx_rv, if_true, if_false, Nat.reduceLeDiff, Nat.add_one_ne_zero, and_self, true_or, or_true, Nat.reduceEqDiff, or_self, or_false, false_or, mo_k hm.1, mo_r5 hm.1, mo_k5 hm.1, mo_z5 hm.1, mo_r16 hm.1, mo_k16 hm.1, mo_z16 hm.1, mo_r17 hm.1, mo_k17 hm.1, mo_z17 hm.1, mo_r18 hm.1, mo_k18 hm.1, mo_z18 hm.1, mo_r21 hm.1, mo_k21 hm.1, mo_z21 hm.1, mo_r22 hm.1, mo_k22 hm.1, mo_z22 hm.1, mo_r23 hm.1, mo_k23 hm.1, mo_z23 hm.1, mo_r24 hm.1, mo_k24 hm.1, mo_z24 hm.1, mo_r25 hm.1, mo_k25 hm.1, mo_z25 hm.1, mo_r26 hm.1, mo_k26 hm.1, mo_z26 hm.1, mo_r27 hm.1, mo_k27 hm.1, mo_z27 hm.1, mo_r29 hm.1, mo_k29 hm.1, mo_z29 hm.1, mo_r30 hm.1, mo_k30 hm.1, mo_z30 hm.1, mo_r31 hm.1, mo_k31 hm.1, mo_z31 hm.1, mo_r32 hm.1, mo_k32 hm.1, mo_z32 hm.1, mo_r40 hm.1, mo_k40 hm.1, mo_z40 hm.1, mo_r43 hm.1, mo_k43 hm.1, mo_z43 hm.1, mo_r44 hm.1, mo_k44 hm.1, mo_z44 hm.1, mf_k hm.2.1, mf_r14 hm.2.1, mf_k14 hm.2.1, mf_z14 hm.2.1, mf_r15 hm.2.1, mf_k15 hm.2.1, mf_z15 hm.2.1, mf_r16 hm.2.1, mf_k16 hm.2.1, mf_z16 hm.2.1, mf_r17 hm.2.1, mf_k17 hm.2.1, mf_z17 hm.2.1, mf_r18 hm.2.1, mf_k18 hm.2.1, mf_z18 hm.2.1, mf_r19 hm.2.1, mf_k19 hm.2.1, mf_z19 hm.2.1, mf_r20 hm.2.1, mf_k20 hm.2.1, mf_z20 hm.2.1, mf_r21 hm.2.1, mf_k21 hm.2.1, mf_z21 hm.2.1, mf_r22 hm.2.1, mf_k22 hm.2.1, mf_z22 hm.2.1, mf_r23 hm.2.1, mf_k23 hm.2.1, mf_z23 hm.2.1, mf_r24 hm.2.1, mf_k24 hm.2.1, mf_z24 hm.2.1, mf_r25 hm.2.1, mf_k25 hm.2.1, mf_z25 hm.2.1, mf_r26 hm.2.1, mf_k26 hm.2.1, mf_z26 hm.2.1, mf_r27 hm.2.1, mf_k27 hm.2.1, mf_z27 hm.2.1, mf_r28 hm.2.1, mf_k28 hm.2.1, mf_z28 hm.2.1, mf_r29 hm.2.1, mf_k29 hm.2.1, mf_z29 hm.2.1, mf_r30 hm.2.1, mf_k30 hm.2.1, mf_z30 hm.2.1, mf_r31 hm.2.1, mf_k31 hm.2.1, mf_z31 hm.2.1, mf_r32 hm.2.1, mf_k32 hm.2.1, mf_z32 hm.2.1, mf_r33 hm.2.1, mf_k33 hm.2.1, mf_z33 hm.2.1, mf_r34 hm.2.1, mf_k34 hm.2.1, mf_z34 hm.2.1, mf_r35 hm.2.1, mf_k35 hm.2.1, mf_z35 hm.2.1, mf_r36 hm.2.1, mf_k36 hm.2.1, mf_z36 hm.2.1, hm.2.2.1, hm.2.2.2, show (0 : Int32) ≤ w 0 by decide, E_272_1, w_nn (a := e) (by omega), show ¬ 1000 ≤ e by omega, w_tc (a := e) (by omega), a1, show ¬ w (q_wy (X.getD e 0)) ≤ w 0 by rw [w_le (by omega) (by omega)]; omega, E_272_3, show (6 : Int32) = w 6 from rfl, w_mul, w_add, Nat.add_zero, w_nn (a := 6 * e) (by omega), show ¬ 6000 ≤ 6 * e by omega, w_tc (a := 6 * e) (by omega), a2]
  · rw [if_neg c1, w_sub (by omega) (by omega), w_inc, if_pos (show (0 : Int32) ≤ w (d - out + 1) from Int32.not_lt.mp (w_nn (by omega)))]
    have e3 := a3 (min (d - out) (q_wy (X.getD e 0) - 1)) (by omega)
    by_cases c2 : q_wy (X.getD e 0) ≤ d - out + 1
    · rw [show min (d - out) (q_wy (X.getD e 0) - 1) = q_wy (X.getD e 0) - 1 by omega] at e3 ⊢
      rw [show 6 * e + 1 + (q_wy (X.getD e 0) - 1) = 6 * e + q_wy (X.getD e 0) by omega] at e3
      simp only [↓reduceIte, q_i, q_l, q_k, q_r, q_z, q_si, q_sl, jx_lt, jx_ri, jx_rl, jx_rv, if_true, if_false, Nat.reduceLeDiff, Nat.add_one_ne_zero, and_self, true_or, or_true, Nat.reduceEqDiff, or_self, or_false, false_or, mo_k hm.1, mo_r5 hm.1, mo_k5 hm.1, mo_z5 hm.1, mo_r16 hm.1, mo_k16 hm.1, mo_z16 hm.1, mo_r17 hm.1, mo_k17 hm.1, mo_z17 hm.1, mo_r18 hm.1, mo_k18 hm.1, mo_z18 hm.1, mo_r21 hm.1, mo_k21 hm.1, mo_z21 hm.1, mo_r22 hm.1, mo_k22 hm.1, mo_z22 hm.1, mo_r23 hm.1, mo_k23 hm.1, mo_z23 hm.1, mo_r24 hm.1, mo_k24 hm.1, mo_z24 hm.1, mo_r25 hm.1, mo_k25 hm.1, mo_z25 hm.1, mo_r26 hm.1, mo_k26 hm.1, mo_z26 hm.1, mo_r27 hm.1, mo_k27 hm.1, mo_z27 hm.1, mo_r29 hm.1, mo_k29 hm.1, mo_z29 hm.1, mo_r30 hm.1, mo_k30 hm.1, mo_z30 hm.1, mo_r31 hm.1, mo_k31 hm.1, mo_z31 hm.1, mo_r32 hm.1, mo_k32 hm.1, mo_z32 hm.1, mo_r40 hm.1, mo_k40 hm.1, mo_z40 hm.1, mo_r43 hm.1, mo_k43 hm.1, mo_z43 hm.1, mo_r44 hm.1, mo_k44 hm.1, mo_z44 hm.1, mf_k hm.2.1, mf_r14 hm.2.1, mf_k14 hm.2.1, mf_z14 hm.2.1, mf_r15 hm.2.1, mf_k15 hm.2.1, mf_z15 hm.2.1, mf_r16 hm.2.1, mf_k16 hm.2.1, mf_z16 hm.2.1, mf_r17 hm.2.1, mf_k17 hm.2.1, mf_z17 hm.2.1, mf_r18 hm.2.1, mf_k18 hm.2.1, mf_z18 hm.2.1, mf_r19 hm.2.1, mf_k19 hm.2.1, mf_z19 hm.2.1, mf_r20 hm.2.1, mf_k20 hm.2.1, mf_z20 hm.2.1, mf_r21 hm.2.1, mf_k21 hm.2.1, mf_z21 hm.2.1, mf_r22 hm.2.1, mf_k22 hm.2.1, mf_z22 hm.2.1, mf_r23 hm.2.1, mf_k23 hm.2.1, mf_z23 hm.2.1, mf_r24 hm.2.1, mf_k24 hm.2.1, mf_z24 hm.2.1, mf_r25 hm.2.1, mf_k25 hm.2.1, mf_z25 hm.2.1, mf_r26 hm.2.1, mf_k26 hm.2.1, mf_z26 hm.2.1, mf_r27 hm.2.1, mf_k27 hm.2.1, mf_z27 hm.2.1, mf_r28 hm.2.1, mf_k28 hm.2.1, mf_z28 hm.2.1, mf_r29 hm.2.1, mf_k29 hm.2.1, mf_z29 hm.2.1, mf_r30 hm.2.1, mf_k30 hm.2.1, mf_z30 hm.2.1, mf_r31 hm.2.1, mf_k31 hm.2.1, mf_z31 hm.2.1, mf_r32 hm.2.1, mf_k32 hm.2.1, mf_z32 hm.2.1, mf_r33 hm.2.1, mf_k33 hm.2.1, mf_z33 hm.2.1, mf_r34 hm.2.1, mf_k34 hm.2.1, mf_z34 hm.2.1, mf_r35 hm.2.1, mf_k35 hm.2.1, mf_z35 hm.2.1, mf_r36 hm.2.1, mf_k36 hm.2.1, mf_z36 hm.2.1, hm.2.2.1, hm.2.2.2, E_272_1, E_272_2, w_nn (a := e) (by omega), show ¬ 1000 ≤ e by omega, w_tc (a := e) (by omega), a1, show w (q_wy (X.getD e 0)) ≤ w (d - out + 1) by rw [w_le (by omega) (by omega)]; omega, E_272_3, show (6 : Int32) = w 6 from rfl, w_mul, w_add, w_nn (a := 6 * e + q_wy (X.getD e 0)) (by omega), show ¬ 6000 ≤ 6 * e + q_wy (X.getD e 0) by omega, w_tc (a := 6 * e + q_wy (X.getD e 0)) (by omega), e3]
    · rw [show min (d - out) (q_wy (X.getD e 0) - 1) = d - out by omega] at e3 ⊢
      rw [show 6 * e + 1 + (d - out) = 6 * e + (d - out + 1) by omega] at e3
      simp only [↓reduceIte, q_i, q_l, q_k, q_r, q_z, q_si, q_sl, jx_lt, jx_ri, jx_rl, jx_rv, if_true, if_false, Nat.reduceLeDiff, Nat.add_one_ne_zero, and_self, true_or, or_true, Nat.reduceEqDiff, or_self, or_false, false_or, mo_k hm.1, mo_r5 hm.1, mo_k5 hm.1, mo_z5 hm.1, mo_r16 hm.1, mo_k16 hm.1, mo_z16 hm.1, mo_r17 hm.1, mo_k17 hm.1, mo_z17 hm.1, mo_r18 hm.1, mo_k18 hm.1, mo_z18 hm.1, mo_r21 hm.1, mo_k21 hm.1, mo_z21 hm.1, mo_r22 hm.1, mo_k22 hm.1, mo_z22 hm.1, mo_r23 hm.1, mo_k23 hm.1, mo_z23 hm.1, mo_r24 hm.1, mo_k24 hm.1, mo_z24 hm.1, mo_r25 hm.1, mo_k25 hm.1, mo_z25 hm.1, mo_r26 hm.1, mo_k26 hm.1, mo_z26 hm.1, mo_r27 hm.1, mo_k27 hm.1, mo_z27 hm.1, mo_r29 hm.1, mo_k29 hm.1, mo_z29 hm.1, mo_r30 hm.1, mo_k30 hm.1, mo_z30 hm.1, mo_r31 hm.1, mo_k31 hm.1, mo_z31 hm.1, mo_r32 hm.1, mo_k32 hm.1, mo_z32 hm.1, mo_r40 hm.1, mo_k40 hm.1, mo_z40 hm.1, mo_r43 hm.1, mo_k43 hm.1, mo_z43 hm.1, mo_r44 hm.1, mo_k44 hm.1, mo_z44 hm.1, mf_k hm.2.1, mf_r14 hm.2.1, mf_k14 hm.2.1, mf_z14 hm.2.1, mf_r15 hm.2.1, mf_k15 hm.2.1, mf_z15 hm.2.1, mf_r16 hm.2.1, mf_k16 hm.2.1, mf_z16 hm.2.1, mf_r17 hm.2.1, mf_k17 hm.2.1, mf_z17 hm.2.1, mf_r18 hm.2.1, mf_k18 hm.2.1, mf_z18 hm.2.1, mf_r19 hm.2.1, mf_k19 hm.2.1, mf_z19 hm.2.1, mf_r20 hm.2.1, mf_k20 hm.2.1, mf_z20 hm.2.1, mf_r21 hm.2.1, mf_k21 hm.2.1, mf_z21 hm.2.1, mf_r22 hm.2.1, mf_k22 hm.2.1, mf_z22 hm.2.1, mf_r23 hm.2.1, mf_k23 hm.2.1, mf_z23 hm.2.1, mf_r24 hm.2.1, mf_k24 hm.2.1, mf_z24 hm.2.1, mf_r25 hm.2.1, mf_k25 hm.2.1, mf_z25 hm.2.1, mf_r26 hm.2.1, mf_k26 hm.2.1, mf_z26 hm.2.1, mf_r27 hm.2.1, mf_k27 hm.2.1, mf_z27 hm.2.1, mf_r28 hm.2.1, mf_k28 hm.2.1, mf_z28 hm.2.1, mf_r29 hm.2.1, mf_k29 hm.2.1, mf_z29 hm.2.1, mf_r30 hm.2.1, mf_k30 hm.2.1, mf_z30 hm.2.1, mf_r31 hm.2.1, mf_k31 hm.2.1, mf_z31 hm.2.1, mf_r32 hm.2.1, mf_k32 hm.2.1, mf_z32 hm.2.1, mf_r33 hm.2.1, mf_k33 hm.2.1, mf_z33 hm.2.1, mf_r34 hm.2.1, mf_k34 hm.2.1, mf_z34 hm.2.1, mf_r35 hm.2.1, mf_k35 hm.2.1, mf_z35 hm.2.1, mf_r36 hm.2.1, mf_k36 hm.2.1, mf_z36 hm.2.1, hm.2.2.1, hm.2.2.2, E_272_1, w_nn (a := e) (by omega), show ¬ 1000 ≤ e by omega, w_tc (a := e) (by omega), a1, show ¬ w (q_wy (X.getD e 0)) ≤ w (d - out + 1) by rw [w_le (by omega) (by omega)]; omega, E_272_3, show (6 : Int32) = w 6 from rfl, w_mul, w_add, w_nn (a := 6 * e + (d - out + 1)) (by omega), show ¬ 6000 ≤ 6 * e + (d - out + 1) by omega, w_tc (a := 6 * e + (d - out + 1)) (by omega), e3]
theorem fitsSo_eq (hm : qMF s m f) (ht : qTie J m f D P U S dn R O W) {u h : Nat} {X : List Nat} (hl : X.length ≤ 300) (hY : qLay J m D S h X) {e out : Nat} (he : e < X.length) (hout : out < 20) : jD 273 [.ref m, .int (w u), .int (w e), .int (w out)] (J, L, s) = some (some (.int (if q_fitN (q_fp D u h (X.getD e 0) out) R R = true then 1 else 0)), J, L, s) := by
  obtain ⟨hR, hR9, hring⟩ := ht.2.1.1
  have hS := ht.1.1.2.2.2.1
  have hdn := ht.1.1.2.2.2.2.2.2.1
  have hmR : J f 6 = w R := (ht.1.2.2.1.1 6 (by omega)).trans hR
  have key : ∀ n i, i + n = R → jd 273 1 [some (.ref m), some (.int (w u)), some (.int (w e)), some (.int (w out)), some (.int (w i))] [] (J, L, s) = some (some (.int (if q_fitN (q_fp D u h (X.getD e 0) out) R n = true then 1 else 0)), J, L, s) := by
    intro n
    induction n with
    | zero =>
      intro i hi
      obtain rfl : i = R := by omega
      rw [E_273_1]
      simp only [↓reduceIte, q_i, q_l, q_k, q_r, q_z, q_si, q_sl, jx_lt, jx_ri, jx_rl, jx_rv, if_true, if_false, Nat.reduceLeDiff, Nat.add_one_ne_zero, and_self, true_or, or_true, Nat.reduceEqDiff, or_self, or_false, false_or, mo_k hm.1, mo_r5 hm.1, mo_k5 hm.1, mo_z5 hm.1, mo_r16 hm.1, mo_k16 hm.1, mo_z16 hm.1, mo_r17 hm.1, mo_k17 hm.1, mo_z17 hm.1, mo_r18 hm.1, mo_k18 hm.1, mo_z18 hm.1, mo_r21 hm.1, mo_k21 hm.1, mo_z21 hm.1, mo_r22 hm.1, mo_k22 hm.1, mo_z22 hm.1, mo_r23 hm.1, mo_k23 hm.1, mo_z23 hm.1, mo_r24 hm.1, mo_k24 hm.1, mo_z24 hm.1, mo_r25 hm.1, mo_k25 hm.1, mo_z25 hm.1, mo_r26 hm.1, mo_k26 hm.1, mo_z26 hm.1, mo_r27 hm.1, mo_k27 hm.1, mo_z27 hm.1, mo_r29 hm.1, mo_k29 hm.1, mo_z29 hm.1, mo_r30 hm.1, mo_k30 hm.1, mo_z30 hm.1, mo_r31 hm.1, mo_k31 hm.1, mo_z31 hm.1, mo_r32 hm.1, mo_k32 hm.1, mo_z32 hm.1, mo_r40 hm.1, mo_k40 hm.1, mo_z40 hm.1, mo_r43 hm.1, mo_k43 hm.1, mo_z43 hm.1, mo_r44 hm.1, mo_k44 hm.1, mo_z44 hm.1, mf_k hm.2.1, mf_r14 hm.2.1, mf_k14 hm.2.1, mf_z14 hm.2.1, mf_r15 hm.2.1, mf_k15 hm.2.1, mf_z15 hm.2.1, mf_r16 hm.2.1, mf_k16 hm.2.1, mf_z16 hm.2.1, mf_r17 hm.2.1, mf_k17 hm.2.1, mf_z17 hm.2.1, mf_r18 hm.2.1, mf_k18 hm.2.1, mf_z18 hm.2.1, mf_r19 hm.2.1, mf_k19 hm.2.1, mf_z19 hm.2.1, mf_r20 hm.2.1, mf_k20 hm.2.1, mf_z20 hm.2.1, mf_r21 hm.2.1, mf_k21 hm.2.1, mf_z21 hm.2.1, mf_r22 hm.2.1, mf_k22 hm.2.1, mf_z22 hm.2.1, mf_r23 hm.2.1, mf_k23 hm.2.1, mf_z23 hm.2.1, mf_r24 hm.2.1, mf_k24 hm.2.1, mf_z24 hm.2.1, mf_r25 hm.2.1, mf_k25 hm.2.1, mf_z25 hm.2.1, mf_r26 hm.2.1, mf_k26 hm.2.1, mf_z26 hm.2.1, mf_r27 hm.2.1, mf_k27 hm.2.1, mf_z27 hm.2.1, mf_r28 hm.2.1, mf_k28 hm.2.1, mf_z28 hm.2.1, mf_r29 hm.2.1, mf_k29 hm.2.1, mf_z29 hm.2.1, mf_r30 hm.2.1, mf_k30 hm.2.1, mf_z30 hm.2.1, mf_r31 hm.2.1, mf_k31 hm.2.1, mf_z31 hm.2.1, mf_r32 hm.2.1, mf_k32 hm.2.1, mf_z32 hm.2.1, mf_r33 hm.2.1, mf_k33 hm.2.1, mf_z33 hm.2.1, mf_r34 hm.2.1, mf_k34 hm.2.1, mf_z34 hm.2.1, mf_r35 hm.2.1, mf_k35 hm.2.1, mf_z35 hm.2.1, mf_r36 hm.2.1, mf_k36 hm.2.1, mf_z36 hm.2.1, hm.2.2.1, hm.2.2.2, hmR, Int32.le_refl, E_273_3, q_fitN]
    | succ n ih =>
      intro i hi
      obtain ⟨v, a, d, e1, hv, e2, ha, e3, hd1⟩ := hring i (by omega)
      obtain ⟨m1, m2, m3⟩ := ht.2.2.1 i (by omega)
      have e9 : q_fitN (q_fp D u h (X.getD e 0) out) R (n + 1) = (q_fp D u h (X.getD e 0) out i && q_fitN (q_fp D u h (X.getD e 0) out) R n) := by
        show (q_fp D u h (X.getD e 0) out (R - (n + 1)) && _) = _
        rw [show R - (n + 1) = i by omega]
      have e10 : q_fp D u h (X.getD e 0) out i = (!decide (w v = w u) || decide (w (q_plc h (X.getD e 0) out d) = w a)) := by
        unfold q_fp
        rw [e1, e2, e3, w_tc (by omega)]
      have e1' : J (f + 11) i = w v := m1.trans e1
      have e2' : J (f + 12) i = w a := m2.trans e2
      have e3' : J (f + 13) i = w d := m3.trans e3
      rw [E_273_1, e9, e10]
      simp only [↓reduceIte, q_i, q_l, q_k, q_r, q_z, q_si, q_sl, jx_lt, jx_ri, jx_rl, jx_rv, if_true, if_false, Nat.reduceLeDiff, Nat.add_one_ne_zero, and_self, true_or, or_true, Nat.reduceEqDiff, or_self, or_false, false_or, mo_k hm.1, mo_r5 hm.1, mo_k5 hm.1, mo_z5 hm.1, mo_r16 hm.1, mo_k16 hm.1, mo_z16 hm.1, mo_r17 hm.1, mo_k17 hm.1, mo_z17 hm.1, mo_r18 hm.1, mo_k18 hm.1, mo_z18 hm.1, mo_r21 hm.1, mo_k21 hm.1, mo_z21 hm.1, mo_r22 hm.1, mo_k22 hm.1, mo_z22 hm.1, mo_r23 hm.1, mo_k23 hm.1, mo_z23 hm.1, mo_r24 hm.1, mo_k24 hm.1, mo_z24 hm.1, mo_r25 hm.1, mo_k25 hm.1, mo_z25 hm.1, mo_r26 hm.1, mo_k26 hm.1, mo_z26 hm.1, mo_r27 hm.1, mo_k27 hm.1, mo_z27 hm.1, mo_r29 hm.1, mo_k29 hm.1, mo_z29 hm.1, mo_r30 hm.1, mo_k30 hm.1, mo_z30 hm.1, mo_r31 hm.1, mo_k31 hm.1, mo_z31 hm.1, mo_r32 hm.1, mo_k32 hm.1, mo_z32 hm.1, mo_r40 hm.1, mo_k40 hm.1, mo_z40 hm.1, mo_r43 hm.1, mo_k43 hm.1, mo_z43 hm.1, mo_r44 hm.1, mo_k44 hm.1, mo_z44 hm.1, mf_k hm.2.1, mf_r14 hm.2.1, mf_k14 hm.2.1, mf_z14 hm.2.1, mf_r15 hm.2.1, mf_k15 hm.2.1, mf_z15 hm.2.1, mf_r16 hm.2.1, mf_k16 hm.2.1, mf_z16 hm.2.1, mf_r17 hm.2.1, mf_k17 hm.2.1, mf_z17 hm.2.1, mf_r18 hm.2.1, mf_k18 hm.2.1, mf_z18 hm.2.1, mf_r19 hm.2.1, mf_k19 hm.2.1, mf_z19 hm.2.1, mf_r20 hm.2.1, mf_k20 hm.2.1, mf_z20 hm.2.1, mf_r21 hm.2.1, mf_k21 hm.2.1, mf_z21 hm.2.1, mf_r22 hm.2.1, mf_k22 hm.2.1, mf_z22 hm.2.1, mf_r23 hm.2.1, mf_k23 hm.2.1, mf_z23 hm.2.1, mf_r24 hm.2.1, mf_k24 hm.2.1, mf_z24 hm.2.1, mf_r25 hm.2.1, mf_k25 hm.2.1, mf_z25 hm.2.1, mf_r26 hm.2.1, mf_k26 hm.2.1, mf_z26 hm.2.1, mf_r27 hm.2.1, mf_k27 hm.2.1, mf_z27 hm.2.1, mf_r28 hm.2.1, mf_k28 hm.2.1, mf_z28 hm.2.1, mf_r29 hm.2.1, mf_k29 hm.2.1, mf_z29 hm.2.1, mf_r30 hm.2.1, mf_k30 hm.2.1, mf_z30 hm.2.1, mf_r31 hm.2.1, mf_k31 hm.2.1, mf_z31 hm.2.1, mf_r32 hm.2.1, mf_k32 hm.2.1, mf_z32 hm.2.1, mf_r33 hm.2.1, mf_k33 hm.2.1, mf_z33 hm.2.1, mf_r34 hm.2.1, mf_k34 hm.2.1, mf_z34 hm.2.1, mf_r35 hm.2.1, mf_k35 hm.2.1, mf_z35 hm.2.1, mf_r36 hm.2.1, mf_k36 hm.2.1, mf_z36 hm.2.1, hm.2.2.1, hm.2.2.2, hmR, w_nle (k := i) (n := R) (by omega) (by omega), w_nn (a := i) (by omega), show ¬ 8 ≤ i by omega, w_tc (a := i) (by omega), e1', e2', e3', along_eq hm hS hl hY he hout (show d < 20 by omega), E_273_2, w_inc]
      have ih' := ih (i + 1) (by omega)
      by_cases c1 : w v = w u
      · by_cases c2 : w (q_plc h (X.getD e 0) out d) = w a
        · rw [if_pos c1, if_pos c2, ih', decide_eq_true c1, decide_eq_true c2]
          simp only [Bool.not_true, Bool.false_or, Bool.true_and]
        · rw [if_pos c1, if_neg c2, decide_eq_true c1, decide_eq_false c2]
          simp only [Bool.not_true, Bool.false_or, Bool.false_and, ↓reduceIte, q_i, q_l, q_k, q_r, q_z, q_si, q_sl, jx_lt, jx_ri, jx_rl, jx_rv, if_true, if_false, Nat.reduceLeDiff, Nat.add_one_ne_zero, and_self, true_or, or_true, Nat.reduceEqDiff, or_self, or_false, false_or, Bool.false_eq_true]
      · rw [if_neg c1, ih', decide_eq_false c1]
        simp only [Bool.not_false, Bool.true_or, Bool.true_and]
  rw [D_273, E_273_0]
  exact key R 0 (by omega)
theorem ml_tie (hdis : f + 24 ≤ m ∨ m + 19 ≤ f) (h : qTie J m f D P U S dn R O W) {a b c d : Int32} : qTie (q_ml J m a b c d) m f D P U S dn R O W :=
  tie_congr (me_congr fun k hk => q_ml_out (by omega)) (q_ml_out (by omega)) h
theorem ml_lay {h : Nat} {X : List Nat} (hY : qLay J m D S h X) {a b c d : Int32} : qLay (q_ml J m a b c d) m D S h X := by
  refine ⟨?_, ?_⟩
  · rw [q_ml_o, q_set_ne (by decide), q_set_ne (by decide), q_set_ne (by decide), q_set_ne (by decide)]; exact hY.1
  · rw [q_ml_out (by omega), q_ml_out (by omega)]; exact hY.2
theorem safe_J (hm : qMF s m f) (hdis : f + 24 ≤ m ∨ m + 19 ≤ f) (ht : qTie J m f D P U S dn R O W) {u h : Nat} {X : List Nat} (hu : u < U) (hh8 : h < 8) (hl : X.length ≤ 300) (hY : qLay J m D S h X) {e : Nat} (he : e < X.length) :
    jD 261 [.ref m, .int (w u), .int (w e)] (J, L, s) = some (some (.long (wl (q_lot D u h (q_dg (X.getD e 0)) (q_wy (X.getD e 0))))), J, L, s) := by
  have hS := ht.1.1.2.2.2.1
  obtain ⟨hc, a1, a2, a3⟩ := rw_std hS hY.2 he
  have := safe_eq (I := J) (L := L) (xr := J (m + 12)) (xe := J (m + 13)) (xk := J (m + 14)) (xt := J (m + 15)) (mn := J m 33) hm hdis ht (u := u) (h := h) (k := q_wy (X.getD e 0)) (e := e) (g := q_dg (X.getD e 0)) hu hh8 hc.2.1 hc.2.2.2.1 (by omega) a1 a2 a3
  rw [q_mw_self] at this
  exact this
/-- what ties a weighing's likeliest -/
def qFb (X : List Nat) (D : Nat → Nat → Int32) (u h N : Nat) (x : qF) : Prop := x.1 ≤ N ∧ ((x.1 = 0 ∧ x.2.2.2.2.1 = -1 ∧ x.2.2.2.2.2 = 0) ∨ (0 < x.1 ∧ x.2.2.2.2.2 < X.length ∧ x.2.2.2.2.1 = wl (q_lot D u h (q_dg (X.getD x.2.2.2.2.2 0)) (q_wy (X.getD x.2.2.2.2.2 0)))))
def q_l2 (x : qF) : Int32 := if x.1 = 0 then -2 else x.2.2.2.1
theorem fb_step {X : List Nat} {u h N d e : Nat} {x : qF} (he : e < X.length) (h0 : qFb X D u h N x) : qFb X D u h (N + 1) (q_fs D u h R X d e x) := by
  obtain ⟨h1, h2⟩ := h0
  unfold q_fs
  split
  · refine ⟨by show x.1 + 1 ≤ N + 1; omega, Or.inr ⟨Nat.succ_pos _, ?_, ?_⟩⟩
    · show (if _ then _ else _) < _
      rcases h2 with ⟨a1, a2, a3⟩ | ⟨a1, a2, a3⟩
      · split
        · rw [a3]; omega
        · exact he
      · split
        · exact a2
        · exact he
    · show (if wl (q_lot D u h (q_dg (X.getD e 0)) (q_wy (X.getD e 0))) ≤ x.2.2.2.2.1 then x.2.2.2.2.1 else wl (q_lot D u h (q_dg (X.getD e 0)) (q_wy (X.getD e 0)))) = wl (q_lot D u h (q_dg (X.getD (if wl (q_lot D u h (q_dg (X.getD e 0)) (q_wy (X.getD e 0))) ≤ x.2.2.2.2.1 then x.2.2.2.2.2 else e) 0)) (q_wy (X.getD (if wl (q_lot D u h (q_dg (X.getD e 0)) (q_wy (X.getD e 0))) ≤ x.2.2.2.2.1 then x.2.2.2.2.2 else e) 0)))
      have hb : q_lot D u h (q_dg (X.getD e 0)) (q_wy (X.getD e 0)) < 9223372036854775808 := Nat.lt_of_le_of_lt (lot_le (D := D) (u := u) (h := h) (k := q_wy (X.getD e 0)) (g := q_dg (X.getD e 0)) 5) (by decide)
      by_cases c : wl (q_lot D u h (q_dg (X.getD e 0)) (q_wy (X.getD e 0))) ≤ x.2.2.2.2.1
      · rw [if_pos c, if_pos c]
        rcases h2 with ⟨a1, a2, a3⟩ | ⟨a1, a2, a3⟩
        · rw [a2] at c
          exact absurd c (wl_m1 hb)
        · exact a3
      · rw [if_neg c, if_neg c]
  · exact ⟨by omega, h2⟩
theorem mfits_eq (hm : qMF s m f) (hdis : f + 24 ≤ m ∨ m + 19 ≤ f) (ht : qTie J m f D P U S dn R O W) {u h : Nat} (hu : u < U) (hh : D 6 u = w h) (hh8 : h < S) :
    ∃ xr xe xk xt, jD 274 [.ref m, .int (w u)] (J, L, s) = some (none, q_ml (q_mw J m xr xe xk xt (w (q_all D S h).length)) m (w (q_F D u h R dn (q_all D S h)).1) (q_F D u h R dn (q_all D S h)).2.1 (if (q_F D u h R dn (q_all D S h)).1 = 0 then 0 else (q_F D u h R dn (q_all D S h)).2.2.1) (q_l2 (q_F D u h R dn (q_all D S h))), L, s) ∧
      qRW D S h (q_all D S h) xr xe ∧ (q_all D S h).length ≤ 300 ∧ (q_F D u h R dn (q_all D S h)).1 ≤ 6000 := by
  have hS := ht.1.1.2.2.2.1
  have hdn := ht.1.1.2.2.2.2.2.2.1
  obtain ⟨xr, xe, xk, xt, a1, a2, a3⟩ := lays_eq (L := L) hm hdis ht hu hh hh8
  generalize hXX : q_all D S h = X at a1 a2 a3
  have hT := mw_tie (xr := xr) (xe := xe) (xk := xk) (xt := xt) (mn := w X.length) hdis ht
  have hY : qLay (q_mw J m xr xe xk xt (w X.length)) m D S h X := ⟨by rw [q_mw_o, q_set_eq], by rw [q_mw_xr, q_mw_xe]; exact a2⟩
  generalize hK : q_mw J m xr xe xk xt (w X.length) = K at a1 hT hY
  have h0K : ∀ {a b c d : Int32}, q_ml K m a b c d f 0 = w dn := fun {a b c d} => tie_0 (ml_tie hdis hT)
  have h33 : ∀ {a b c d : Int32}, q_set (q_set (q_set (q_set (K m) 36 a) 37 b) 38 c) 39 d 33 = w X.length := fun {a b c d} => by
    rw [q_set_ne (by decide), q_set_ne (by decide), q_set_ne (by decide), q_set_ne (by decide)]; exact hY.1
  have sets : ∀ (d e b : Nat) (a1 a2 a3 a4 : Int32), e < X.length → jd 274 3 [some (.ref m), some (.int (w u)), some (.int (w b)), some (.int (w d)), some (.int (w e)), none, none] [] (q_ml K m a1 a2 a3 a4, L, s) = jd 274 5 [some (.ref m), some (.int (w u)), some (.int (w b)), some (.int (w d)), some (.int (w e)), some (.int (q_fset (X.getD e 0))), none] [] (q_ml K m a1 a2 a3 a4, L, s) := by
    intro d e b a1 a2 a3 a4 he
    obtain ⟨hc, c1, c2, c3⟩ := rw_std hS hY.2 he
    have h5 := hc.2.1
    have o12 : q_ml K m a1 a2 a3 a4 (m + 12) = K (m + 12) := q_ml_out (by omega)
    have o13 : q_ml K m a1 a2 a3 a4 (m + 13) = K (m + 13) := q_ml_out (by omega)
    rw [E_274_3]
    refine (q_loop (F := fun i (b' : Int32) => jd 274 4 [some (.ref m), some (.int (w u)), some (.int (w b)), some (.int (w d)), some (.int (w e)), some (.int b'), some (.int (w (i + 1)))] [] (q_ml K m a1 a2 a3 a4, L, s)) (n := q_wy (X.getD e 0)) (g := fun i b => b ||| ((1 : Int32) <<< (w (q_dg (X.getD e 0) i) &&& 31))) (fun i b' hi => ?_) 0).trans ?_
    · have h3 := c3 i hi
      rw [show 6 * e + 1 + i = 6 * e + (i + 1) by omega] at h3
      rw [E_274_4]
      simp only [↓reduceIte, q_i, q_l, q_k, q_r, q_z, q_si, q_sl, jx_lt, jx_ri, jx_rl, jx_rv, if_true, if_false, Nat.reduceLeDiff, Nat.add_one_ne_zero, and_self, true_or, or_true, Nat.reduceEqDiff, or_self, or_false, false_or, mo_k hm.1, mo_r5 hm.1, mo_k5 hm.1, mo_z5 hm.1, mo_r16 hm.1, mo_k16 hm.1, mo_z16 hm.1, mo_r17 hm.1, mo_k17 hm.1, mo_z17 hm.1, mo_r18 hm.1, mo_k18 hm.1, mo_z18 hm.1, mo_r21 hm.1, mo_k21 hm.1, mo_z21 hm.1, mo_r22 hm.1, mo_k22 hm.1, mo_z22 hm.1, mo_r23 hm.1, mo_k23 hm.1, mo_z23 hm.1, mo_r24 hm.1, mo_k24 hm.1, mo_z24 hm.1, mo_r25 hm.1, mo_k25 hm.1, mo_z25 hm.1, mo_r26 hm.1, mo_k26 hm.1, mo_z26 hm.1, mo_r27 hm.1, mo_k27 hm.1, mo_z27 hm.1, mo_r29 hm.1, mo_k29 hm.1, mo_z29 hm.1, mo_r30 hm.1, mo_k30 hm.1, mo_z30 hm.1, mo_r31 hm.1, mo_k31 hm.1, mo_z31 hm.1, mo_r32 hm.1, mo_k32 hm.1, mo_z32 hm.1, mo_r40 hm.1, mo_k40 hm.1, mo_z40 hm.1, mo_r43 hm.1, mo_k43 hm.1, mo_z43 hm.1, mo_r44 hm.1, mo_k44 hm.1, mo_z44 hm.1, mf_k hm.2.1, mf_r14 hm.2.1, mf_k14 hm.2.1, mf_z14 hm.2.1, mf_r15 hm.2.1, mf_k15 hm.2.1, mf_z15 hm.2.1, mf_r16 hm.2.1, mf_k16 hm.2.1, mf_z16 hm.2.1, mf_r17 hm.2.1, mf_k17 hm.2.1, mf_z17 hm.2.1, mf_r18 hm.2.1, mf_k18 hm.2.1, mf_z18 hm.2.1, mf_r19 hm.2.1, mf_k19 hm.2.1, mf_z19 hm.2.1, mf_r20 hm.2.1, mf_k20 hm.2.1, mf_z20 hm.2.1, mf_r21 hm.2.1, mf_k21 hm.2.1, mf_z21 hm.2.1, mf_r22 hm.2.1, mf_k22 hm.2.1, mf_z22 hm.2.1, mf_r23 hm.2.1, mf_k23 hm.2.1, mf_z23 hm.2.1, mf_r24 hm.2.1, mf_k24 hm.2.1, mf_z24 hm.2.1, mf_r25 hm.2.1, mf_k25 hm.2.1, mf_z25 hm.2.1, mf_r26 hm.2.1, mf_k26 hm.2.1, mf_z26 hm.2.1, mf_r27 hm.2.1, mf_k27 hm.2.1, mf_z27 hm.2.1, mf_r28 hm.2.1, mf_k28 hm.2.1, mf_z28 hm.2.1, mf_r29 hm.2.1, mf_k29 hm.2.1, mf_z29 hm.2.1, mf_r30 hm.2.1, mf_k30 hm.2.1, mf_z30 hm.2.1, mf_r31 hm.2.1, mf_k31 hm.2.1, mf_z31 hm.2.1, mf_r32 hm.2.1, mf_k32 hm.2.1, mf_z32 hm.2.1, mf_r33 hm.2.1, mf_k33 hm.2.1, mf_z33 hm.2.1, mf_r34 hm.2.1, mf_k34 hm.2.1, mf_z34 hm.2.1, mf_r35 hm.2.1, mf_k35 hm.2.1, mf_z35 hm.2.1, mf_r36 hm.2.1, mf_k36 hm.2.1, mf_z36 hm.2.1, hm.2.2.1, hm.2.2.2, o12, o13, w_nn (a := e) (by omega), show ¬ 1000 ≤ e by omega, w_tc (a := e) (by omega), c1, show ¬ w (q_wy (X.getD e 0)) < w (i + 1) by rw [w_lt (by omega) (by omega)]; omega, show (6 : Int32) = w 6 from rfl, w_mul, w_add, w_nn (a := 6 * e + (i + 1)) (by omega), show ¬ 6000 ≤ 6 * e + (i + 1) by omega, w_tc (a := 6 * e + (i + 1)) (by omega), h3, w_inc]
    · show jd 274 4 _ _ _ = _
      rw [E_274_4]
      simp only [↓reduceIte, q_i, q_l, q_k, q_r, q_z, q_si, q_sl, jx_lt, jx_ri, jx_rl, jx_rv, if_true, if_false, Nat.reduceLeDiff, Nat.add_one_ne_zero, and_self, true_or, or_true, Nat.reduceEqDiff, or_self, or_false, false_or, mo_k hm.1, mo_r5 hm.1, mo_k5 hm.1, mo_z5 hm.1, mo_r16 hm.1, mo_k16 hm.1, mo_z16 hm.1, mo_r17 hm.1, mo_k17 hm.1, mo_z17 hm.1, mo_r18 hm.1, mo_k18 hm.1, mo_z18 hm.1, mo_r21 hm.1, mo_k21 hm.1, mo_z21 hm.1, mo_r22 hm.1, mo_k22 hm.1, mo_z22 hm.1, mo_r23 hm.1, mo_k23 hm.1, mo_z23 hm.1, mo_r24 hm.1, mo_k24 hm.1, mo_z24 hm.1, mo_r25 hm.1, mo_k25 hm.1, mo_z25 hm.1, mo_r26 hm.1, mo_k26 hm.1, mo_z26 hm.1, mo_r27 hm.1, mo_k27 hm.1, mo_z27 hm.1, mo_r29 hm.1, mo_k29 hm.1, mo_z29 hm.1, mo_r30 hm.1, mo_k30 hm.1, mo_z30 hm.1, mo_r31 hm.1, mo_k31 hm.1, mo_z31 hm.1, mo_r32 hm.1, mo_k32 hm.1, mo_z32 hm.1, mo_r40 hm.1, mo_k40 hm.1, mo_z40 hm.1, mo_r43 hm.1, mo_k43 hm.1, mo_z43 hm.1, mo_r44 hm.1, mo_k44 hm.1, mo_z44 hm.1, mf_k hm.2.1, mf_r14 hm.2.1, mf_k14 hm.2.1, mf_z14 hm.2.1, mf_r15 hm.2.1, mf_k15 hm.2.1, mf_z15 hm.2.1, mf_r16 hm.2.1, mf_k16 hm.2.1, mf_z16 hm.2.1, mf_r17 hm.2.1, mf_k17 hm.2.1, mf_z17 hm.2.1, mf_r18 hm.2.1, mf_k18 hm.2.1, mf_z18 hm.2.1, mf_r19 hm.2.1, mf_k19 hm.2.1, mf_z19 hm.2.1, mf_r20 hm.2.1, mf_k20 hm.2.1, mf_z20 hm.2.1, mf_r21 hm.2.1, mf_k21 hm.2.1, mf_z21 hm.2.1, mf_r22 hm.2.1, mf_k22 hm.2.1, mf_z22 hm.2.1, mf_r23 hm.2.1, mf_k23 hm.2.1, mf_z23 hm.2.1, mf_r24 hm.2.1, mf_k24 hm.2.1, mf_z24 hm.2.1, mf_r25 hm.2.1, mf_k25 hm.2.1, mf_z25 hm.2.1, mf_r26 hm.2.1, mf_k26 hm.2.1, mf_z26 hm.2.1, mf_r27 hm.2.1, mf_k27 hm.2.1, mf_z27 hm.2.1, mf_r28 hm.2.1, mf_k28 hm.2.1, mf_z28 hm.2.1, mf_r29 hm.2.1, mf_k29 hm.2.1, mf_z29 hm.2.1, mf_r30 hm.2.1, mf_k30 hm.2.1, mf_z30 hm.2.1, mf_r31 hm.2.1, mf_k31 hm.2.1, mf_z31 hm.2.1, mf_r32 hm.2.1, mf_k32 hm.2.1, mf_z32 hm.2.1, mf_r33 hm.2.1, mf_k33 hm.2.1, mf_z33 hm.2.1, mf_r34 hm.2.1, mf_k34 hm.2.1, mf_z34 hm.2.1, mf_r35 hm.2.1, mf_k35 hm.2.1, mf_z35 hm.2.1, mf_r36 hm.2.1, mf_k36 hm.2.1, mf_z36 hm.2.1, hm.2.2.1, hm.2.2.2, o12, o13, w_nn (a := e) (by omega), show ¬ 1000 ≤ e by omega, w_tc (a := e) (by omega), c1, show w (q_wy (X.getD e 0)) < w (q_wy (X.getD e 0) + 1) by rw [w_lt (by omega) (by omega)]; omega]
      rfl
  have inner : ∀ d, d < dn → ∀ (x : qF), qFb X D u h (300 * d) x → (jd 274 2 [some (.ref m), some (.int (w u)), some (.int (w x.2.2.2.2.2)), some (.int (w d)), some (.int (w 0)), none, none] [] (q_ml K m (w x.1) x.2.1 x.2.2.1 (q_l2 x), L, s) = jd 274 2 [some (.ref m), some (.int (w u)), some (.int (w (q_fd D u h R X d x).2.2.2.2.2)), some (.int (w d)), some (.int (w X.length)), none, none] [] (q_ml K m (w (q_fd D u h R X d x).1) (q_fd D u h R X d x).2.1 (q_fd D u h R X d x).2.2.1 (q_l2 (q_fd D u h R X d x)), L, s)) ∧ qFb X D u h (300 * d + X.length) (q_fd D u h R X d x) := by
    intro d hd x hx0
    refine q_loopP (F := fun e (x : qF) => jd 274 2 [some (.ref m), some (.int (w u)), some (.int (w x.2.2.2.2.2)), some (.int (w d)), some (.int (w e)), none, none] [] (q_ml K m (w x.1) x.2.1 x.2.2.1 (q_l2 x), L, s)) (n := X.length) (g := q_fs D u h R X d) (P := fun e x => qFb X D u h (300 * d + e) x) (fun e x he hx => ⟨?_, fb_step he hx⟩) x hx0
    have hfit := fun {a b c d1 : Int32} => fitsSo_eq (J := q_ml K m a b c d1) (L := L) hm (ml_tie hdis hT) (u := u) a3 (ml_lay hY) he (show d < 20 by omega)
    have hsaf := fun {a b c d1 : Int32} {e : Nat} (he : e < X.length) => safe_J (J := q_ml K m a b c d1) (L := L) hm hdis (ml_tie hdis hT) hu (show h < 8 by omega) a3 (ml_lay hY) he
    show jd 274 2 _ _ _ = jd 274 2 _ _ _
    obtain ⟨x1, x2, x3, x4, x5, x6⟩ := x
    obtain ⟨p1, p2⟩ := hx
    have p1' : x1 ≤ 300 * d + e := p1
    rw [E_274_2]
    simp only [↓reduceIte, q_i, q_l, q_k, q_r, q_z, q_si, q_sl, jx_lt, jx_ri, jx_rl, jx_rv, if_true, if_false, Nat.reduceLeDiff, Nat.add_one_ne_zero, and_self, true_or, or_true, Nat.reduceEqDiff, or_self, or_false, false_or, mo_k hm.1, mo_r5 hm.1, mo_k5 hm.1, mo_z5 hm.1, mo_r16 hm.1, mo_k16 hm.1, mo_z16 hm.1, mo_r17 hm.1, mo_k17 hm.1, mo_z17 hm.1, mo_r18 hm.1, mo_k18 hm.1, mo_z18 hm.1, mo_r21 hm.1, mo_k21 hm.1, mo_z21 hm.1, mo_r22 hm.1, mo_k22 hm.1, mo_z22 hm.1, mo_r23 hm.1, mo_k23 hm.1, mo_z23 hm.1, mo_r24 hm.1, mo_k24 hm.1, mo_z24 hm.1, mo_r25 hm.1, mo_k25 hm.1, mo_z25 hm.1, mo_r26 hm.1, mo_k26 hm.1, mo_z26 hm.1, mo_r27 hm.1, mo_k27 hm.1, mo_z27 hm.1, mo_r29 hm.1, mo_k29 hm.1, mo_z29 hm.1, mo_r30 hm.1, mo_k30 hm.1, mo_z30 hm.1, mo_r31 hm.1, mo_k31 hm.1, mo_z31 hm.1, mo_r32 hm.1, mo_k32 hm.1, mo_z32 hm.1, mo_r40 hm.1, mo_k40 hm.1, mo_z40 hm.1, mo_r43 hm.1, mo_k43 hm.1, mo_z43 hm.1, mo_r44 hm.1, mo_k44 hm.1, mo_z44 hm.1, mf_k hm.2.1, mf_r14 hm.2.1, mf_k14 hm.2.1, mf_z14 hm.2.1, mf_r15 hm.2.1, mf_k15 hm.2.1, mf_z15 hm.2.1, mf_r16 hm.2.1, mf_k16 hm.2.1, mf_z16 hm.2.1, mf_r17 hm.2.1, mf_k17 hm.2.1, mf_z17 hm.2.1, mf_r18 hm.2.1, mf_k18 hm.2.1, mf_z18 hm.2.1, mf_r19 hm.2.1, mf_k19 hm.2.1, mf_z19 hm.2.1, mf_r20 hm.2.1, mf_k20 hm.2.1, mf_z20 hm.2.1, mf_r21 hm.2.1, mf_k21 hm.2.1, mf_z21 hm.2.1, mf_r22 hm.2.1, mf_k22 hm.2.1, mf_z22 hm.2.1, mf_r23 hm.2.1, mf_k23 hm.2.1, mf_z23 hm.2.1, mf_r24 hm.2.1, mf_k24 hm.2.1, mf_z24 hm.2.1, mf_r25 hm.2.1, mf_k25 hm.2.1, mf_z25 hm.2.1, mf_r26 hm.2.1, mf_k26 hm.2.1, mf_z26 hm.2.1, mf_r27 hm.2.1, mf_k27 hm.2.1, mf_z27 hm.2.1, mf_r28 hm.2.1, mf_k28 hm.2.1, mf_z28 hm.2.1, mf_r29 hm.2.1, mf_k29 hm.2.1, mf_z29 hm.2.1, mf_r30 hm.2.1, mf_k30 hm.2.1, mf_z30 hm.2.1, mf_r31 hm.2.1, mf_k31 hm.2.1, mf_z31 hm.2.1, mf_r32 hm.2.1, mf_k32 hm.2.1, mf_z32 hm.2.1, mf_r33 hm.2.1, mf_k33 hm.2.1, mf_z33 hm.2.1, mf_r34 hm.2.1, mf_k34 hm.2.1, mf_z34 hm.2.1, mf_r35 hm.2.1, mf_k35 hm.2.1, mf_z35 hm.2.1, mf_r36 hm.2.1, mf_k36 hm.2.1, mf_z36 hm.2.1, hm.2.2.1, hm.2.2.2, q_ml_o, q_ml_uft, q_ml_uso, q_ml_usa, q_ml_ulk, q_ml_gft, q_ml_gso, q_ml_gsa, q_ml_glk, h33, w_nle he (by omega), hfit]
    by_cases c : q_fitN (q_fp D u h (X.getD e 0) d) R R = true
    · have e9 : q_fs D u h R X d e (x1, x2, x3, x4, x5, x6) = (x1 + 1, x2 ||| q_fset (X.getD e 0), x3 &&& q_fset (X.getD e 0), if wl (q_lot D u h (q_dg (X.getD e 0)) (q_wy (X.getD e 0))) ≤ x5 then x4 else 1000 * w d + w e, if wl (q_lot D u h (q_dg (X.getD e 0)) (q_wy (X.getD e 0))) ≤ x5 then x5 else wl (q_lot D u h (q_dg (X.getD e 0)) (q_wy (X.getD e 0))), if wl (q_lot D u h (q_dg (X.getD e 0)) (q_wy (X.getD e 0))) ≤ x5 then x6 else e) := by
        unfold q_fs
        rw [if_pos c]
      rw [e9]
      have hb : q_lot D u h (q_dg (X.getD e 0)) (q_wy (X.getD e 0)) < 9223372036854775808 := Nat.lt_of_le_of_lt (lot_le (D := D) (u := u) (h := h) (k := q_wy (X.getD e 0)) (g := q_dg (X.getD e 0)) 5) (by decide)
      simp only [c, ↓reduceIte, q_i, q_l, q_k, q_r, q_z, q_si, q_sl, jx_lt, jx_ri, jx_rl, jx_rv, if_true, if_false, Nat.reduceLeDiff, Nat.add_one_ne_zero, and_self, true_or, or_true, Nat.reduceEqDiff, or_self, or_false, false_or, show ¬ (1 : Int32) = 0 by decide, sets d e x6 _ _ _ _ he, E_274_5, mo_k hm.1, mo_r5 hm.1, mo_k5 hm.1, mo_z5 hm.1, mo_r16 hm.1, mo_k16 hm.1, mo_z16 hm.1, mo_r17 hm.1, mo_k17 hm.1, mo_z17 hm.1, mo_r18 hm.1, mo_k18 hm.1, mo_z18 hm.1, mo_r21 hm.1, mo_k21 hm.1, mo_z21 hm.1, mo_r22 hm.1, mo_k22 hm.1, mo_z22 hm.1, mo_r23 hm.1, mo_k23 hm.1, mo_z23 hm.1, mo_r24 hm.1, mo_k24 hm.1, mo_z24 hm.1, mo_r25 hm.1, mo_k25 hm.1, mo_z25 hm.1, mo_r26 hm.1, mo_k26 hm.1, mo_z26 hm.1, mo_r27 hm.1, mo_k27 hm.1, mo_z27 hm.1, mo_r29 hm.1, mo_k29 hm.1, mo_z29 hm.1, mo_r30 hm.1, mo_k30 hm.1, mo_z30 hm.1, mo_r31 hm.1, mo_k31 hm.1, mo_z31 hm.1, mo_r32 hm.1, mo_k32 hm.1, mo_z32 hm.1, mo_r40 hm.1, mo_k40 hm.1, mo_z40 hm.1, mo_r43 hm.1, mo_k43 hm.1, mo_z43 hm.1, mo_r44 hm.1, mo_k44 hm.1, mo_z44 hm.1, mf_k hm.2.1, mf_r14 hm.2.1, mf_k14 hm.2.1, mf_z14 hm.2.1, mf_r15 hm.2.1, mf_k15 hm.2.1, mf_z15 hm.2.1, mf_r16 hm.2.1, mf_k16 hm.2.1, mf_z16 hm.2.1, mf_r17 hm.2.1, mf_k17 hm.2.1, mf_z17 hm.2.1, mf_r18 hm.2.1, mf_k18 hm.2.1, mf_z18 hm.2.1, mf_r19 hm.2.1, mf_k19 hm.2.1, mf_z19 hm.2.1, mf_r20 hm.2.1, mf_k20 hm.2.1, mf_z20 hm.2.1, mf_r21 hm.2.1, mf_k21 hm.2.1, mf_z21 hm.2.1, mf_r22 hm.2.1, mf_k22 hm.2.1, mf_z22 hm.2.1, mf_r23 hm.2.1, mf_k23 hm.2.1, mf_z23 hm.2.1, mf_r24 hm.2.1, mf_k24 hm.2.1, mf_z24 hm.2.1, mf_r25 hm.2.1, mf_k25 hm.2.1, mf_z25 hm.2.1, mf_r26 hm.2.1, mf_k26 hm.2.1, mf_z26 hm.2.1, mf_r27 hm.2.1, mf_k27 hm.2.1, mf_z27 hm.2.1, mf_r28 hm.2.1, mf_k28 hm.2.1, mf_z28 hm.2.1, mf_r29 hm.2.1, mf_k29 hm.2.1, mf_z29 hm.2.1, mf_r30 hm.2.1, mf_k30 hm.2.1, mf_z30 hm.2.1, mf_r31 hm.2.1, mf_k31 hm.2.1, mf_z31 hm.2.1, mf_r32 hm.2.1, mf_k32 hm.2.1, mf_z32 hm.2.1, mf_r33 hm.2.1, mf_k33 hm.2.1, mf_z33 hm.2.1, mf_r34 hm.2.1, mf_k34 hm.2.1, mf_z34 hm.2.1, mf_r35 hm.2.1, mf_k35 hm.2.1, mf_z35 hm.2.1, mf_r36 hm.2.1, mf_k36 hm.2.1, mf_z36 hm.2.1, hm.2.2.1, hm.2.2.2, q_ml_o, q_ml_uft, q_ml_uso, q_ml_usa, q_ml_ulk, q_ml_gft, q_ml_gso, q_ml_gsa, q_ml_glk]
      rcases p2 with ⟨q1, q2, q3⟩ | ⟨q1, q2, q3⟩
      · have q1' : x1 = 0 := q1
        have q2' : x5 = -1 := q2
        subst q1' q2'
        have hng : ¬ wl (q_lot D u h (q_dg (X.getD e 0)) (q_wy (X.getD e 0))) ≤ -1 := wl_m1 hb
        simp only [hng, ↓reduceIte, q_i, q_l, q_k, q_r, q_z, q_si, q_sl, jx_lt, jx_ri, jx_rl, jx_rv, if_true, if_false, Nat.reduceLeDiff, Nat.add_one_ne_zero, and_self, true_or, or_true, Nat.reduceEqDiff, or_self, or_false, false_or, show w 0 = (0 : Int32) from rfl, E_274_6, E_274_7, E_274_8, mo_k hm.1, mo_r5 hm.1, mo_k5 hm.1, mo_z5 hm.1, mo_r16 hm.1, mo_k16 hm.1, mo_z16 hm.1, mo_r17 hm.1, mo_k17 hm.1, mo_z17 hm.1, mo_r18 hm.1, mo_k18 hm.1, mo_z18 hm.1, mo_r21 hm.1, mo_k21 hm.1, mo_z21 hm.1, mo_r22 hm.1, mo_k22 hm.1, mo_z22 hm.1, mo_r23 hm.1, mo_k23 hm.1, mo_z23 hm.1, mo_r24 hm.1, mo_k24 hm.1, mo_z24 hm.1, mo_r25 hm.1, mo_k25 hm.1, mo_z25 hm.1, mo_r26 hm.1, mo_k26 hm.1, mo_z26 hm.1, mo_r27 hm.1, mo_k27 hm.1, mo_z27 hm.1, mo_r29 hm.1, mo_k29 hm.1, mo_z29 hm.1, mo_r30 hm.1, mo_k30 hm.1, mo_z30 hm.1, mo_r31 hm.1, mo_k31 hm.1, mo_z31 hm.1, mo_r32 hm.1, mo_k32 hm.1, mo_z32 hm.1, mo_r40 hm.1, mo_k40 hm.1, mo_z40 hm.1, mo_r43 hm.1, mo_k43 hm.1, mo_z43 hm.1, mo_r44 hm.1, mo_k44 hm.1, mo_z44 hm.1, mf_k hm.2.1, mf_r14 hm.2.1, mf_k14 hm.2.1, mf_z14 hm.2.1, mf_r15 hm.2.1, mf_k15 hm.2.1, mf_z15 hm.2.1, mf_r16 hm.2.1, mf_k16 hm.2.1, mf_z16 hm.2.1, mf_r17 hm.2.1, mf_k17 hm.2.1, mf_z17 hm.2.1, mf_r18 hm.2.1, mf_k18 hm.2.1, mf_z18 hm.2.1, mf_r19 hm.2.1, mf_k19 hm.2.1, mf_z19 hm.2.1, mf_r20 hm.2.1, mf_k20 hm.2.1, mf_z20 hm.2.1, mf_r21 hm.2.1, mf_k21 hm.2.1, mf_z21 hm.2.1, mf_r22 hm.2.1, mf_k22 hm.2.1, mf_z22 hm.2.1, mf_r23 hm.2.1, mf_k23 hm.2.1, mf_z23 hm.2.1, mf_r24 hm.2.1, mf_k24 hm.2.1, mf_z24 hm.2.1, mf_r25 hm.2.1, mf_k25 hm.2.1, mf_z25 hm.2.1, mf_r26 hm.2.1, mf_k26 hm.2.1, mf_z26 hm.2.1, mf_r27 hm.2.1, mf_k27 hm.2.1, mf_z27 hm.2.1, mf_r28 hm.2.1, mf_k28 hm.2.1, mf_z28 hm.2.1, mf_r29 hm.2.1, mf_k29 hm.2.1, mf_z29 hm.2.1, mf_r30 hm.2.1, mf_k30 hm.2.1, mf_z30 hm.2.1, mf_r31 hm.2.1, mf_k31 hm.2.1, mf_z31 hm.2.1, mf_r32 hm.2.1, mf_k32 hm.2.1, mf_z32 hm.2.1, mf_r33 hm.2.1, mf_k33 hm.2.1, mf_z33 hm.2.1, mf_r34 hm.2.1, mf_k34 hm.2.1, mf_z34 hm.2.1, mf_r35 hm.2.1, mf_k35 hm.2.1, mf_z35 hm.2.1, mf_r36 hm.2.1, mf_k36 hm.2.1, mf_z36 hm.2.1, hm.2.2.1, hm.2.2.2, q_ml_o, q_ml_uft, q_ml_uso, q_ml_usa, q_ml_ulk, q_ml_gft, q_ml_gso, q_ml_gsa, q_ml_glk, w_inc, q_l2, Nat.zero_add, show (0 : Int32) + 1 = w 1 from rfl, show ¬ (1 : Nat) = 0 by decide]
      · have q1' : ¬ x1 = 0 := Nat.pos_iff_ne_zero.mp q1
        have q2' : x6 < X.length := q2
        have q3' : x5 = wl (q_lot D u h (q_dg (X.getD x6 0)) (q_wy (X.getD x6 0))) := q3
        have hz : ¬ w x1 = (0 : Int32) := by rw [show (0 : Int32) = w 0 from rfl, w_eq (by omega) (by omega)]; exact q1'
        simp only [hz, ↓reduceIte, q_i, q_l, q_k, q_r, q_z, q_si, q_sl, jx_lt, jx_ri, jx_rl, jx_rv, if_true, if_false, Nat.reduceLeDiff, Nat.add_one_ne_zero, and_self, true_or, or_true, Nat.reduceEqDiff, or_self, or_false, false_or, hsaf he, hsaf q2', lg_cmp_le, ← q3']
        by_cases c2 : wl (q_lot D u h (q_dg (X.getD e 0)) (q_wy (X.getD e 0))) ≤ x5
        · simp only [c2, ↓reduceIte, q_i, q_l, q_k, q_r, q_z, q_si, q_sl, jx_lt, jx_ri, jx_rl, jx_rv, if_true, if_false, Nat.reduceLeDiff, Nat.add_one_ne_zero, and_self, true_or, or_true, Nat.reduceEqDiff, or_self, or_false, false_or, E_274_7, E_274_8, mo_k hm.1, mo_r5 hm.1, mo_k5 hm.1, mo_z5 hm.1, mo_r16 hm.1, mo_k16 hm.1, mo_z16 hm.1, mo_r17 hm.1, mo_k17 hm.1, mo_z17 hm.1, mo_r18 hm.1, mo_k18 hm.1, mo_z18 hm.1, mo_r21 hm.1, mo_k21 hm.1, mo_z21 hm.1, mo_r22 hm.1, mo_k22 hm.1, mo_z22 hm.1, mo_r23 hm.1, mo_k23 hm.1, mo_z23 hm.1, mo_r24 hm.1, mo_k24 hm.1, mo_z24 hm.1, mo_r25 hm.1, mo_k25 hm.1, mo_z25 hm.1, mo_r26 hm.1, mo_k26 hm.1, mo_z26 hm.1, mo_r27 hm.1, mo_k27 hm.1, mo_z27 hm.1, mo_r29 hm.1, mo_k29 hm.1, mo_z29 hm.1, mo_r30 hm.1, mo_k30 hm.1, mo_z30 hm.1, mo_r31 hm.1, mo_k31 hm.1, mo_z31 hm.1, mo_r32 hm.1, mo_k32 hm.1, mo_z32 hm.1, mo_r40 hm.1, mo_k40 hm.1, mo_z40 hm.1, mo_r43 hm.1, mo_k43 hm.1, mo_z43 hm.1, mo_r44 hm.1, mo_k44 hm.1, mo_z44 hm.1, mf_k hm.2.1, mf_r14 hm.2.1, mf_k14 hm.2.1, mf_z14 hm.2.1, mf_r15 hm.2.1, mf_k15 hm.2.1, mf_z15 hm.2.1, mf_r16 hm.2.1, mf_k16 hm.2.1, mf_z16 hm.2.1, mf_r17 hm.2.1, mf_k17 hm.2.1, mf_z17 hm.2.1, mf_r18 hm.2.1, mf_k18 hm.2.1, mf_z18 hm.2.1, mf_r19 hm.2.1, mf_k19 hm.2.1, mf_z19 hm.2.1, mf_r20 hm.2.1, mf_k20 hm.2.1, mf_z20 hm.2.1, mf_r21 hm.2.1, mf_k21 hm.2.1, mf_z21 hm.2.1, mf_r22 hm.2.1, mf_k22 hm.2.1, mf_z22 hm.2.1, mf_r23 hm.2.1, mf_k23 hm.2.1, mf_z23 hm.2.1, mf_r24 hm.2.1, mf_k24 hm.2.1, mf_z24 hm.2.1, mf_r25 hm.2.1, mf_k25 hm.2.1, mf_z25 hm.2.1, mf_r26 hm.2.1, mf_k26 hm.2.1, mf_z26 hm.2.1, mf_r27 hm.2.1, mf_k27 hm.2.1, mf_z27 hm.2.1, mf_r28 hm.2.1, mf_k28 hm.2.1, mf_z28 hm.2.1, mf_r29 hm.2.1, mf_k29 hm.2.1, mf_z29 hm.2.1, mf_r30 hm.2.1, mf_k30 hm.2.1, mf_z30 hm.2.1, mf_r31 hm.2.1, mf_k31 hm.2.1, mf_z31 hm.2.1, mf_r32 hm.2.1, mf_k32 hm.2.1, mf_z32 hm.2.1, mf_r33 hm.2.1, mf_k33 hm.2.1, mf_z33 hm.2.1, mf_r34 hm.2.1, mf_k34 hm.2.1, mf_z34 hm.2.1, mf_r35 hm.2.1, mf_k35 hm.2.1, mf_z35 hm.2.1, mf_r36 hm.2.1, mf_k36 hm.2.1, mf_z36 hm.2.1, hm.2.2.1, hm.2.2.2, q_ml_o, q_ml_uft, q_ml_uso, q_ml_usa, q_ml_ulk, q_ml_gft, q_ml_gso, q_ml_gsa, q_ml_glk, w_inc, q_l2, q1', show ¬ x1 + 1 = 0 by omega]
        · simp only [c2, ↓reduceIte, q_i, q_l, q_k, q_r, q_z, q_si, q_sl, jx_lt, jx_ri, jx_rl, jx_rv, if_true, if_false, Nat.reduceLeDiff, Nat.add_one_ne_zero, and_self, true_or, or_true, Nat.reduceEqDiff, or_self, or_false, false_or, E_274_6, E_274_7, E_274_8, mo_k hm.1, mo_r5 hm.1, mo_k5 hm.1, mo_z5 hm.1, mo_r16 hm.1, mo_k16 hm.1, mo_z16 hm.1, mo_r17 hm.1, mo_k17 hm.1, mo_z17 hm.1, mo_r18 hm.1, mo_k18 hm.1, mo_z18 hm.1, mo_r21 hm.1, mo_k21 hm.1, mo_z21 hm.1, mo_r22 hm.1, mo_k22 hm.1, mo_z22 hm.1, mo_r23 hm.1, mo_k23 hm.1, mo_z23 hm.1, mo_r24 hm.1, mo_k24 hm.1, mo_z24 hm.1, mo_r25 hm.1, mo_k25 hm.1, mo_z25 hm.1, mo_r26 hm.1, mo_k26 hm.1, mo_z26 hm.1, mo_r27 hm.1, mo_k27 hm.1, mo_z27 hm.1, mo_r29 hm.1, mo_k29 hm.1, mo_z29 hm.1, mo_r30 hm.1, mo_k30 hm.1, mo_z30 hm.1, mo_r31 hm.1, mo_k31 hm.1, mo_z31 hm.1, mo_r32 hm.1, mo_k32 hm.1, mo_z32 hm.1, mo_r40 hm.1, mo_k40 hm.1, mo_z40 hm.1, mo_r43 hm.1, mo_k43 hm.1, mo_z43 hm.1, mo_r44 hm.1, mo_k44 hm.1, mo_z44 hm.1, mf_k hm.2.1, mf_r14 hm.2.1, mf_k14 hm.2.1, mf_z14 hm.2.1, mf_r15 hm.2.1, mf_k15 hm.2.1, mf_z15 hm.2.1, mf_r16 hm.2.1, mf_k16 hm.2.1, mf_z16 hm.2.1, mf_r17 hm.2.1, mf_k17 hm.2.1, mf_z17 hm.2.1, mf_r18 hm.2.1, mf_k18 hm.2.1, mf_z18 hm.2.1, mf_r19 hm.2.1, mf_k19 hm.2.1, mf_z19 hm.2.1, mf_r20 hm.2.1, mf_k20 hm.2.1, mf_z20 hm.2.1, mf_r21 hm.2.1, mf_k21 hm.2.1, mf_z21 hm.2.1, mf_r22 hm.2.1, mf_k22 hm.2.1, mf_z22 hm.2.1, mf_r23 hm.2.1, mf_k23 hm.2.1, mf_z23 hm.2.1, mf_r24 hm.2.1, mf_k24 hm.2.1, mf_z24 hm.2.1, mf_r25 hm.2.1, mf_k25 hm.2.1, mf_z25 hm.2.1, mf_r26 hm.2.1, mf_k26 hm.2.1, mf_z26 hm.2.1, mf_r27 hm.2.1, mf_k27 hm.2.1, mf_z27 hm.2.1, mf_r28 hm.2.1, mf_k28 hm.2.1, mf_z28 hm.2.1, mf_r29 hm.2.1, mf_k29 hm.2.1, mf_z29 hm.2.1, mf_r30 hm.2.1, mf_k30 hm.2.1, mf_z30 hm.2.1, mf_r31 hm.2.1, mf_k31 hm.2.1, mf_z31 hm.2.1, mf_r32 hm.2.1, mf_k32 hm.2.1, mf_z32 hm.2.1, mf_r33 hm.2.1, mf_k33 hm.2.1, mf_z33 hm.2.1, mf_r34 hm.2.1, mf_k34 hm.2.1, mf_z34 hm.2.1, mf_r35 hm.2.1, mf_k35 hm.2.1, mf_z35 hm.2.1, mf_r36 hm.2.1, mf_k36 hm.2.1, mf_z36 hm.2.1, hm.2.2.1, hm.2.2.2, q_ml_o, q_ml_uft, q_ml_uso, q_ml_usa, q_ml_ulk, q_ml_gft, q_ml_gso, q_ml_gsa, q_ml_glk, w_inc, q_l2, show ¬ x1 + 1 = 0 by omega]
    · have e9 : q_fs D u h R X d e (x1, x2, x3, x4, x5, x6) = (x1, x2, x3, x4, x5, x6) := by
        unfold q_fs
        rw [if_neg c]
      rw [e9]
      simp only [c, ↓reduceIte, q_i, q_l, q_k, q_r, q_z, q_si, q_sl, jx_lt, jx_ri, jx_rl, jx_rv, if_true, if_false, Nat.reduceLeDiff, Nat.add_one_ne_zero, and_self, true_or, or_true, Nat.reduceEqDiff, or_self, or_false, false_or, E_274_8, w_inc, Bool.false_eq_true]
  have outer := q_loopP (F := fun d (x : qF) => jd 274 1 [some (.ref m), some (.int (w u)), some (.int (w x.2.2.2.2.2)), some (.int (w d)), none, none, none] [] (q_ml K m (w x.1) x.2.1 x.2.2.1 (q_l2 x), L, s)) (n := dn) (g := q_fd D u h R X) (P := fun d x => qFb X D u h (300 * d) x) (fun d x hd hx => by
    obtain ⟨i1, i2⟩ := inner d hd x hx
    refine ⟨?_, ⟨by have := i2.1; omega, i2.2⟩⟩
    show jd 274 1 _ _ _ = jd 274 1 _ _ _
    rw [E_274_1]
    simp only [↓reduceIte, q_i, q_l, q_k, q_r, q_z, q_si, q_sl, jx_lt, jx_ri, jx_rl, jx_rv, if_true, if_false, Nat.reduceLeDiff, Nat.add_one_ne_zero, and_self, true_or, or_true, Nat.reduceEqDiff, or_self, or_false, false_or, mo_k hm.1, mo_r5 hm.1, mo_k5 hm.1, mo_z5 hm.1, mo_r16 hm.1, mo_k16 hm.1, mo_z16 hm.1, mo_r17 hm.1, mo_k17 hm.1, mo_z17 hm.1, mo_r18 hm.1, mo_k18 hm.1, mo_z18 hm.1, mo_r21 hm.1, mo_k21 hm.1, mo_z21 hm.1, mo_r22 hm.1, mo_k22 hm.1, mo_z22 hm.1, mo_r23 hm.1, mo_k23 hm.1, mo_z23 hm.1, mo_r24 hm.1, mo_k24 hm.1, mo_z24 hm.1, mo_r25 hm.1, mo_k25 hm.1, mo_z25 hm.1, mo_r26 hm.1, mo_k26 hm.1, mo_z26 hm.1, mo_r27 hm.1, mo_k27 hm.1, mo_z27 hm.1, mo_r29 hm.1, mo_k29 hm.1, mo_z29 hm.1, mo_r30 hm.1, mo_k30 hm.1, mo_z30 hm.1, mo_r31 hm.1, mo_k31 hm.1, mo_z31 hm.1, mo_r32 hm.1, mo_k32 hm.1, mo_z32 hm.1, mo_r40 hm.1, mo_k40 hm.1, mo_z40 hm.1, mo_r43 hm.1, mo_k43 hm.1, mo_z43 hm.1, mo_r44 hm.1, mo_k44 hm.1, mo_z44 hm.1, mf_k hm.2.1, mf_r14 hm.2.1, mf_k14 hm.2.1, mf_z14 hm.2.1, mf_r15 hm.2.1, mf_k15 hm.2.1, mf_z15 hm.2.1, mf_r16 hm.2.1, mf_k16 hm.2.1, mf_z16 hm.2.1, mf_r17 hm.2.1, mf_k17 hm.2.1, mf_z17 hm.2.1, mf_r18 hm.2.1, mf_k18 hm.2.1, mf_z18 hm.2.1, mf_r19 hm.2.1, mf_k19 hm.2.1, mf_z19 hm.2.1, mf_r20 hm.2.1, mf_k20 hm.2.1, mf_z20 hm.2.1, mf_r21 hm.2.1, mf_k21 hm.2.1, mf_z21 hm.2.1, mf_r22 hm.2.1, mf_k22 hm.2.1, mf_z22 hm.2.1, mf_r23 hm.2.1, mf_k23 hm.2.1, mf_z23 hm.2.1, mf_r24 hm.2.1, mf_k24 hm.2.1, mf_z24 hm.2.1, mf_r25 hm.2.1, mf_k25 hm.2.1, mf_z25 hm.2.1, mf_r26 hm.2.1, mf_k26 hm.2.1, mf_z26 hm.2.1, mf_r27 hm.2.1, mf_k27 hm.2.1, mf_z27 hm.2.1, mf_r28 hm.2.1, mf_k28 hm.2.1, mf_z28 hm.2.1, mf_r29 hm.2.1, mf_k29 hm.2.1, mf_z29 hm.2.1, mf_r30 hm.2.1, mf_k30 hm.2.1, mf_z30 hm.2.1, mf_r31 hm.2.1, mf_k31 hm.2.1, mf_z31 hm.2.1, mf_r32 hm.2.1, mf_k32 hm.2.1, mf_z32 hm.2.1, mf_r33 hm.2.1, mf_k33 hm.2.1, mf_z33 hm.2.1, mf_r34 hm.2.1, mf_k34 hm.2.1, mf_z34 hm.2.1, mf_r35 hm.2.1, mf_k35 hm.2.1, mf_z35 hm.2.1, mf_r36 hm.2.1, mf_k36 hm.2.1, mf_z36 hm.2.1, hm.2.2.1, hm.2.2.2, h0K, w_nle hd (by omega)]
    rw [show (0 : Int32) = w 0 from rfl, i1, E_274_2]
    simp only [↓reduceIte, q_i, q_l, q_k, q_r, q_z, q_si, q_sl, jx_lt, jx_ri, jx_rl, jx_rv, if_true, if_false, Nat.reduceLeDiff, Nat.add_one_ne_zero, and_self, true_or, or_true, Nat.reduceEqDiff, or_self, or_false, false_or, mo_k hm.1, mo_r5 hm.1, mo_k5 hm.1, mo_z5 hm.1, mo_r16 hm.1, mo_k16 hm.1, mo_z16 hm.1, mo_r17 hm.1, mo_k17 hm.1, mo_z17 hm.1, mo_r18 hm.1, mo_k18 hm.1, mo_z18 hm.1, mo_r21 hm.1, mo_k21 hm.1, mo_z21 hm.1, mo_r22 hm.1, mo_k22 hm.1, mo_z22 hm.1, mo_r23 hm.1, mo_k23 hm.1, mo_z23 hm.1, mo_r24 hm.1, mo_k24 hm.1, mo_z24 hm.1, mo_r25 hm.1, mo_k25 hm.1, mo_z25 hm.1, mo_r26 hm.1, mo_k26 hm.1, mo_z26 hm.1, mo_r27 hm.1, mo_k27 hm.1, mo_z27 hm.1, mo_r29 hm.1, mo_k29 hm.1, mo_z29 hm.1, mo_r30 hm.1, mo_k30 hm.1, mo_z30 hm.1, mo_r31 hm.1, mo_k31 hm.1, mo_z31 hm.1, mo_r32 hm.1, mo_k32 hm.1, mo_z32 hm.1, mo_r40 hm.1, mo_k40 hm.1, mo_z40 hm.1, mo_r43 hm.1, mo_k43 hm.1, mo_z43 hm.1, mo_r44 hm.1, mo_k44 hm.1, mo_z44 hm.1, mf_k hm.2.1, mf_r14 hm.2.1, mf_k14 hm.2.1, mf_z14 hm.2.1, mf_r15 hm.2.1, mf_k15 hm.2.1, mf_z15 hm.2.1, mf_r16 hm.2.1, mf_k16 hm.2.1, mf_z16 hm.2.1, mf_r17 hm.2.1, mf_k17 hm.2.1, mf_z17 hm.2.1, mf_r18 hm.2.1, mf_k18 hm.2.1, mf_z18 hm.2.1, mf_r19 hm.2.1, mf_k19 hm.2.1, mf_z19 hm.2.1, mf_r20 hm.2.1, mf_k20 hm.2.1, mf_z20 hm.2.1, mf_r21 hm.2.1, mf_k21 hm.2.1, mf_z21 hm.2.1, mf_r22 hm.2.1, mf_k22 hm.2.1, mf_z22 hm.2.1, mf_r23 hm.2.1, mf_k23 hm.2.1, mf_z23 hm.2.1, mf_r24 hm.2.1, mf_k24 hm.2.1, mf_z24 hm.2.1, mf_r25 hm.2.1, mf_k25 hm.2.1, mf_z25 hm.2.1, mf_r26 hm.2.1, mf_k26 hm.2.1, mf_z26 hm.2.1, mf_r27 hm.2.1, mf_k27 hm.2.1, mf_z27 hm.2.1, mf_r28 hm.2.1, mf_k28 hm.2.1, mf_z28 hm.2.1, mf_r29 hm.2.1, mf_k29 hm.2.1, mf_z29 hm.2.1, mf_r30 hm.2.1, mf_k30 hm.2.1, mf_z30 hm.2.1, mf_r31 hm.2.1, mf_k31 hm.2.1, mf_z31 hm.2.1, mf_r32 hm.2.1, mf_k32 hm.2.1, mf_z32 hm.2.1, mf_r33 hm.2.1, mf_k33 hm.2.1, mf_z33 hm.2.1, mf_r34 hm.2.1, mf_k34 hm.2.1, mf_z34 hm.2.1, mf_r35 hm.2.1, mf_k35 hm.2.1, mf_z35 hm.2.1, mf_r36 hm.2.1, mf_k36 hm.2.1, mf_z36 hm.2.1, hm.2.2.1, hm.2.2.2, q_ml_o, q_ml_uft, q_ml_uso, q_ml_usa, q_ml_ulk, q_ml_gft, q_ml_gso, q_ml_gsa, q_ml_glk, h33, Int32.le_refl, E_274_9, w_inc]) ((0 : Nat), (0 : Int32), (255 : Int32), (-1 : Int32), (-1 : Int64), (0 : Nat)) ⟨Nat.zero_le _, Or.inl ⟨rfl, rfl, rfl⟩⟩
  obtain ⟨o1, o2⟩ := outer
  have o3 : (q_F D u h R dn X).1 ≤ 300 * dn := o2.1
  refine ⟨xr, xe, xk, xt, ?_, a2, a3, by omega⟩
  rw [D_274, E_274_0]
  have e0 : (K, L, s) = (q_ml K m (K m 36) (K m 37) (K m 38) (K m 39), L, s) := by rw [q_ml_self]
  rw [e0] at a1
  rw [hK]
  simp only [↓reduceIte, q_i, q_l, q_k, q_r, q_z, q_si, q_sl, jx_lt, jx_ri, jx_rl, jx_rv, if_true, if_false, Nat.reduceLeDiff, Nat.add_one_ne_zero, and_self, true_or, or_true, Nat.reduceEqDiff, or_self, or_false, false_or, mo_k hm.1, mo_r5 hm.1, mo_k5 hm.1, mo_z5 hm.1, mo_r16 hm.1, mo_k16 hm.1, mo_z16 hm.1, mo_r17 hm.1, mo_k17 hm.1, mo_z17 hm.1, mo_r18 hm.1, mo_k18 hm.1, mo_z18 hm.1, mo_r21 hm.1, mo_k21 hm.1, mo_z21 hm.1, mo_r22 hm.1, mo_k22 hm.1, mo_z22 hm.1, mo_r23 hm.1, mo_k23 hm.1, mo_z23 hm.1, mo_r24 hm.1, mo_k24 hm.1, mo_z24 hm.1, mo_r25 hm.1, mo_k25 hm.1, mo_z25 hm.1, mo_r26 hm.1, mo_k26 hm.1, mo_z26 hm.1, mo_r27 hm.1, mo_k27 hm.1, mo_z27 hm.1, mo_r29 hm.1, mo_k29 hm.1, mo_z29 hm.1, mo_r30 hm.1, mo_k30 hm.1, mo_z30 hm.1, mo_r31 hm.1, mo_k31 hm.1, mo_z31 hm.1, mo_r32 hm.1, mo_k32 hm.1, mo_z32 hm.1, mo_r40 hm.1, mo_k40 hm.1, mo_z40 hm.1, mo_r43 hm.1, mo_k43 hm.1, mo_z43 hm.1, mo_r44 hm.1, mo_k44 hm.1, mo_z44 hm.1, mf_k hm.2.1, mf_r14 hm.2.1, mf_k14 hm.2.1, mf_z14 hm.2.1, mf_r15 hm.2.1, mf_k15 hm.2.1, mf_z15 hm.2.1, mf_r16 hm.2.1, mf_k16 hm.2.1, mf_z16 hm.2.1, mf_r17 hm.2.1, mf_k17 hm.2.1, mf_z17 hm.2.1, mf_r18 hm.2.1, mf_k18 hm.2.1, mf_z18 hm.2.1, mf_r19 hm.2.1, mf_k19 hm.2.1, mf_z19 hm.2.1, mf_r20 hm.2.1, mf_k20 hm.2.1, mf_z20 hm.2.1, mf_r21 hm.2.1, mf_k21 hm.2.1, mf_z21 hm.2.1, mf_r22 hm.2.1, mf_k22 hm.2.1, mf_z22 hm.2.1, mf_r23 hm.2.1, mf_k23 hm.2.1, mf_z23 hm.2.1, mf_r24 hm.2.1, mf_k24 hm.2.1, mf_z24 hm.2.1, mf_r25 hm.2.1, mf_k25 hm.2.1, mf_z25 hm.2.1, mf_r26 hm.2.1, mf_k26 hm.2.1, mf_z26 hm.2.1, mf_r27 hm.2.1, mf_k27 hm.2.1, mf_z27 hm.2.1, mf_r28 hm.2.1, mf_k28 hm.2.1, mf_z28 hm.2.1, mf_r29 hm.2.1, mf_k29 hm.2.1, mf_z29 hm.2.1, mf_r30 hm.2.1, mf_k30 hm.2.1, mf_z30 hm.2.1, mf_r31 hm.2.1, mf_k31 hm.2.1, mf_z31 hm.2.1, mf_r32 hm.2.1, mf_k32 hm.2.1, mf_z32 hm.2.1, mf_r33 hm.2.1, mf_k33 hm.2.1, mf_z33 hm.2.1, mf_r34 hm.2.1, mf_k34 hm.2.1, mf_z34 hm.2.1, mf_r35 hm.2.1, mf_k35 hm.2.1, mf_z35 hm.2.1, mf_r36 hm.2.1, mf_k36 hm.2.1, mf_z36 hm.2.1, hm.2.2.1, hm.2.2.2, a1, q_ml_o, q_ml_uft, q_ml_uso, q_ml_usa, q_ml_ulk, q_ml_gft, q_ml_gso, q_ml_gsa, q_ml_glk]
  refine o1.trans ?_
  show jd 274 1 _ _ _ = _
  rw [E_274_1, show q_it (q_fd D u h R X) dn (0, 0, 255, -1, -1, 0) = q_F D u h R dn X from rfl]
  simp only [↓reduceIte, q_i, q_l, q_k, q_r, q_z, q_si, q_sl, jx_lt, jx_ri, jx_rl, jx_rv, if_true, if_false, Nat.reduceLeDiff, Nat.add_one_ne_zero, and_self, true_or, or_true, Nat.reduceEqDiff, or_self, or_false, false_or, mo_k hm.1, mo_r5 hm.1, mo_k5 hm.1, mo_z5 hm.1, mo_r16 hm.1, mo_k16 hm.1, mo_z16 hm.1, mo_r17 hm.1, mo_k17 hm.1, mo_z17 hm.1, mo_r18 hm.1, mo_k18 hm.1, mo_z18 hm.1, mo_r21 hm.1, mo_k21 hm.1, mo_z21 hm.1, mo_r22 hm.1, mo_k22 hm.1, mo_z22 hm.1, mo_r23 hm.1, mo_k23 hm.1, mo_z23 hm.1, mo_r24 hm.1, mo_k24 hm.1, mo_z24 hm.1, mo_r25 hm.1, mo_k25 hm.1, mo_z25 hm.1, mo_r26 hm.1, mo_k26 hm.1, mo_z26 hm.1, mo_r27 hm.1, mo_k27 hm.1, mo_z27 hm.1, mo_r29 hm.1, mo_k29 hm.1, mo_z29 hm.1, mo_r30 hm.1, mo_k30 hm.1, mo_z30 hm.1, mo_r31 hm.1, mo_k31 hm.1, mo_z31 hm.1, mo_r32 hm.1, mo_k32 hm.1, mo_z32 hm.1, mo_r40 hm.1, mo_k40 hm.1, mo_z40 hm.1, mo_r43 hm.1, mo_k43 hm.1, mo_z43 hm.1, mo_r44 hm.1, mo_k44 hm.1, mo_z44 hm.1, mf_k hm.2.1, mf_r14 hm.2.1, mf_k14 hm.2.1, mf_z14 hm.2.1, mf_r15 hm.2.1, mf_k15 hm.2.1, mf_z15 hm.2.1, mf_r16 hm.2.1, mf_k16 hm.2.1, mf_z16 hm.2.1, mf_r17 hm.2.1, mf_k17 hm.2.1, mf_z17 hm.2.1, mf_r18 hm.2.1, mf_k18 hm.2.1, mf_z18 hm.2.1, mf_r19 hm.2.1, mf_k19 hm.2.1, mf_z19 hm.2.1, mf_r20 hm.2.1, mf_k20 hm.2.1, mf_z20 hm.2.1, mf_r21 hm.2.1, mf_k21 hm.2.1, mf_z21 hm.2.1, mf_r22 hm.2.1, mf_k22 hm.2.1, mf_z22 hm.2.1, mf_r23 hm.2.1, mf_k23 hm.2.1, mf_z23 hm.2.1, mf_r24 hm.2.1, mf_k24 hm.2.1, mf_z24 hm.2.1, mf_r25 hm.2.1, mf_k25 hm.2.1, mf_z25 hm.2.1, mf_r26 hm.2.1, mf_k26 hm.2.1, mf_z26 hm.2.1, mf_r27 hm.2.1, mf_k27 hm.2.1, mf_z27 hm.2.1, mf_r28 hm.2.1, mf_k28 hm.2.1, mf_z28 hm.2.1, mf_r29 hm.2.1, mf_k29 hm.2.1, mf_z29 hm.2.1, mf_r30 hm.2.1, mf_k30 hm.2.1, mf_z30 hm.2.1, mf_r31 hm.2.1, mf_k31 hm.2.1, mf_z31 hm.2.1, mf_r32 hm.2.1, mf_k32 hm.2.1, mf_z32 hm.2.1, mf_r33 hm.2.1, mf_k33 hm.2.1, mf_z33 hm.2.1, mf_r34 hm.2.1, mf_k34 hm.2.1, mf_z34 hm.2.1, mf_r35 hm.2.1, mf_k35 hm.2.1, mf_z35 hm.2.1, mf_r36 hm.2.1, mf_k36 hm.2.1, mf_z36 hm.2.1, hm.2.2.1, hm.2.2.2, h0K, Int32.le_refl, E_274_10, q_ml_o, q_ml_uft, q_ml_uso, q_ml_usa, q_ml_ulk, q_ml_gft, q_ml_gso, q_ml_gsa, q_ml_glk]
  by_cases c : (q_F D u h R dn X).1 = 0
  · simp only [c, show w 0 = (0 : Int32) from rfl, ↓reduceIte, q_i, q_l, q_k, q_r, q_z, q_si, q_sl, jx_lt, jx_ri, jx_rl, jx_rv, if_true, if_false, Nat.reduceLeDiff, Nat.add_one_ne_zero, and_self, true_or, or_true, Nat.reduceEqDiff, or_self, or_false, false_or, mo_k hm.1, mo_r5 hm.1, mo_k5 hm.1, mo_z5 hm.1, mo_r16 hm.1, mo_k16 hm.1, mo_z16 hm.1, mo_r17 hm.1, mo_k17 hm.1, mo_z17 hm.1, mo_r18 hm.1, mo_k18 hm.1, mo_z18 hm.1, mo_r21 hm.1, mo_k21 hm.1, mo_z21 hm.1, mo_r22 hm.1, mo_k22 hm.1, mo_z22 hm.1, mo_r23 hm.1, mo_k23 hm.1, mo_z23 hm.1, mo_r24 hm.1, mo_k24 hm.1, mo_z24 hm.1, mo_r25 hm.1, mo_k25 hm.1, mo_z25 hm.1, mo_r26 hm.1, mo_k26 hm.1, mo_z26 hm.1, mo_r27 hm.1, mo_k27 hm.1, mo_z27 hm.1, mo_r29 hm.1, mo_k29 hm.1, mo_z29 hm.1, mo_r30 hm.1, mo_k30 hm.1, mo_z30 hm.1, mo_r31 hm.1, mo_k31 hm.1, mo_z31 hm.1, mo_r32 hm.1, mo_k32 hm.1, mo_z32 hm.1, mo_r40 hm.1, mo_k40 hm.1, mo_z40 hm.1, mo_r43 hm.1, mo_k43 hm.1, mo_z43 hm.1, mo_r44 hm.1, mo_k44 hm.1, mo_z44 hm.1, mf_k hm.2.1, mf_r14 hm.2.1, mf_k14 hm.2.1, mf_z14 hm.2.1, mf_r15 hm.2.1, mf_k15 hm.2.1, mf_z15 hm.2.1, mf_r16 hm.2.1, mf_k16 hm.2.1, mf_z16 hm.2.1, mf_r17 hm.2.1, mf_k17 hm.2.1, mf_z17 hm.2.1, mf_r18 hm.2.1, mf_k18 hm.2.1, mf_z18 hm.2.1, mf_r19 hm.2.1, mf_k19 hm.2.1, mf_z19 hm.2.1, mf_r20 hm.2.1, mf_k20 hm.2.1, mf_z20 hm.2.1, mf_r21 hm.2.1, mf_k21 hm.2.1, mf_z21 hm.2.1, mf_r22 hm.2.1, mf_k22 hm.2.1, mf_z22 hm.2.1, mf_r23 hm.2.1, mf_k23 hm.2.1, mf_z23 hm.2.1, mf_r24 hm.2.1, mf_k24 hm.2.1, mf_z24 hm.2.1, mf_r25 hm.2.1, mf_k25 hm.2.1, mf_z25 hm.2.1, mf_r26 hm.2.1, mf_k26 hm.2.1, mf_z26 hm.2.1, mf_r27 hm.2.1, mf_k27 hm.2.1, mf_z27 hm.2.1, mf_r28 hm.2.1, mf_k28 hm.2.1, mf_z28 hm.2.1, mf_r29 hm.2.1, mf_k29 hm.2.1, mf_z29 hm.2.1, mf_r30 hm.2.1, mf_k30 hm.2.1, mf_z30 hm.2.1, mf_r31 hm.2.1, mf_k31 hm.2.1, mf_z31 hm.2.1, mf_r32 hm.2.1, mf_k32 hm.2.1, mf_z32 hm.2.1, mf_r33 hm.2.1, mf_k33 hm.2.1, mf_z33 hm.2.1, mf_r34 hm.2.1, mf_k34 hm.2.1, mf_z34 hm.2.1, mf_r35 hm.2.1, mf_k35 hm.2.1, mf_z35 hm.2.1, mf_r36 hm.2.1, mf_k36 hm.2.1, mf_z36 hm.2.1, hm.2.2.1, hm.2.2.2, q_ml_o, q_ml_uft, q_ml_uso, q_ml_usa, q_ml_ulk, q_ml_gft, q_ml_gso, q_ml_gsa, q_ml_glk, E_274_11]
  · have hz : ¬ w (q_F D u h R dn X).1 = (0 : Int32) := by rw [show (0 : Int32) = w 0 from rfl, w_eq (by omega) (by omega)]; exact c
    simp only [c, hz, ↓reduceIte, q_i, q_l, q_k, q_r, q_z, q_si, q_sl, jx_lt, jx_ri, jx_rl, jx_rv, if_true, if_false, Nat.reduceLeDiff, Nat.add_one_ne_zero, and_self, true_or, or_true, Nat.reduceEqDiff, or_self, or_false, false_or, E_274_11]
end MF
