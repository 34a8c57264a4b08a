/-! THE REFERENCE's YEAR: flocks, costs, a flight of one -/
/-- what the reference's day rests on, at day d, its stops sp -/
def qMD (D : Nat → Nat → Int32) (P sp : Nat → Int32) (S : Nat) (u d : Nat) : Prop := sp u = -2 ∨ ∃ a, sp u = w a ∧ a < S ∧ (q_aim D P sp u (w d) = -1 ∨ ∃ b, b < S ∧ q_aim D P sp u (w d) = w b ∧ ¬ D 2 (8 * a + b) < 0)
theorem aim_m2 {D : Nat → Nat → Int32} {P sp : Nat → Int32} {u : Nat} {d : Int32} (h : sp u = -2) : q_aim D P sp u d = -1 := by
  unfold q_aim
  rw [if_pos (Or.inr (Or.inr (Or.inl (by rw [h]; exact m2_lt))))]
theorem w_m1 {a : Nat} (h : a < 1000000) : ¬ w a = -1 := by intro e; exact w_nn (a := a) (by omega) (by rw [e]; exact m1_lt)
theorem w_m2 {a : Nat} (h : a < 1000000) : ¬ w a = -2 := by intro e; exact w_nn (a := a) (by omega) (by rw [e]; exact m2_lt)
section MC
variable {J : qI} {L : qL} {s : qS} {m f : Nat} {D : Nat → Nat → Int32} {P : Nat → Int32} {U S dn : Nat}
/-- the reference's flight's rows -/
def qme (J : qI) (f : Nat) : Nat → Nat → Int32 := fun k => if k < 24 then J (f + k) else fun _ => 0
/-- all that ties the reference's flight and plan to D and P -/
def qMR (J : qI) (m f : Nat) (D : Nat → Nat → Int32) (P : Nat → Int32) (U S dn : Nat) : Prop := qVD D U S dn ∧ qVP D P U S dn ∧ qRD D (qme J f) U S ∧ qRV D P (J (m + 2)) U S
theorem mNext (hm : qMF s m f) (hR : qMR J m f D P U S dn) {u d : Nat} (hu : u < U) (hd : d < 20) (hsp : qMD D P (J (m + 5)) S u d) : jD 239 [.ref m, .int (w u), .int (w d)] (J, L, s) = some (some (.int (q_aim D P (J (m + 5)) u (w d))), J, L, s) := by
  obtain ⟨hD, hP, hE, hV⟩ := hR
  obtain ⟨-, hU, -, hS, -, -, hdn, hh⟩ := hD
  refine mNext_eq hm ((hE.2.2.2.2.2 u hu).1) hV hS hu hU hd (hh u hu) ?_ ?_
  · rcases (hP u hu).1 with z | ⟨d, z, h⟩
    · exact Or.inl z
    · exact Or.inr ⟨d, z, by omega⟩
  · rcases hsp with z | ⟨a, z, h, -⟩
    · exact Or.inl z
    · exact Or.inr (by rw [z]; exact w_nn (by omega))
theorem mU (hR : qMR J m f D P U S dn) : J f 5 = w U ∧ U ≤ 6 := ⟨(hR.2.2.1.1 5 (by omega)).trans hR.1.1, hR.1.2.1⟩
theorem mFlock_eq (hm : qMF s m f) (hR : qMR J m f D P U S dn) {u d : Nat} (hu : u < U) (hd : d < 20) (hsp : ∀ v, v < U → qMD D P (J (m + 5)) S v d) : jD 240 [.ref m, .int (w u), .int (w d)] (J, L, s) = some (some (.int (q_fl D P (J (m + 5)) U d u)), J, L, s) := by
  obtain ⟨hU5, hU⟩ := mU hR
  have hS := hR.1.2.2.2.1
  have haim : q_ai D P (J (m + 5)) d u = -1 ∨ ∃ b, b < S ∧ q_ai D P (J (m + 5)) d u = w b := by
    rcases hsp u hu with z | ⟨a, _, _, z | ⟨b, hb, z, _⟩⟩
    · exact Or.inl (aim_m2 z)
    · exact Or.inl z
    · exact Or.inr ⟨b, hb, z⟩
  rw [D_240, E_240_0]
  simp only [q_i, q_l, q_k, q_r, q_z, q_si, q_sl, jx_lt, jx_ri, jx_rl, jx_rv, if_true, if_false, Nat.reduceLeDiff, Nat.add_one_ne_zero, and_self, true_or, or_true, Nat.reduceEqDiff, or_self, or_false, false_or, mo_k hm.1, mNext hm hR hu hd (hsp u hu)]
  unfold q_fl q_flock
  show jd 240 1 [some (.ref m), some (.int (w u)), some (.int (w d)), some (.int (q_ai D P (J (m + 5)) d u)), some (.int 0), some (.int (w 0))] [] (J, L, s) = _
  refine (q_loop (F := fun i b => jd 240 1 [some (.ref m), some (.int (w u)), some (.int (w d)), some (.int (q_ai D P (J (m + 5)) d u)), some (.int b), some (.int (w i))] [] (J, L, s)) (n := U) (g := fun v b => b ||| (if q_ai D P (J (m + 5)) d u < 0 then 0 else if q_ai D P (J (m + 5)) d v = q_ai D P (J (m + 5)) d u ∧ J (m + 5) v = J (m + 5) u then (1 : Int32) <<< (w v &&& 31) else 0)) (fun i b hi => ?_) 0).trans ?_
  · rw [E_240_1]
    simp only [q_i, q_l, q_k, q_r, q_z, q_si, q_sl, jx_lt, jx_ri, jx_rl, jx_rv, if_true, if_false, Nat.reduceLeDiff, Nat.add_one_ne_zero, and_self, true_or, or_true, Nat.reduceEqDiff, or_self, or_false, false_or, mo_k hm.1, mo_r5 hm.1, mo_k5 hm.1, mo_z5 hm.1, mo_r16 hm.1, mo_k16 hm.1, mo_z16 hm.1, mo_r17 hm.1, mo_k17 hm.1, mo_z17 hm.1, mo_r18 hm.1, mo_k18 hm.1, mo_z18 hm.1, mo_r21 hm.1, mo_k21 hm.1, mo_z21 hm.1, mo_r22 hm.1, mo_k22 hm.1, mo_z22 hm.1, mo_r23 hm.1, mo_k23 hm.1, mo_z23 hm.1, mo_r24 hm.1, mo_k24 hm.1, mo_z24 hm.1, mo_r25 hm.1, mo_k25 hm.1, mo_z25 hm.1, mo_r26 hm.1, mo_k26 hm.1, mo_z26 hm.1, mo_r27 hm.1, mo_k27 hm.1, mo_z27 hm.1, mo_r29 hm.1, mo_k29 hm.1, mo_z29 hm.1, mo_r30 hm.1, mo_k30 hm.1, mo_z30 hm.1, mo_r31 hm.1, mo_k31 hm.1, mo_z31 hm.1, mo_r32 hm.1, mo_k32 hm.1, mo_z32 hm.1, mo_r40 hm.1, mo_k40 hm.1, mo_z40 hm.1, mo_r43 hm.1, mo_k43 hm.1, mo_z43 hm.1, mo_r44 hm.1, mo_k44 hm.1, mo_z44 hm.1, mf_k hm.2.1, mf_r14 hm.2.1, mf_k14 hm.2.1, mf_z14 hm.2.1, mf_r15 hm.2.1, mf_k15 hm.2.1, mf_z15 hm.2.1, mf_r16 hm.2.1, mf_k16 hm.2.1, mf_z16 hm.2.1, mf_r17 hm.2.1, mf_k17 hm.2.1, mf_z17 hm.2.1, mf_r18 hm.2.1, mf_k18 hm.2.1, mf_z18 hm.2.1, mf_r19 hm.2.1, mf_k19 hm.2.1, mf_z19 hm.2.1, mf_r20 hm.2.1, mf_k20 hm.2.1, mf_z20 hm.2.1, mf_r21 hm.2.1, mf_k21 hm.2.1, mf_z21 hm.2.1, mf_r22 hm.2.1, mf_k22 hm.2.1, mf_z22 hm.2.1, mf_r23 hm.2.1, mf_k23 hm.2.1, mf_z23 hm.2.1, mf_r24 hm.2.1, mf_k24 hm.2.1, mf_z24 hm.2.1, mf_r25 hm.2.1, mf_k25 hm.2.1, mf_z25 hm.2.1, mf_r26 hm.2.1, mf_k26 hm.2.1, mf_z26 hm.2.1, mf_r27 hm.2.1, mf_k27 hm.2.1, mf_z27 hm.2.1, mf_r28 hm.2.1, mf_k28 hm.2.1, mf_z28 hm.2.1, mf_r29 hm.2.1, mf_k29 hm.2.1, mf_z29 hm.2.1, mf_r30 hm.2.1, mf_k30 hm.2.1, mf_z30 hm.2.1, mf_r31 hm.2.1, mf_k31 hm.2.1, mf_z31 hm.2.1, mf_r32 hm.2.1, mf_k32 hm.2.1, mf_z32 hm.2.1, mf_r33 hm.2.1, mf_k33 hm.2.1, mf_z33 hm.2.1, mf_r34 hm.2.1, mf_k34 hm.2.1, mf_z34 hm.2.1, mf_r35 hm.2.1, mf_k35 hm.2.1, mf_z35 hm.2.1, mf_r36 hm.2.1, mf_k36 hm.2.1, mf_z36 hm.2.1, hm.2.2.1, hm.2.2.2, w_nn (a := i) (by omega), show ¬ 6 ≤ i by omega, w_tc (a := i) (by omega), w_nn (a := u) (by omega), show ¬ 6 ≤ u by omega, w_tc (a := u) (by omega), hU5, E_240_2, E_240_3, w_inc, mNext hm hR hi hd (hsp i hi)]
    rw [if_neg (by rw [w_le (by omega) (by omega)]; omega)]
    rcases haim with z | ⟨b9, hb9, z⟩
    · simp only [z, if_true, show (-1 : Int32) < 0 by decide]
    · simp only [z, w_m1 (a := b9) (by omega), w_nn (a := b9) (by omega), if_false]
      by_cases c1 : J (m + 5) i = J (m + 5) u
      · by_cases c2 : q_ai D P (J (m + 5)) d i = w b9
        · have c3 : q_aim D P (J (m + 5)) i (w d) = w b9 := c2
          simp only [c1, c2, c3, if_true, and_self]
        · have c3 : ¬ q_aim D P (J (m + 5)) i (w d) = w b9 := c2
          simp only [c1, c2, c3, if_true, if_false, false_and]
      · simp only [c1, if_false, and_false]
  · show jd 240 1 [_, _, _, _, _, some (.int (w U))] [] _ = _
    rw [E_240_1]
    simp only [q_i, q_l, q_k, q_r, q_z, q_si, q_sl, jx_lt, jx_ri, jx_rl, jx_rv, if_true, if_false, Nat.reduceLeDiff, Nat.add_one_ne_zero, and_self, true_or, or_true, Nat.reduceEqDiff, or_self, or_false, false_or, mo_k hm.1, mo_r5 hm.1, mo_k5 hm.1, mo_z5 hm.1, mo_r16 hm.1, mo_k16 hm.1, mo_z16 hm.1, mo_r17 hm.1, mo_k17 hm.1, mo_z17 hm.1, mo_r18 hm.1, mo_k18 hm.1, mo_z18 hm.1, mo_r21 hm.1, mo_k21 hm.1, mo_z21 hm.1, mo_r22 hm.1, mo_k22 hm.1, mo_z22 hm.1, mo_r23 hm.1, mo_k23 hm.1, mo_z23 hm.1, mo_r24 hm.1, mo_k24 hm.1, mo_z24 hm.1, mo_r25 hm.1, mo_k25 hm.1, mo_z25 hm.1, mo_r26 hm.1, mo_k26 hm.1, mo_z26 hm.1, mo_r27 hm.1, mo_k27 hm.1, mo_z27 hm.1, mo_r29 hm.1, mo_k29 hm.1, mo_z29 hm.1, mo_r30 hm.1, mo_k30 hm.1, mo_z30 hm.1, mo_r31 hm.1, mo_k31 hm.1, mo_z31 hm.1, mo_r32 hm.1, mo_k32 hm.1, mo_z32 hm.1, mo_r40 hm.1, mo_k40 hm.1, mo_z40 hm.1, mo_r43 hm.1, mo_k43 hm.1, mo_z43 hm.1, mo_r44 hm.1, mo_k44 hm.1, mo_z44 hm.1, mf_k hm.2.1, mf_r14 hm.2.1, mf_k14 hm.2.1, mf_z14 hm.2.1, mf_r15 hm.2.1, mf_k15 hm.2.1, mf_z15 hm.2.1, mf_r16 hm.2.1, mf_k16 hm.2.1, mf_z16 hm.2.1, mf_r17 hm.2.1, mf_k17 hm.2.1, mf_z17 hm.2.1, mf_r18 hm.2.1, mf_k18 hm.2.1, mf_z18 hm.2.1, mf_r19 hm.2.1, mf_k19 hm.2.1, mf_z19 hm.2.1, mf_r20 hm.2.1, mf_k20 hm.2.1, mf_z20 hm.2.1, mf_r21 hm.2.1, mf_k21 hm.2.1, mf_z21 hm.2.1, mf_r22 hm.2.1, mf_k22 hm.2.1, mf_z22 hm.2.1, mf_r23 hm.2.1, mf_k23 hm.2.1, mf_z23 hm.2.1, mf_r24 hm.2.1, mf_k24 hm.2.1, mf_z24 hm.2.1, mf_r25 hm.2.1, mf_k25 hm.2.1, mf_z25 hm.2.1, mf_r26 hm.2.1, mf_k26 hm.2.1, mf_z26 hm.2.1, mf_r27 hm.2.1, mf_k27 hm.2.1, mf_z27 hm.2.1, mf_r28 hm.2.1, mf_k28 hm.2.1, mf_z28 hm.2.1, mf_r29 hm.2.1, mf_k29 hm.2.1, mf_z29 hm.2.1, mf_r30 hm.2.1, mf_k30 hm.2.1, mf_z30 hm.2.1, mf_r31 hm.2.1, mf_k31 hm.2.1, mf_z31 hm.2.1, mf_r32 hm.2.1, mf_k32 hm.2.1, mf_z32 hm.2.1, mf_r33 hm.2.1, mf_k33 hm.2.1, mf_z33 hm.2.1, mf_r34 hm.2.1, mf_k34 hm.2.1, mf_z34 hm.2.1, mf_r35 hm.2.1, mf_k35 hm.2.1, mf_z35 hm.2.1, mf_r36 hm.2.1, mf_k36 hm.2.1, mf_z36 hm.2.1, hm.2.2.1, hm.2.2.2, hU5, E_240_4]
    rw [if_pos (Int32.le_refl _)]
    by_cases c : q_ai D P (J (m + 5)) d u < 0
    · have hz : ∀ n, q_it (fun v b => b ||| (if q_ai D P (J (m + 5)) d u < 0 then 0 else if q_ai D P (J (m + 5)) d v = q_ai D P (J (m + 5)) d u ∧ J (m + 5) v = J (m + 5) u then (1 : Int32) <<< (w v &&& 31) else 0)) n 0 = 0 := by
        intro n
        induction n with
        | zero => rfl
        | succ n ih =>
          show q_it _ n 0 ||| _ = 0
          rw [ih, if_pos c]; rfl
      rw [hz, if_pos c]
    · simp only [c, if_false]
end MC
