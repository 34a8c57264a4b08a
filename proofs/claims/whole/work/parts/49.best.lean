/-! PAIRS OF CALLS with a flight: best days -/
theorem first_succ {D : Nat → Nat → Int32} {P : Nat → Int32} {U dn u n : Nat} : q_first D P U dn u (n + 1) = if w (q_by D P U dn u n) ≤ (q_first D P U dn u n).2 then q_first D P U dn u n else (n, w (q_by D P U dn u n)) := rfl
theorem first_snd {D : Nat → Nat → Int32} {P : Nat → Int32} {U dn u : Nat} (hU : U ≤ 6) : ∀ n, 0 < n → (q_first D P U dn u n).2 = w (q_by D P U dn u (q_first D P U dn u n).1) ∧ (q_first D P U dn u n).1 < n := by
  intro n
  induction n with
  | zero => exact fun h => absurd h (Nat.lt_irrefl _)
  | succ n ih =>
    intro _
    rw [first_succ]
    by_cases c : w (q_by D P U dn u n) ≤ (q_first D P U dn u n).2
    · rw [if_pos c]
      by_cases h0 : n = 0
      · subst h0
        exfalso
        have hle : q_by D P U dn u 0 ≤ 6 := by
          unfold q_by
          obtain ⟨N, hN, hN9, -⟩ := arr_mask (D := D) (sp := (q_Y D (q_set P (6 + u) (w 0)) U (-1) dn).1) hU
          rw [hN, w_tc (by omega)]
          exact pop_le N hN9
        exact w_nn (a := q_by D P U dn u 0) (by omega) (Int32.lt_of_le_of_lt c m1_lt)
      · have := ih (by omega)
        exact ⟨this.1, by omega⟩
    · rw [if_neg c]
      exact ⟨rfl, Nat.lt_succ_self n⟩
theorem set_set {f : Nat → Int32} {k : Nat} {x y : Int32} : q_set (q_set f k x) k y = q_set f k y := by
  funext j
  unfold q_set
  by_cases c : j = k
  · rw [if_pos c, if_pos c]
  · rw [if_neg c, if_neg c, if_neg c]
theorem set_self {f : Nat → Int32} {k : Nat} : q_set f k (f k) = f := by
  funext j
  unfold q_set
  by_cases c : j = k
  · rw [if_pos c, c]
  · rw [if_neg c]
/-- another day on both sides -/
theorem tie_day {J J' : qI} {m f : Nat} {D : Nat → Nat → Int32} {P : Nat → Int32} {U S dn R O W u d : Nat} (h : qTie J m f D P U S dn R O W) (hu : u < U) (hd : d < dn) (h1 : qme J' f = qme J f) (h2 : J' (m + 2) = q_set (J (m + 2)) (6 + u) (w d)) : qTie J' m f D (q_set P (6 + u) (w d)) U S dn R O W := by
  have hU9 := h.1.1.2.1
  unfold qTie qMR at h ⊢
  rw [h1, h2]
  obtain ⟨⟨a1, a2, a3, a4⟩, a5, a6⟩ := h
  refine ⟨⟨a1, fun v hv => ⟨?_, ?_⟩, a3, ?_, fun v hv => ⟨?_, ?_, ?_⟩⟩, a5, a6⟩
  · by_cases c : v = u
    · subst c; exact Or.inr ⟨d, q_set_eq, hd⟩
    · rw [q_set_ne (by omega)]; exact (a2 v hv).1
  · rw [q_set_ne (by omega)]; exact (a2 v hv).2
  · rw [q_set_ne (by omega), q_set_ne (by omega)]; exact a4.1
  · rw [q_set_ne (by omega), q_set_ne (by omega)]; exact (a4.2 v hv).1
  · by_cases c : v = u
    · subst c; rw [q_set_eq, q_set_eq]
    · rw [q_set_ne (by omega), q_set_ne (by omega)]; exact (a4.2 v hv).2.1
  · intro g e6 hg
    obtain ⟨k, g', b1, b2, b3⟩ := (a4.2 v hv).2.2 g e6 hg
    refine ⟨k, g', by rw [q_set_ne (by omega)]; exact b1, by rw [q_set_ne (by omega)]; exact b2, fun i hi => by rw [q_set_ne (by omega)]; exact b3 i hi⟩
section BD
variable {I : qI} {L : qL} {s : qS} {t t' f U S dn R O W : Nat}
theorem mBest_eq (hm : qMF s 240 f) (hf : 260 ≤ f) {J : qI} {D : Nat → Nat → Int32} {P : Nat → Int32} (ht : qTie J 240 f D P U S dn R O W) {u : Nat} (hu : u < U) : ∃ K, jD 269 [.ref 240, .int (w u)] (J, L, s) = some (none, K, L, s) ∧ qFr J K ∧ K 100 = J 100 ∧ K 240 34 = w (q_first D P U dn u dn).1 ∧ K 240 35 = (q_first D P U dn u dn).2 := by
  have hU9 := ht.1.1.2.1
  have hdn := ht.1.1.2.2.2.2.2.1
  have hdn9 := ht.1.1.2.2.2.2.2.2.1
  have hS9 := ht.1.1.2.2.2.1
  -- what holds of the memory on the way
  obtain ⟨K, e, h1, h2, h3, h4⟩ := q_loopE (P := fun i (K : qI) => qFr (q_up J (240 + 2) (q_set (J (240 + 2)) (6 + u) (K (240 + 2) (6 + u)))) K ∧ K 100 = J 100 ∧ (0 < i → K 240 34 = w (q_first D P U dn u i).1) ∧ K 240 35 = (q_first D P U dn u i).2) (F := fun i K => jd 269 1 [some (.ref 240), some (.int (w u)), some (.int (J (240 + 2) (6 + u))), some (.int (w i)), none] [] (K, L, s)) (n := dn) (fun i K hi hK => by
    obtain ⟨h1, h2, h3, h4⟩ := hK
    have h242 : K (240 + 2) = q_set (J (240 + 2)) (6 + u) (K (240 + 2) (6 + u)) := by
      rw [h1.1 (240 + 2) (by unfold qSc; omega), q_up_eq]
      rw [q_set_eq]
    have hmeK : qme K f = qme J f := me_congr fun k hk => by rw [h1.1 (f + k) (by unfold qSc; omega), q_up_ne (by omega)]
    generalize hK1 : q_up K (240 + 2) (q_set (K (240 + 2)) (6 + u) (w i)) = K1
    have hme1 : qme K1 f = qme J f := by rw [← hmeK, ← hK1]; exact me_congr fun k hk => q_up_ne (by omega)
    have h242' : K1 (240 + 2) = q_set (J (240 + 2)) (6 + u) (w i) := by rw [← hK1, q_up_eq, h242, set_set]
    have ht1 := tie_day ht hu hi hme1 h242'
    have hK100 : K1 100 = J 100 := by rw [← hK1, q_up_ne (by decide)]; exact h2
    have hK240 : K1 240 = K 240 := by rw [← hK1, q_up_ne (by decide)]
    obtain ⟨xi, xl, xp, xs, xf, xa, xt, sd, e1, ⟨-, y2, -⟩, -⟩ := mYear_eq (L := L) (dr := 0) (sdc := -1) hm (by omega) ht1.1 (Or.inl ⟨rfl, rfl⟩)
    have ht2 := tie_mm (xi := xi) (xl := xl) (xp := xp) (xs := xs) (xf := xf) (xa := xa) (xt := xt) (sd := sd) (by omega) ht1
    have harr := mArr_eq (I := q_mm K1 240 xi xl xp xs xf xa xt sd) (L := L) hm ht2.1 (fun v hv => by
      rw [q_mm_xi, (y2 v hv).1]
      exact Y_at ht1.1.1 ht1.1.2.1 dn hdn9 v hv)
    rw [q_mm_xi, arr_congr (fun v hv => (y2 v hv).1)] at harr
    obtain ⟨N, hN, hN9, -⟩ := arr_mask (D := D) (sp := (q_Y D (q_set P (6 + u) (w i)) U (-1) dn).1) hU9
    have hb : q_by D P U dn u i = q_pop N := by unfold q_by; rw [hN, w_tc (by omega)]
    rw [hN] at harr
    have h0K : K f 0 = w dn := by
      have : qme K f 0 0 = qme J f 0 0 := by rw [hmeK]
      have h00 : J f 0 = w dn := tie_0 ht
      exact this.trans h00
    have h35 : q_mm K1 240 xi xl xp xs xf xa xt sd 240 35 = (q_first D P U dn u i).2 := by rw [q_mm_o, q_set_ne (by decide), hK240]; exact h4
    have hstart : jd 269 1 [some (.ref 240), some (.int (w u)), some (.int (J (240 + 2) (6 + u))), some (.int (w i)), none] [] (K, L, s) = if (q_first D P U dn u i).2 < w (q_pop N) then jd 269 2 [some (.ref 240), some (.int (w u)), some (.int (J (240 + 2) (6 + u))), some (.int (w i)), some (.int (w (q_pop N)))] [] (q_mm K1 240 xi xl xp xs xf xa xt sd, L, s) else jd 269 3 [some (.ref 240), some (.int (w u)), some (.int (J (240 + 2) (6 + u))), some (.int (w i)), none] [] (q_mm K1 240 xi xl xp xs xf xa xt sd, L, s) := by
      rw [E_269_1]
      simp only [show (6 : Int32) = w 6 from rfl, w_add, ↓reduceIte, q_i, q_l, q_k, q_r, q_z, q_si, q_sl, jx_lt, jx_ri, jx_rl, jx_rv, if_true, if_false, Nat.reduceLeDiff, Nat.add_one_ne_zero, and_self, true_or, or_true, Nat.reduceEqDiff, or_self, or_false, false_or, mo_k hm.1, mo_r5 hm.1, mo_k5 hm.1, mo_z5 hm.1, mo_r16 hm.1, mo_k16 hm.1, mo_z16 hm.1, mo_r17 hm.1, mo_k17 hm.1, mo_z17 hm.1, mo_r18 hm.1, mo_k18 hm.1, mo_z18 hm.1, mo_r21 hm.1, mo_k21 hm.1, mo_z21 hm.1, mo_r22 hm.1, mo_k22 hm.1, mo_z22 hm.1, mo_r23 hm.1, mo_k23 hm.1, mo_z23 hm.1, mo_r24 hm.1, mo_k24 hm.1, mo_z24 hm.1, mo_r25 hm.1, mo_k25 hm.1, mo_z25 hm.1, mo_r26 hm.1, mo_k26 hm.1, mo_z26 hm.1, mo_r27 hm.1, mo_k27 hm.1, mo_z27 hm.1, mo_r29 hm.1, mo_k29 hm.1, mo_z29 hm.1, mo_r30 hm.1, mo_k30 hm.1, mo_z30 hm.1, mo_r31 hm.1, mo_k31 hm.1, mo_z31 hm.1, mo_r32 hm.1, mo_k32 hm.1, mo_z32 hm.1, mo_r40 hm.1, mo_k40 hm.1, mo_z40 hm.1, mo_r43 hm.1, mo_k43 hm.1, mo_z43 hm.1, mo_r44 hm.1, mo_k44 hm.1, mo_z44 hm.1, mf_k hm.2.1, mf_r14 hm.2.1, mf_k14 hm.2.1, mf_z14 hm.2.1, mf_r15 hm.2.1, mf_k15 hm.2.1, mf_z15 hm.2.1, mf_r16 hm.2.1, mf_k16 hm.2.1, mf_z16 hm.2.1, mf_r17 hm.2.1, mf_k17 hm.2.1, mf_z17 hm.2.1, mf_r18 hm.2.1, mf_k18 hm.2.1, mf_z18 hm.2.1, mf_r19 hm.2.1, mf_k19 hm.2.1, mf_z19 hm.2.1, mf_r20 hm.2.1, mf_k20 hm.2.1, mf_z20 hm.2.1, mf_r21 hm.2.1, mf_k21 hm.2.1, mf_z21 hm.2.1, mf_r22 hm.2.1, mf_k22 hm.2.1, mf_z22 hm.2.1, mf_r23 hm.2.1, mf_k23 hm.2.1, mf_z23 hm.2.1, mf_r24 hm.2.1, mf_k24 hm.2.1, mf_z24 hm.2.1, mf_r25 hm.2.1, mf_k25 hm.2.1, mf_z25 hm.2.1, mf_r26 hm.2.1, mf_k26 hm.2.1, mf_z26 hm.2.1, mf_r27 hm.2.1, mf_k27 hm.2.1, mf_z27 hm.2.1, mf_r28 hm.2.1, mf_k28 hm.2.1, mf_z28 hm.2.1, mf_r29 hm.2.1, mf_k29 hm.2.1, mf_z29 hm.2.1, mf_r30 hm.2.1, mf_k30 hm.2.1, mf_z30 hm.2.1, mf_r31 hm.2.1, mf_k31 hm.2.1, mf_z31 hm.2.1, mf_r32 hm.2.1, mf_k32 hm.2.1, mf_z32 hm.2.1, mf_r33 hm.2.1, mf_k33 hm.2.1, mf_z33 hm.2.1, mf_r34 hm.2.1, mf_k34 hm.2.1, mf_z34 hm.2.1, mf_r35 hm.2.1, mf_k35 hm.2.1, mf_z35 hm.2.1, mf_r36 hm.2.1, mf_k36 hm.2.1, mf_z36 hm.2.1, hm.2.2.1, hm.2.2.2, h0K, w_nle hi (by omega), w_nn (a := 6 + u) (by omega), show ¬ 49 ≤ 6 + u by omega, w_tc (a := 6 + u) (by omega), hK1, e1, harr, bits_eq hN9, h35]
    have hfrK : ∀ K2 : qI, qFr (q_mm K1 240 xi xl xp xs xf xa xt sd) K2 → K2 (240 + 2) = K1 (240 + 2) → qFr (q_up J (240 + 2) (q_set (J (240 + 2)) (6 + u) (K2 (240 + 2) (6 + u)))) K2 := by
      intro K2 q1 q2
      have e9 : q_set (J (240 + 2)) (6 + u) (K2 (240 + 2) (6 + u)) = K1 (240 + 2) := by rw [q2, h242', q_set_eq]
      rw [e9]
      have hh1 := h1
      refine fr_trans ?_ q1
      have : qFr (q_up J (240 + 2) (K1 (240 + 2))) K1 := by
        obtain ⟨a1, ⟨a2, a3, a4⟩, a5, a6, a7, a8⟩ := h1
        refine ⟨fun a ha => ?_, ⟨?_, ?_, ?_⟩, ?_, ?_, ?_, ?_⟩
        · by_cases c : a = 240 + 2
          · subst c; rw [q_up_eq]
          · rw [q_up_ne c, ← hK1, q_up_ne c, a1 a ha, q_up_ne c]
        · rw [hK100, q_up_ne (by decide)]
        · rw [hK100, q_up_ne (by decide)]
        · rw [hK100, q_up_ne (by decide)]
        · rw [hK240, a5, q_up_ne (by decide), q_up_ne (by decide)]
        · rw [hK240, a6, q_up_ne (by decide), q_up_ne (by decide)]
        · rw [hK240, a7, q_up_ne (by decide), q_up_ne (by decide)]
        · rw [hK240, a8, q_up_ne (by decide), q_up_ne (by decide)]
      exact fr_trans this fr_mm
    have hmm2 : q_mm K1 240 xi xl xp xs xf xa xt sd (240 + 2) = K1 (240 + 2) := mm_v
    have hmm100 : q_mm K1 240 xi xl xp xs xf xa xt sd 100 = J 100 := by rw [q_mm_out (by omega)]; exact hK100
    show ∃ y, jd 269 1 _ _ _ = jd 269 1 _ _ _ ∧ _
    rw [hstart, first_succ, hb]
    by_cases c : w (q_pop N) ≤ (q_first D P U dn u i).2
    · rw [if_neg (Int32.not_lt.mpr c), if_pos c, E_269_3, w_inc]
      refine ⟨_, rfl, hfrK _ fr_refl hmm2, hmm100, fun _ => ?_, h35⟩
      have hi0 : 0 < i := by
        rcases Nat.eq_zero_or_pos i with z | z
        · subst z
          exact absurd (Int32.lt_of_le_of_lt c m1_lt) (w_nn (by have := pop_le N hN9; omega))
        · exact z
      rw [q_mm_o, q_set_ne (by decide), hK240]; exact h3 hi0
    · rw [if_pos (Int32.not_le.mp c), if_neg c, E_269_2]
      simp only [↓reduceIte, q_i, q_l, q_k, q_r, q_z, q_si, q_sl, jx_lt, jx_ri, jx_rl, jx_rv, if_true, if_false, Nat.reduceLeDiff, Nat.add_one_ne_zero, and_self, true_or, or_true, Nat.reduceEqDiff, or_self, or_false, false_or, mo_k hm.1, mo_r5 hm.1, mo_k5 hm.1, mo_z5 hm.1, mo_r16 hm.1, mo_k16 hm.1, mo_z16 hm.1, mo_r17 hm.1, mo_k17 hm.1, mo_z17 hm.1, mo_r18 hm.1, mo_k18 hm.1, mo_z18 hm.1, mo_r21 hm.1, mo_k21 hm.1, mo_z21 hm.1, mo_r22 hm.1, mo_k22 hm.1, mo_z22 hm.1, mo_r23 hm.1, mo_k23 hm.1, mo_z23 hm.1, mo_r24 hm.1, mo_k24 hm.1, mo_z24 hm.1, mo_r25 hm.1, mo_k25 hm.1, mo_z25 hm.1, mo_r26 hm.1, mo_k26 hm.1, mo_z26 hm.1, mo_r27 hm.1, mo_k27 hm.1, mo_z27 hm.1, mo_r29 hm.1, mo_k29 hm.1, mo_z29 hm.1, mo_r30 hm.1, mo_k30 hm.1, mo_z30 hm.1, mo_r31 hm.1, mo_k31 hm.1, mo_z31 hm.1, mo_r32 hm.1, mo_k32 hm.1, mo_z32 hm.1, mo_r40 hm.1, mo_k40 hm.1, mo_z40 hm.1, mo_r43 hm.1, mo_k43 hm.1, mo_z43 hm.1, mo_r44 hm.1, mo_k44 hm.1, mo_z44 hm.1, mf_k hm.2.1, mf_r14 hm.2.1, mf_k14 hm.2.1, mf_z14 hm.2.1, mf_r15 hm.2.1, mf_k15 hm.2.1, mf_z15 hm.2.1, mf_r16 hm.2.1, mf_k16 hm.2.1, mf_z16 hm.2.1, mf_r17 hm.2.1, mf_k17 hm.2.1, mf_z17 hm.2.1, mf_r18 hm.2.1, mf_k18 hm.2.1, mf_z18 hm.2.1, mf_r19 hm.2.1, mf_k19 hm.2.1, mf_z19 hm.2.1, mf_r20 hm.2.1, mf_k20 hm.2.1, mf_z20 hm.2.1, mf_r21 hm.2.1, mf_k21 hm.2.1, mf_z21 hm.2.1, mf_r22 hm.2.1, mf_k22 hm.2.1, mf_z22 hm.2.1, mf_r23 hm.2.1, mf_k23 hm.2.1, mf_z23 hm.2.1, mf_r24 hm.2.1, mf_k24 hm.2.1, mf_z24 hm.2.1, mf_r25 hm.2.1, mf_k25 hm.2.1, mf_z25 hm.2.1, mf_r26 hm.2.1, mf_k26 hm.2.1, mf_z26 hm.2.1, mf_r27 hm.2.1, mf_k27 hm.2.1, mf_z27 hm.2.1, mf_r28 hm.2.1, mf_k28 hm.2.1, mf_z28 hm.2.1, mf_r29 hm.2.1, mf_k29 hm.2.1, mf_z29 hm.2.1, mf_r30 hm.2.1, mf_k30 hm.2.1, mf_z30 hm.2.1, mf_r31 hm.2.1, mf_k31 hm.2.1, mf_z31 hm.2.1, mf_r32 hm.2.1, mf_k32 hm.2.1, mf_z32 hm.2.1, mf_r33 hm.2.1, mf_k33 hm.2.1, mf_z33 hm.2.1, mf_r34 hm.2.1, mf_k34 hm.2.1, mf_z34 hm.2.1, mf_r35 hm.2.1, mf_k35 hm.2.1, mf_z35 hm.2.1, mf_r36 hm.2.1, mf_k36 hm.2.1, mf_z36 hm.2.1, hm.2.2.1, hm.2.2.2, E_269_3, w_inc, q_up_up, q_up_eq]
      refine ⟨_, rfl, hfrK _ (fr_m ?_) ?_, ?_, fun _ => ?_, ?_⟩
      · simp [q_set]
      · rw [q_up_ne (by decide)]; exact hmm2
      · rw [q_up_ne (by decide)]; exact hmm100
      · rw [q_up_eq, q_set_eq]
      · rw [q_up_eq, q_set_ne (by decide), q_set_eq]) (q_up J 240 (q_set (J 240) 35 (-1))) (by
    refine ⟨?_, by rw [q_up_ne (by decide)], fun z => absurd z (Nat.lt_irrefl _), by rw [q_up_eq, q_set_eq]; rfl⟩
    rw [q_up_ne (show (240 + 2 : Nat) ≠ 240 by decide), set_self, q_up_self]
    exact fr_m (by simp [q_set]))
  have hme : ∀ a, J (240 + 2) a = J (240 + 2) a := fun _ => rfl
  have h242 : K (240 + 2) = q_set (J (240 + 2)) (6 + u) (K (240 + 2) (6 + u)) := by
    rw [h1.1 (240 + 2) (by unfold qSc; omega), q_up_eq, q_set_eq]
  have hmeK : qme K f = qme J f := me_congr fun k hk => by rw [h1.1 (f + k) (by unfold qSc; omega), q_up_ne (by omega)]
  have h0K : K f 0 = w dn := by
    have : qme K f 0 0 = qme J f 0 0 := by rw [hmeK]
    have h00 : J f 0 = w dn := tie_0 ht
    exact this.trans h00
  refine ⟨q_up K (240 + 2) (q_set (K (240 + 2)) (6 + u) (J (240 + 2) (6 + u))), ?_, ?_, by rw [q_up_ne (by decide)]; exact h2, by rw [q_up_ne (by decide)]; exact h3 hdn, by rw [q_up_ne (by decide)]; exact h4⟩
  · rw [D_269, E_269_0]
    simp only [show (6 : Int32) = w 6 from rfl, w_add, ↓reduceIte, q_i, q_l, q_k, q_r, q_z, q_si, q_sl, jx_lt, jx_ri, jx_rl, jx_rv, if_true, if_false, Nat.reduceLeDiff, Nat.add_one_ne_zero, and_self, true_or, or_true, Nat.reduceEqDiff, or_self, or_false, false_or, mo_k hm.1, mo_r5 hm.1, mo_k5 hm.1, mo_z5 hm.1, mo_r16 hm.1, mo_k16 hm.1, mo_z16 hm.1, mo_r17 hm.1, mo_k17 hm.1, mo_z17 hm.1, mo_r18 hm.1, mo_k18 hm.1, mo_z18 hm.1, mo_r21 hm.1, mo_k21 hm.1, mo_z21 hm.1, mo_r22 hm.1, mo_k22 hm.1, mo_z22 hm.1, mo_r23 hm.1, mo_k23 hm.1, mo_z23 hm.1, mo_r24 hm.1, mo_k24 hm.1, mo_z24 hm.1, mo_r25 hm.1, mo_k25 hm.1, mo_z25 hm.1, mo_r26 hm.1, mo_k26 hm.1, mo_z26 hm.1, mo_r27 hm.1, mo_k27 hm.1, mo_z27 hm.1, mo_r29 hm.1, mo_k29 hm.1, mo_z29 hm.1, mo_r30 hm.1, mo_k30 hm.1, mo_z30 hm.1, mo_r31 hm.1, mo_k31 hm.1, mo_z31 hm.1, mo_r32 hm.1, mo_k32 hm.1, mo_z32 hm.1, mo_r40 hm.1, mo_k40 hm.1, mo_z40 hm.1, mo_r43 hm.1, mo_k43 hm.1, mo_z43 hm.1, mo_r44 hm.1, mo_k44 hm.1, mo_z44 hm.1, mf_k hm.2.1, mf_r14 hm.2.1, mf_k14 hm.2.1, mf_z14 hm.2.1, mf_r15 hm.2.1, mf_k15 hm.2.1, mf_z15 hm.2.1, mf_r16 hm.2.1, mf_k16 hm.2.1, mf_z16 hm.2.1, mf_r17 hm.2.1, mf_k17 hm.2.1, mf_z17 hm.2.1, mf_r18 hm.2.1, mf_k18 hm.2.1, mf_z18 hm.2.1, mf_r19 hm.2.1, mf_k19 hm.2.1, mf_z19 hm.2.1, mf_r20 hm.2.1, mf_k20 hm.2.1, mf_z20 hm.2.1, mf_r21 hm.2.1, mf_k21 hm.2.1, mf_z21 hm.2.1, mf_r22 hm.2.1, mf_k22 hm.2.1, mf_z22 hm.2.1, mf_r23 hm.2.1, mf_k23 hm.2.1, mf_z23 hm.2.1, mf_r24 hm.2.1, mf_k24 hm.2.1, mf_z24 hm.2.1, mf_r25 hm.2.1, mf_k25 hm.2.1, mf_z25 hm.2.1, mf_r26 hm.2.1, mf_k26 hm.2.1, mf_z26 hm.2.1, mf_r27 hm.2.1, mf_k27 hm.2.1, mf_z27 hm.2.1, mf_r28 hm.2.1, mf_k28 hm.2.1, mf_z28 hm.2.1, mf_r29 hm.2.1, mf_k29 hm.2.1, mf_z29 hm.2.1, mf_r30 hm.2.1, mf_k30 hm.2.1, mf_z30 hm.2.1, mf_r31 hm.2.1, mf_k31 hm.2.1, mf_z31 hm.2.1, mf_r32 hm.2.1, mf_k32 hm.2.1, mf_z32 hm.2.1, mf_r33 hm.2.1, mf_k33 hm.2.1, mf_z33 hm.2.1, mf_r34 hm.2.1, mf_k34 hm.2.1, mf_z34 hm.2.1, mf_r35 hm.2.1, mf_k35 hm.2.1, mf_z35 hm.2.1, mf_r36 hm.2.1, mf_k36 hm.2.1, mf_z36 hm.2.1, hm.2.2.1, hm.2.2.2, w_nn (a := 6 + u) (by omega), show ¬ 49 ≤ 6 + u by omega, w_tc (a := 6 + u) (by omega)]
    refine Eq.trans e ?_
    show jd 269 1 _ _ _ = _
    rw [E_269_1]
    simp only [show (6 : Int32) = w 6 from rfl, w_add, ↓reduceIte, q_i, q_l, q_k, q_r, q_z, q_si, q_sl, jx_lt, jx_ri, jx_rl, jx_rv, if_true, if_false, Nat.reduceLeDiff, Nat.add_one_ne_zero, and_self, true_or, or_true, Nat.reduceEqDiff, or_self, or_false, false_or, mo_k hm.1, mo_r5 hm.1, mo_k5 hm.1, mo_z5 hm.1, mo_r16 hm.1, mo_k16 hm.1, mo_z16 hm.1, mo_r17 hm.1, mo_k17 hm.1, mo_z17 hm.1, mo_r18 hm.1, mo_k18 hm.1, mo_z18 hm.1, mo_r21 hm.1, mo_k21 hm.1, mo_z21 hm.1, mo_r22 hm.1, mo_k22 hm.1, mo_z22 hm.1, mo_r23 hm.1, mo_k23 hm.1, mo_z23 hm.1, mo_r24 hm.1, mo_k24 hm.1, mo_z24 hm.1, mo_r25 hm.1, mo_k25 hm.1, mo_z25 hm.1, mo_r26 hm.1, mo_k26 hm.1, mo_z26 hm.1, mo_r27 hm.1, mo_k27 hm.1, mo_z27 hm.1, mo_r29 hm.1, mo_k29 hm.1, mo_z29 hm.1, mo_r30 hm.1, mo_k30 hm.1, mo_z30 hm.1, mo_r31 hm.1, mo_k31 hm.1, mo_z31 hm.1, mo_r32 hm.1, mo_k32 hm.1, mo_z32 hm.1, mo_r40 hm.1, mo_k40 hm.1, mo_z40 hm.1, mo_r43 hm.1, mo_k43 hm.1, mo_z43 hm.1, mo_r44 hm.1, mo_k44 hm.1, mo_z44 hm.1, mf_k hm.2.1, mf_r14 hm.2.1, mf_k14 hm.2.1, mf_z14 hm.2.1, mf_r15 hm.2.1, mf_k15 hm.2.1, mf_z15 hm.2.1, mf_r16 hm.2.1, mf_k16 hm.2.1, mf_z16 hm.2.1, mf_r17 hm.2.1, mf_k17 hm.2.1, mf_z17 hm.2.1, mf_r18 hm.2.1, mf_k18 hm.2.1, mf_z18 hm.2.1, mf_r19 hm.2.1, mf_k19 hm.2.1, mf_z19 hm.2.1, mf_r20 hm.2.1, mf_k20 hm.2.1, mf_z20 hm.2.1, mf_r21 hm.2.1, mf_k21 hm.2.1, mf_z21 hm.2.1, mf_r22 hm.2.1, mf_k22 hm.2.1, mf_z22 hm.2.1, mf_r23 hm.2.1, mf_k23 hm.2.1, mf_z23 hm.2.1, mf_r24 hm.2.1, mf_k24 hm.2.1, mf_z24 hm.2.1, mf_r25 hm.2.1, mf_k25 hm.2.1, mf_z25 hm.2.1, mf_r26 hm.2.1, mf_k26 hm.2.1, mf_z26 hm.2.1, mf_r27 hm.2.1, mf_k27 hm.2.1, mf_z27 hm.2.1, mf_r28 hm.2.1, mf_k28 hm.2.1, mf_z28 hm.2.1, mf_r29 hm.2.1, mf_k29 hm.2.1, mf_z29 hm.2.1, mf_r30 hm.2.1, mf_k30 hm.2.1, mf_z30 hm.2.1, mf_r31 hm.2.1, mf_k31 hm.2.1, mf_z31 hm.2.1, mf_r32 hm.2.1, mf_k32 hm.2.1, mf_z32 hm.2.1, mf_r33 hm.2.1, mf_k33 hm.2.1, mf_z33 hm.2.1, mf_r34 hm.2.1, mf_k34 hm.2.1, mf_z34 hm.2.1, mf_r35 hm.2.1, mf_k35 hm.2.1, mf_z35 hm.2.1, mf_r36 hm.2.1, mf_k36 hm.2.1, mf_z36 hm.2.1, hm.2.2.1, hm.2.2.2, h0K, Int32.le_refl, E_269_4, w_nn (a := 6 + u) (by omega), show ¬ 49 ≤ 6 + u by omega, w_tc (a := 6 + u) (by omega)]
  · obtain ⟨a1, ⟨a2, a3, a4⟩, a5, a6, a7, a8⟩ := h1
    refine ⟨fun a ha => ?_, ⟨?_, ?_, ?_⟩, ?_, ?_, ?_, ?_⟩
    · by_cases c : a = 240 + 2
      · subst c; rw [q_up_eq, h242, set_set, set_self]
      · rw [q_up_ne c, a1 a ha, q_up_ne c]
    · rw [q_up_ne (by decide), h2]
    · rw [q_up_ne (by decide), h2]
    · rw [q_up_ne (by decide), h2]
    · rw [q_up_ne (by decide), a5, q_up_ne (by decide)]
    · rw [q_up_ne (by decide), a6, q_up_ne (by decide)]
    · rw [q_up_ne (by decide), a7, q_up_ne (by decide)]
    · rw [q_up_ne (by decide), a8, q_up_ne (by decide)]
theorem noFlier_u (hx : qXo s t t') (hU : qd I t 0 5 = w U) (hU9 : U ≤ 6) {u : Nat} (hu : u < U) (r : Int32) (h : (I (188 + 2) (6 + u) = -2 ∧ r = 6) ∨ ∃ d, I (188 + 2) (6 + u) = w d ∧ d < 20 ∧ r = 0) : jD 174 [.ref 100, .int (w u)] (I, L, s) = some (some (.int r), I, L, s) := by
  rcases h with ⟨h1, h2⟩ | ⟨d, h1, h3, h2⟩
  · simp only [D_174, E_174_0, E_174_1, E_174_2, E_174_3, ↓reduceIte, q_i, q_l, q_k, q_r, q_z, q_si, q_sl, jx_lt, jx_ri, jx_rl, jx_rv, if_true, if_false, Nat.reduceLeDiff, Nat.add_one_ne_zero, and_self, true_or, or_true, Nat.reduceEqDiff, or_self, or_false, false_or, xo_k hx, xo_r0 hx, xo_r1 hx, xo_r2 hx, xo_r3 hx, xo_r4 hx, xo_r5 hx, xo_r6 hx, xo_r7 hx, xo_r8 hx, xo_r9 hx, xo_r10 hx, xo_r11 hx, xo_ka hx, xo_ra0 hx, xo_ra1 hx, xo_ko hx, xo_ro0 hx, xo_ro1 hx, xo_kf hx, xo_rf0 hx, xo_kh hx, xo_rh0 hx, xo_ke hx, xo_re0 hx, xo_re1 hx, xo_kn hx, xo_zn hx, xo_re2 hx, xo_re3 hx, xo_kt hx, xo_rt0 hx, xo_t0 hx, (xo_ft hx).1, (xo_now hx).1, (xo_now hx).2.1, (xo_now hx).2.2.1, (xo_try hx).1, (xo_yr hx).1.1, (xo_ty hx).1, answered_eq hx, refused_eq hx, show ¬ (1 : Int32) = 0 by decide, Nat.reduceLT, isUmb_y hx hU hU9 hu, setsOutOf_eq (xo_now hx), show (6 : Int32) = w 6 from rfl, w_add, q_at_w (n := 19) (k := 6 + u) (by omega) (by omega), h1, show ¬ (0 : Int32) ≤ -2 by decide, h2]
  · simp only [D_174, E_174_0, E_174_1, E_174_2, E_174_3, ↓reduceIte, q_i, q_l, q_k, q_r, q_z, q_si, q_sl, jx_lt, jx_ri, jx_rl, jx_rv, if_true, if_false, Nat.reduceLeDiff, Nat.add_one_ne_zero, and_self, true_or, or_true, Nat.reduceEqDiff, or_self, or_false, false_or, xo_k hx, xo_r0 hx, xo_r1 hx, xo_r2 hx, xo_r3 hx, xo_r4 hx, xo_r5 hx, xo_r6 hx, xo_r7 hx, xo_r8 hx, xo_r9 hx, xo_r10 hx, xo_r11 hx, xo_ka hx, xo_ra0 hx, xo_ra1 hx, xo_ko hx, xo_ro0 hx, xo_ro1 hx, xo_kf hx, xo_rf0 hx, xo_kh hx, xo_rh0 hx, xo_ke hx, xo_re0 hx, xo_re1 hx, xo_kn hx, xo_zn hx, xo_re2 hx, xo_re3 hx, xo_kt hx, xo_rt0 hx, xo_t0 hx, (xo_ft hx).1, (xo_now hx).1, (xo_now hx).2.1, (xo_now hx).2.2.1, (xo_try hx).1, (xo_yr hx).1.1, (xo_ty hx).1, answered_eq hx, refused_eq hx, show ¬ (1 : Int32) = 0 by decide, Nat.reduceLT, isUmb_y hx hU hU9 hu, setsOutOf_eq (xo_now hx), show (6 : Int32) = w 6 from rfl, w_add, q_at_w (n := 19) (k := 6 + u) (by omega) (by omega), h1, show (0 : Int32) ≤ w d from Int32.not_lt.mp (w_nn (by omega)), h2]
theorem mBestR_u (hm : qMF s 240 f) {J : qI} (h5 : J f 5 = w U) (hU9 : U ≤ 6) {u : Nat} (hu : u < U) (r : Int32) (h : (J (240 + 2) (6 + u) = -2 ∧ r = 6) ∨ ∃ d, J (240 + 2) (6 + u) = w d ∧ d < 20 ∧ r = 0) : jD 268 [.ref 240, .int (w u)] (J, L, s) = some (some (.int r), J, L, s) := by
  rcases h with ⟨h1, h2⟩ | ⟨d, h1, h3, h2⟩
  · simp only [D_268, E_268_0, E_268_1, E_268_2, E_268_3, ↓reduceIte, q_i, q_l, q_k, q_r, q_z, q_si, q_sl, jx_lt, jx_ri, jx_rl, jx_rv, if_true, if_false, Nat.reduceLeDiff, Nat.add_one_ne_zero, and_self, true_or, or_true, Nat.reduceEqDiff, or_self, or_false, false_or, mo_k hm.1, mo_r5 hm.1, mo_k5 hm.1, mo_z5 hm.1, mo_r16 hm.1, mo_k16 hm.1, mo_z16 hm.1, mo_r17 hm.1, mo_k17 hm.1, mo_z17 hm.1, mo_r18 hm.1, mo_k18 hm.1, mo_z18 hm.1, mo_r21 hm.1, mo_k21 hm.1, mo_z21 hm.1, mo_r22 hm.1, mo_k22 hm.1, mo_z22 hm.1, mo_r23 hm.1, mo_k23 hm.1, mo_z23 hm.1, mo_r24 hm.1, mo_k24 hm.1, mo_z24 hm.1, mo_r25 hm.1, mo_k25 hm.1, mo_z25 hm.1, mo_r26 hm.1, mo_k26 hm.1, mo_z26 hm.1, mo_r27 hm.1, mo_k27 hm.1, mo_z27 hm.1, mo_r29 hm.1, mo_k29 hm.1, mo_z29 hm.1, mo_r30 hm.1, mo_k30 hm.1, mo_z30 hm.1, mo_r31 hm.1, mo_k31 hm.1, mo_z31 hm.1, mo_r32 hm.1, mo_k32 hm.1, mo_z32 hm.1, mo_r40 hm.1, mo_k40 hm.1, mo_z40 hm.1, mo_r43 hm.1, mo_k43 hm.1, mo_z43 hm.1, mo_r44 hm.1, mo_k44 hm.1, mo_z44 hm.1, mf_k hm.2.1, mf_r14 hm.2.1, mf_k14 hm.2.1, mf_z14 hm.2.1, mf_r15 hm.2.1, mf_k15 hm.2.1, mf_z15 hm.2.1, mf_r16 hm.2.1, mf_k16 hm.2.1, mf_z16 hm.2.1, mf_r17 hm.2.1, mf_k17 hm.2.1, mf_z17 hm.2.1, mf_r18 hm.2.1, mf_k18 hm.2.1, mf_z18 hm.2.1, mf_r19 hm.2.1, mf_k19 hm.2.1, mf_z19 hm.2.1, mf_r20 hm.2.1, mf_k20 hm.2.1, mf_z20 hm.2.1, mf_r21 hm.2.1, mf_k21 hm.2.1, mf_z21 hm.2.1, mf_r22 hm.2.1, mf_k22 hm.2.1, mf_z22 hm.2.1, mf_r23 hm.2.1, mf_k23 hm.2.1, mf_z23 hm.2.1, mf_r24 hm.2.1, mf_k24 hm.2.1, mf_z24 hm.2.1, mf_r25 hm.2.1, mf_k25 hm.2.1, mf_z25 hm.2.1, mf_r26 hm.2.1, mf_k26 hm.2.1, mf_z26 hm.2.1, mf_r27 hm.2.1, mf_k27 hm.2.1, mf_z27 hm.2.1, mf_r28 hm.2.1, mf_k28 hm.2.1, mf_z28 hm.2.1, mf_r29 hm.2.1, mf_k29 hm.2.1, mf_z29 hm.2.1, mf_r30 hm.2.1, mf_k30 hm.2.1, mf_z30 hm.2.1, mf_r31 hm.2.1, mf_k31 hm.2.1, mf_z31 hm.2.1, mf_r32 hm.2.1, mf_k32 hm.2.1, mf_z32 hm.2.1, mf_r33 hm.2.1, mf_k33 hm.2.1, mf_z33 hm.2.1, mf_r34 hm.2.1, mf_k34 hm.2.1, mf_z34 hm.2.1, mf_r35 hm.2.1, mf_k35 hm.2.1, mf_z35 hm.2.1, mf_r36 hm.2.1, mf_k36 hm.2.1, mf_z36 hm.2.1, hm.2.2.1, hm.2.2.2, q_mZ, mgood_eq hm.1, mrefused_eq hm.1, show ¬ (1 : Int32) = 0 by decide, show ¬ (1 : Int32) ≤ 0 by decide, show ¬ (2 : Int32) ≤ 0 by decide, show ¬ (6 : Int32) ≤ 0 by decide, show (0 : Int32) ≤ 0 by decide, mUmb_y hm h5 hU9 hu, show (6 : Int32) = w 6 from rfl, w_add, w_nn (a := 6 + u) (by omega), show ¬ 49 ≤ 6 + u by omega, w_tc (a := 6 + u) (by omega), h1, h2]
  · simp only [D_268, E_268_0, E_268_1, E_268_2, E_268_3, ↓reduceIte, q_i, q_l, q_k, q_r, q_z, q_si, q_sl, jx_lt, jx_ri, jx_rl, jx_rv, if_true, if_false, Nat.reduceLeDiff, Nat.add_one_ne_zero, and_self, true_or, or_true, Nat.reduceEqDiff, or_self, or_false, false_or, mo_k hm.1, mo_r5 hm.1, mo_k5 hm.1, mo_z5 hm.1, mo_r16 hm.1, mo_k16 hm.1, mo_z16 hm.1, mo_r17 hm.1, mo_k17 hm.1, mo_z17 hm.1, mo_r18 hm.1, mo_k18 hm.1, mo_z18 hm.1, mo_r21 hm.1, mo_k21 hm.1, mo_z21 hm.1, mo_r22 hm.1, mo_k22 hm.1, mo_z22 hm.1, mo_r23 hm.1, mo_k23 hm.1, mo_z23 hm.1, mo_r24 hm.1, mo_k24 hm.1, mo_z24 hm.1, mo_r25 hm.1, mo_k25 hm.1, mo_z25 hm.1, mo_r26 hm.1, mo_k26 hm.1, mo_z26 hm.1, mo_r27 hm.1, mo_k27 hm.1, mo_z27 hm.1, mo_r29 hm.1, mo_k29 hm.1, mo_z29 hm.1, mo_r30 hm.1, mo_k30 hm.1, mo_z30 hm.1, mo_r31 hm.1, mo_k31 hm.1, mo_z31 hm.1, mo_r32 hm.1, mo_k32 hm.1, mo_z32 hm.1, mo_r40 hm.1, mo_k40 hm.1, mo_z40 hm.1, mo_r43 hm.1, mo_k43 hm.1, mo_z43 hm.1, mo_r44 hm.1, mo_k44 hm.1, mo_z44 hm.1, mf_k hm.2.1, mf_r14 hm.2.1, mf_k14 hm.2.1, mf_z14 hm.2.1, mf_r15 hm.2.1, mf_k15 hm.2.1, mf_z15 hm.2.1, mf_r16 hm.2.1, mf_k16 hm.2.1, mf_z16 hm.2.1, mf_r17 hm.2.1, mf_k17 hm.2.1, mf_z17 hm.2.1, mf_r18 hm.2.1, mf_k18 hm.2.1, mf_z18 hm.2.1, mf_r19 hm.2.1, mf_k19 hm.2.1, mf_z19 hm.2.1, mf_r20 hm.2.1, mf_k20 hm.2.1, mf_z20 hm.2.1, mf_r21 hm.2.1, mf_k21 hm.2.1, mf_z21 hm.2.1, mf_r22 hm.2.1, mf_k22 hm.2.1, mf_z22 hm.2.1, mf_r23 hm.2.1, mf_k23 hm.2.1, mf_z23 hm.2.1, mf_r24 hm.2.1, mf_k24 hm.2.1, mf_z24 hm.2.1, mf_r25 hm.2.1, mf_k25 hm.2.1, mf_z25 hm.2.1, mf_r26 hm.2.1, mf_k26 hm.2.1, mf_z26 hm.2.1, mf_r27 hm.2.1, mf_k27 hm.2.1, mf_z27 hm.2.1, mf_r28 hm.2.1, mf_k28 hm.2.1, mf_z28 hm.2.1, mf_r29 hm.2.1, mf_k29 hm.2.1, mf_z29 hm.2.1, mf_r30 hm.2.1, mf_k30 hm.2.1, mf_z30 hm.2.1, mf_r31 hm.2.1, mf_k31 hm.2.1, mf_z31 hm.2.1, mf_r32 hm.2.1, mf_k32 hm.2.1, mf_z32 hm.2.1, mf_r33 hm.2.1, mf_k33 hm.2.1, mf_z33 hm.2.1, mf_r34 hm.2.1, mf_k34 hm.2.1, mf_z34 hm.2.1, mf_r35 hm.2.1, mf_k35 hm.2.1, mf_z35 hm.2.1, mf_r36 hm.2.1, mf_k36 hm.2.1, mf_z36 hm.2.1, hm.2.2.1, hm.2.2.2, q_mZ, mgood_eq hm.1, mrefused_eq hm.1, show ¬ (1 : Int32) = 0 by decide, show ¬ (1 : Int32) ≤ 0 by decide, show ¬ (2 : Int32) ≤ 0 by decide, show ¬ (6 : Int32) ≤ 0 by decide, show (0 : Int32) ≤ 0 by decide, mUmb_y hm h5 hU9 hu, show (6 : Int32) = w 6 from rfl, w_add, w_nn (a := 6 + u) (by omega), show ¬ 49 ≤ 6 + u by omega, w_tc (a := 6 + u) (by omega), h1, w_m2 (a := d) (by omega), h2]
theorem p_bestDay (h : qH1 I s t t' f U S dn R O W) (a : Int32) : qAns I L s 135 [.ref 100, .int a] 270 [.ref 240, .int a] := by
  obtain ⟨hU, hU9⟩ := h1_U h
  obtain ⟨hd, hdn, hd9⟩ := h1_d h
  obtain ⟨hx, hm, hf, hT⟩ := id h
  have hZ := h1_Z h
  rcases small_or a (n := U) (by omega) with ⟨u, hu, rfl⟩ | ca
  · rcases (hT.1.2.1 u hu).1 with z | ⟨d, z, hdd⟩
    · refine ans_T (v := .int (-1)) (r := 6) (J := mZ (cT I 6) 240) ?_ ?_ fr_mZ fr_x13 (by decide)
      · simp only [D_135, E_135_0, E_135_2, ↓reduceIte, q_i, q_l, q_k, q_r, q_z, q_si, q_sl, jx_lt, jx_ri, jx_rl, jx_rv, if_true, if_false, Nat.reduceLeDiff, Nat.add_one_ne_zero, and_self, true_or, or_true, Nat.reduceEqDiff, or_self, or_false, false_or, xo_k hx, xo_r0 hx, xo_r1 hx, xo_r2 hx, xo_r3 hx, xo_r4 hx, xo_r5 hx, xo_r6 hx, xo_r7 hx, xo_r8 hx, xo_r9 hx, xo_r10 hx, xo_r11 hx, xo_ka hx, xo_ra0 hx, xo_ra1 hx, xo_ko hx, xo_ro0 hx, xo_ro1 hx, xo_kf hx, xo_rf0 hx, xo_kh hx, xo_rh0 hx, xo_ke hx, xo_re0 hx, xo_re1 hx, xo_kn hx, xo_zn hx, xo_re2 hx, xo_re3 hx, xo_kt hx, xo_rt0 hx, xo_t0 hx, (xo_ft hx).1, (xo_now hx).1, (xo_now hx).2.1, (xo_now hx).2.2.1, (xo_try hx).1, (xo_yr hx).1.1, (xo_ty hx).1, answered_eq hx, refused_eq hx, show ¬ (1 : Int32) = 0 by decide, Nat.reduceLT, noFlier_u hx hU hU9 hu 6 (Or.inl ⟨z, rfl⟩), show ¬ (6 : Int32) = 0 by decide]
      · have hv : mZ (cT I 6) 240 (240 + 2) (6 + u) = -2 := ((hZ 6).1.2.2.2.2 u hu).2.1.trans z
        simp only [D_270, E_270_0, ↓reduceIte, q_i, q_l, q_k, q_r, q_z, q_si, q_sl, jx_lt, jx_ri, jx_rl, jx_rv, if_true, if_false, Nat.reduceLeDiff, Nat.add_one_ne_zero, and_self, true_or, or_true, Nat.reduceEqDiff, or_self, or_false, false_or, mo_k hm.1, mo_r5 hm.1, mo_k5 hm.1, mo_z5 hm.1, mo_r16 hm.1, mo_k16 hm.1, mo_z16 hm.1, mo_r17 hm.1, mo_k17 hm.1, mo_z17 hm.1, mo_r18 hm.1, mo_k18 hm.1, mo_z18 hm.1, mo_r21 hm.1, mo_k21 hm.1, mo_z21 hm.1, mo_r22 hm.1, mo_k22 hm.1, mo_z22 hm.1, mo_r23 hm.1, mo_k23 hm.1, mo_z23 hm.1, mo_r24 hm.1, mo_k24 hm.1, mo_z24 hm.1, mo_r25 hm.1, mo_k25 hm.1, mo_z25 hm.1, mo_r26 hm.1, mo_k26 hm.1, mo_z26 hm.1, mo_r27 hm.1, mo_k27 hm.1, mo_z27 hm.1, mo_r29 hm.1, mo_k29 hm.1, mo_z29 hm.1, mo_r30 hm.1, mo_k30 hm.1, mo_z30 hm.1, mo_r31 hm.1, mo_k31 hm.1, mo_z31 hm.1, mo_r32 hm.1, mo_k32 hm.1, mo_z32 hm.1, mo_r40 hm.1, mo_k40 hm.1, mo_z40 hm.1, mo_r43 hm.1, mo_k43 hm.1, mo_z43 hm.1, mo_r44 hm.1, mo_k44 hm.1, mo_z44 hm.1, mf_k hm.2.1, mf_r14 hm.2.1, mf_k14 hm.2.1, mf_z14 hm.2.1, mf_r15 hm.2.1, mf_k15 hm.2.1, mf_z15 hm.2.1, mf_r16 hm.2.1, mf_k16 hm.2.1, mf_z16 hm.2.1, mf_r17 hm.2.1, mf_k17 hm.2.1, mf_z17 hm.2.1, mf_r18 hm.2.1, mf_k18 hm.2.1, mf_z18 hm.2.1, mf_r19 hm.2.1, mf_k19 hm.2.1, mf_z19 hm.2.1, mf_r20 hm.2.1, mf_k20 hm.2.1, mf_z20 hm.2.1, mf_r21 hm.2.1, mf_k21 hm.2.1, mf_z21 hm.2.1, mf_r22 hm.2.1, mf_k22 hm.2.1, mf_z22 hm.2.1, mf_r23 hm.2.1, mf_k23 hm.2.1, mf_z23 hm.2.1, mf_r24 hm.2.1, mf_k24 hm.2.1, mf_z24 hm.2.1, mf_r25 hm.2.1, mf_k25 hm.2.1, mf_z25 hm.2.1, mf_r26 hm.2.1, mf_k26 hm.2.1, mf_z26 hm.2.1, mf_r27 hm.2.1, mf_k27 hm.2.1, mf_z27 hm.2.1, mf_r28 hm.2.1, mf_k28 hm.2.1, mf_z28 hm.2.1, mf_r29 hm.2.1, mf_k29 hm.2.1, mf_z29 hm.2.1, mf_r30 hm.2.1, mf_k30 hm.2.1, mf_z30 hm.2.1, mf_r31 hm.2.1, mf_k31 hm.2.1, mf_z31 hm.2.1, mf_r32 hm.2.1, mf_k32 hm.2.1, mf_z32 hm.2.1, mf_r33 hm.2.1, mf_k33 hm.2.1, mf_z33 hm.2.1, mf_r34 hm.2.1, mf_k34 hm.2.1, mf_z34 hm.2.1, mf_r35 hm.2.1, mf_k35 hm.2.1, mf_z35 hm.2.1, mf_r36 hm.2.1, mf_k36 hm.2.1, mf_z36 hm.2.1, hm.2.2.1, hm.2.2.2, q_mZ, mgood_eq hm.1, mrefused_eq hm.1, show ¬ (1 : Int32) = 0 by decide, show ¬ (1 : Int32) ≤ 0 by decide, show ¬ (2 : Int32) ≤ 0 by decide, show ¬ (6 : Int32) ≤ 0 by decide, show (0 : Int32) ≤ 0 by decide, mBestR_u hm (tie_5 (hZ 6)) hU9 hu 6 (Or.inl ⟨hv, rfl⟩)]
    · obtain ⟨J1, s2, e1, e2, e3, e4⟩ := first_eq (I := I) (L := L) hx hU hU9 hd hd9 hu
      have h' := h1_fr h e2 e4
      have hx2 := h'.1
      have hm2 := h'.2.1
      have hZ' := h1_Z h' 0
      rw [fr_d hx e2, fr_190 e2] at hZ'
      obtain ⟨K, k1, k2, k3, k4, k5⟩ := mBest_eq (L := L) hm2 hf hZ' hu
      refine ans_K (v := .int (w (q_first (qd I t) (I (188 + 2)) U dn u dn).1)) (I1 := J1) (s1 := s2) (r := 0) (J := K) ?_ e2 e4 ?_ (fr_trans fr_mZ k2) (k3.trans fr_x13) (by decide)
      · simp only [D_135, E_135_0, E_135_1, E_135_2, ↓reduceIte, q_i, q_l, q_k, q_r, q_z, q_si, q_sl, jx_lt, jx_ri, jx_rl, jx_rv, if_true, if_false, Nat.reduceLeDiff, Nat.add_one_ne_zero, and_self, true_or, or_true, Nat.reduceEqDiff, or_self, or_false, false_or, xo_k hx, xo_r0 hx, xo_r1 hx, xo_r2 hx, xo_r3 hx, xo_r4 hx, xo_r5 hx, xo_r6 hx, xo_r7 hx, xo_r8 hx, xo_r9 hx, xo_r10 hx, xo_r11 hx, xo_ka hx, xo_ra0 hx, xo_ra1 hx, xo_ko hx, xo_ro0 hx, xo_ro1 hx, xo_kf hx, xo_rf0 hx, xo_kh hx, xo_rh0 hx, xo_ke hx, xo_re0 hx, xo_re1 hx, xo_kn hx, xo_zn hx, xo_re2 hx, xo_re3 hx, xo_kt hx, xo_rt0 hx, xo_t0 hx, (xo_ft hx).1, (xo_now hx).1, (xo_now hx).2.1, (xo_now hx).2.2.1, (xo_try hx).1, (xo_yr hx).1.1, (xo_ty hx).1, answered_eq hx, refused_eq hx, show ¬ (1 : Int32) = 0 by decide, Nat.reduceLT, noFlier_u hx hU hU9 hu 0 (Or.inr ⟨d, z, by omega, rfl⟩), e1, answered_eq hx2, xo_k hx2]
      · have hv : mZ (cT J1 0) 240 (240 + 2) (6 + u) = w d := (hZ'.1.2.2.2.2 u hu).2.1.trans z
        have hb := mBestR_u (L := L) hm2 (tie_5 hZ') hU9 hu 0 (Or.inr ⟨d, hv, by omega, rfl⟩)
        simp only [D_270, E_270_0, E_270_1, ↓reduceIte, q_i, q_l, q_k, q_r, q_z, q_si, q_sl, jx_lt, jx_ri, jx_rl, jx_rv, if_true, if_false, Nat.reduceLeDiff, Nat.add_one_ne_zero, and_self, true_or, or_true, Nat.reduceEqDiff, or_self, or_false, false_or, mo_k hm2.1, q_mZ, hb, show (0 : Int32) ≤ 0 by decide, k1, k4, mgood_eq hm2.1]
  · refine ans_T (v := .int (-1)) (r := 1) (J := mZ (cT I 1) 240) ?_ ?_ fr_mZ fr_x13 (by decide)
    · simp only [D_135, E_135_0, E_135_2, ↓reduceIte, q_i, q_l, q_k, q_r, q_z, q_si, q_sl, jx_lt, jx_ri, jx_rl, jx_rv, if_true, if_false, Nat.reduceLeDiff, Nat.add_one_ne_zero, and_self, true_or, or_true, Nat.reduceEqDiff, or_self, or_false, false_or, xo_k hx, xo_r0 hx, xo_r1 hx, xo_r2 hx, xo_r3 hx, xo_r4 hx, xo_r5 hx, xo_r6 hx, xo_r7 hx, xo_r8 hx, xo_r9 hx, xo_r10 hx, xo_r11 hx, xo_ka hx, xo_ra0 hx, xo_ra1 hx, xo_ko hx, xo_ro0 hx, xo_ro1 hx, xo_kf hx, xo_rf0 hx, xo_kh hx, xo_rh0 hx, xo_ke hx, xo_re0 hx, xo_re1 hx, xo_kn hx, xo_zn hx, xo_re2 hx, xo_re3 hx, xo_kt hx, xo_rt0 hx, xo_t0 hx, (xo_ft hx).1, (xo_now hx).1, (xo_now hx).2.1, (xo_now hx).2.2.1, (xo_try hx).1, (xo_yr hx).1.1, (xo_ty hx).1, answered_eq hx, refused_eq hx, show ¬ (1 : Int32) = 0 by decide, Nat.reduceLT, noFlier_n hx hU ca]
    · simp only [D_270, E_270_0, D_268, E_268_0, E_268_1, E_268_2, E_268_3, ↓reduceIte, q_i, q_l, q_k, q_r, q_z, q_si, q_sl, jx_lt, jx_ri, jx_rl, jx_rv, if_true, if_false, Nat.reduceLeDiff, Nat.add_one_ne_zero, and_self, true_or, or_true, Nat.reduceEqDiff, or_self, or_false, false_or, mo_k hm.1, mo_r5 hm.1, mo_k5 hm.1, mo_z5 hm.1, mo_r16 hm.1, mo_k16 hm.1, mo_z16 hm.1, mo_r17 hm.1, mo_k17 hm.1, mo_z17 hm.1, mo_r18 hm.1, mo_k18 hm.1, mo_z18 hm.1, mo_r21 hm.1, mo_k21 hm.1, mo_z21 hm.1, mo_r22 hm.1, mo_k22 hm.1, mo_z22 hm.1, mo_r23 hm.1, mo_k23 hm.1, mo_z23 hm.1, mo_r24 hm.1, mo_k24 hm.1, mo_z24 hm.1, mo_r25 hm.1, mo_k25 hm.1, mo_z25 hm.1, mo_r26 hm.1, mo_k26 hm.1, mo_z26 hm.1, mo_r27 hm.1, mo_k27 hm.1, mo_z27 hm.1, mo_r29 hm.1, mo_k29 hm.1, mo_z29 hm.1, mo_r30 hm.1, mo_k30 hm.1, mo_z30 hm.1, mo_r31 hm.1, mo_k31 hm.1, mo_z31 hm.1, mo_r32 hm.1, mo_k32 hm.1, mo_z32 hm.1, mo_r40 hm.1, mo_k40 hm.1, mo_z40 hm.1, mo_r43 hm.1, mo_k43 hm.1, mo_z43 hm.1, mo_r44 hm.1, mo_k44 hm.1, mo_z44 hm.1, mf_k hm.2.1, mf_r14 hm.2.1, mf_k14 hm.2.1, mf_z14 hm.2.1, mf_r15 hm.2.1, mf_k15 hm.2.1, mf_z15 hm.2.1, mf_r16 hm.2.1, mf_k16 hm.2.1, mf_z16 hm.2.1, mf_r17 hm.2.1, mf_k17 hm.2.1, mf_z17 hm.2.1, mf_r18 hm.2.1, mf_k18 hm.2.1, mf_z18 hm.2.1, mf_r19 hm.2.1, mf_k19 hm.2.1, mf_z19 hm.2.1, mf_r20 hm.2.1, mf_k20 hm.2.1, mf_z20 hm.2.1, mf_r21 hm.2.1, mf_k21 hm.2.1, mf_z21 hm.2.1, mf_r22 hm.2.1, mf_k22 hm.2.1, mf_z22 hm.2.1, mf_r23 hm.2.1, mf_k23 hm.2.1, mf_z23 hm.2.1, mf_r24 hm.2.1, mf_k24 hm.2.1, mf_z24 hm.2.1, mf_r25 hm.2.1, mf_k25 hm.2.1, mf_z25 hm.2.1, mf_r26 hm.2.1, mf_k26 hm.2.1, mf_z26 hm.2.1, mf_r27 hm.2.1, mf_k27 hm.2.1, mf_z27 hm.2.1, mf_r28 hm.2.1, mf_k28 hm.2.1, mf_z28 hm.2.1, mf_r29 hm.2.1, mf_k29 hm.2.1, mf_z29 hm.2.1, mf_r30 hm.2.1, mf_k30 hm.2.1, mf_z30 hm.2.1, mf_r31 hm.2.1, mf_k31 hm.2.1, mf_z31 hm.2.1, mf_r32 hm.2.1, mf_k32 hm.2.1, mf_z32 hm.2.1, mf_r33 hm.2.1, mf_k33 hm.2.1, mf_z33 hm.2.1, mf_r34 hm.2.1, mf_k34 hm.2.1, mf_z34 hm.2.1, mf_r35 hm.2.1, mf_k35 hm.2.1, mf_z35 hm.2.1, mf_r36 hm.2.1, mf_k36 hm.2.1, mf_z36 hm.2.1, hm.2.2.1, hm.2.2.2, q_mZ, mgood_eq hm.1, mrefused_eq hm.1, show ¬ (1 : Int32) = 0 by decide, show ¬ (1 : Int32) ≤ 0 by decide, show ¬ (2 : Int32) ≤ 0 by decide, show ¬ (6 : Int32) ≤ 0 by decide, show (0 : Int32) ≤ 0 by decide, mUmb_n hm (tie_5 (hZ 1)) ca]
theorem p_bestMany (h : qH1 I s t t' f U S dn R O W) (a : Int32) : qAns I L s 136 [.ref 100, .int a] 271 [.ref 240, .int a] := by
  obtain ⟨hU, hU9⟩ := h1_U h
  obtain ⟨hd, hdn, hd9⟩ := h1_d h
  obtain ⟨hx, hm, hf, hT⟩ := id h
  have hZ := h1_Z h
  rcases small_or a (n := U) (by omega) with ⟨u, hu, rfl⟩ | ca
  · rcases (hT.1.2.1 u hu).1 with z | ⟨d, z, hdd⟩
    · refine ans_T (v := .int (-1)) (r := 6) (J := mZ (cT I 6) 240) ?_ ?_ fr_mZ fr_x13 (by decide)
      · simp only [D_136, E_136_0, E_136_2, ↓reduceIte, q_i, q_l, q_k, q_r, q_z, q_si, q_sl, jx_lt, jx_ri, jx_rl, jx_rv, if_true, if_false, Nat.reduceLeDiff, Nat.add_one_ne_zero, and_self, true_or, or_true, Nat.reduceEqDiff, or_self, or_false, false_or, xo_k hx, xo_r0 hx, xo_r1 hx, xo_r2 hx, xo_r3 hx, xo_r4 hx, xo_r5 hx, xo_r6 hx, xo_r7 hx, xo_r8 hx, xo_r9 hx, xo_r10 hx, xo_r11 hx, xo_ka hx, xo_ra0 hx, xo_ra1 hx, xo_ko hx, xo_ro0 hx, xo_ro1 hx, xo_kf hx, xo_rf0 hx, xo_kh hx, xo_rh0 hx, xo_ke hx, xo_re0 hx, xo_re1 hx, xo_kn hx, xo_zn hx, xo_re2 hx, xo_re3 hx, xo_kt hx, xo_rt0 hx, xo_t0 hx, (xo_ft hx).1, (xo_now hx).1, (xo_now hx).2.1, (xo_now hx).2.2.1, (xo_try hx).1, (xo_yr hx).1.1, (xo_ty hx).1, answered_eq hx, refused_eq hx, show ¬ (1 : Int32) = 0 by decide, Nat.reduceLT, noFlier_u hx hU hU9 hu 6 (Or.inl ⟨z, rfl⟩), show ¬ (6 : Int32) = 0 by decide]
      · have hv : mZ (cT I 6) 240 (240 + 2) (6 + u) = -2 := ((hZ 6).1.2.2.2.2 u hu).2.1.trans z
        simp only [D_271, E_271_0, ↓reduceIte, q_i, q_l, q_k, q_r, q_z, q_si, q_sl, jx_lt, jx_ri, jx_rl, jx_rv, if_true, if_false, Nat.reduceLeDiff, Nat.add_one_ne_zero, and_self, true_or, or_true, Nat.reduceEqDiff, or_self, or_false, false_or, mo_k hm.1, mo_r5 hm.1, mo_k5 hm.1, mo_z5 hm.1, mo_r16 hm.1, mo_k16 hm.1, mo_z16 hm.1, mo_r17 hm.1, mo_k17 hm.1, mo_z17 hm.1, mo_r18 hm.1, mo_k18 hm.1, mo_z18 hm.1, mo_r21 hm.1, mo_k21 hm.1, mo_z21 hm.1, mo_r22 hm.1, mo_k22 hm.1, mo_z22 hm.1, mo_r23 hm.1, mo_k23 hm.1, mo_z23 hm.1, mo_r24 hm.1, mo_k24 hm.1, mo_z24 hm.1, mo_r25 hm.1, mo_k25 hm.1, mo_z25 hm.1, mo_r26 hm.1, mo_k26 hm.1, mo_z26 hm.1, mo_r27 hm.1, mo_k27 hm.1, mo_z27 hm.1, mo_r29 hm.1, mo_k29 hm.1, mo_z29 hm.1, mo_r30 hm.1, mo_k30 hm.1, mo_z30 hm.1, mo_r31 hm.1, mo_k31 hm.1, mo_z31 hm.1, mo_r32 hm.1, mo_k32 hm.1, mo_z32 hm.1, mo_r40 hm.1, mo_k40 hm.1, mo_z40 hm.1, mo_r43 hm.1, mo_k43 hm.1, mo_z43 hm.1, mo_r44 hm.1, mo_k44 hm.1, mo_z44 hm.1, mf_k hm.2.1, mf_r14 hm.2.1, mf_k14 hm.2.1, mf_z14 hm.2.1, mf_r15 hm.2.1, mf_k15 hm.2.1, mf_z15 hm.2.1, mf_r16 hm.2.1, mf_k16 hm.2.1, mf_z16 hm.2.1, mf_r17 hm.2.1, mf_k17 hm.2.1, mf_z17 hm.2.1, mf_r18 hm.2.1, mf_k18 hm.2.1, mf_z18 hm.2.1, mf_r19 hm.2.1, mf_k19 hm.2.1, mf_z19 hm.2.1, mf_r20 hm.2.1, mf_k20 hm.2.1, mf_z20 hm.2.1, mf_r21 hm.2.1, mf_k21 hm.2.1, mf_z21 hm.2.1, mf_r22 hm.2.1, mf_k22 hm.2.1, mf_z22 hm.2.1, mf_r23 hm.2.1, mf_k23 hm.2.1, mf_z23 hm.2.1, mf_r24 hm.2.1, mf_k24 hm.2.1, mf_z24 hm.2.1, mf_r25 hm.2.1, mf_k25 hm.2.1, mf_z25 hm.2.1, mf_r26 hm.2.1, mf_k26 hm.2.1, mf_z26 hm.2.1, mf_r27 hm.2.1, mf_k27 hm.2.1, mf_z27 hm.2.1, mf_r28 hm.2.1, mf_k28 hm.2.1, mf_z28 hm.2.1, mf_r29 hm.2.1, mf_k29 hm.2.1, mf_z29 hm.2.1, mf_r30 hm.2.1, mf_k30 hm.2.1, mf_z30 hm.2.1, mf_r31 hm.2.1, mf_k31 hm.2.1, mf_z31 hm.2.1, mf_r32 hm.2.1, mf_k32 hm.2.1, mf_z32 hm.2.1, mf_r33 hm.2.1, mf_k33 hm.2.1, mf_z33 hm.2.1, mf_r34 hm.2.1, mf_k34 hm.2.1, mf_z34 hm.2.1, mf_r35 hm.2.1, mf_k35 hm.2.1, mf_z35 hm.2.1, mf_r36 hm.2.1, mf_k36 hm.2.1, mf_z36 hm.2.1, hm.2.2.1, hm.2.2.2, q_mZ, mgood_eq hm.1, mrefused_eq hm.1, show ¬ (1 : Int32) = 0 by decide, show ¬ (1 : Int32) ≤ 0 by decide, show ¬ (2 : Int32) ≤ 0 by decide, show ¬ (6 : Int32) ≤ 0 by decide, show (0 : Int32) ≤ 0 by decide, mBestR_u hm (tie_5 (hZ 6)) hU9 hu 6 (Or.inl ⟨hv, rfl⟩)]
    · obtain ⟨J0, s0, e1, e2, e3, e4⟩ := first_eq (I := I) (L := L) hx hU hU9 hd hd9 hu
      have h0 := h1_fr h e2 e4
      have hx0 := h0.1
      obtain ⟨g1, g2⟩ := first_snd (D := qd I t) (P := I (188 + 2)) (dn := dn) (u := u) hU9 dn hdn
      obtain ⟨J1, s2, f1, f2, f3, f4⟩ := by_eq (I := J0) (L := L) hx0 (h1_U h0).1 hU9 (h1_d h0).1 hd9 (u := u) (d := (q_first (qd I t) (I (188 + 2)) U dn u dn).1) hu
      have h' := h1_fr h0 f2 f4
      have hx2 := h'.1
      have hm2 := h'.2.1
      have hZ' := h1_Z h' 0
      rw [fr_d hx0 f2, fr_190 f2, fr_d hx e2, fr_190 e2] at hZ'
      rw [fr_d hx e2, fr_190 e2, ← g1] at f1
      obtain ⟨K, k1, k2, k3, k4, k5⟩ := mBest_eq (L := L) hm2 hf hZ' hu
      refine ans_K (v := .int (q_first (qd I t) (I (188 + 2)) U dn u dn).2) (I1 := J1) (s1 := s2) (r := 0) (J := K) ?_ (fr_trans e2 f2) (ks_trans e4 f4) ?_ (fr_trans fr_mZ k2) (k3.trans fr_x13) (by decide)
      · simp only [D_136, E_136_0, E_136_1, E_136_2, ↓reduceIte, q_i, q_l, q_k, q_r, q_z, q_si, q_sl, jx_lt, jx_ri, jx_rl, jx_rv, if_true, if_false, Nat.reduceLeDiff, Nat.add_one_ne_zero, and_self, true_or, or_true, Nat.reduceEqDiff, or_self, or_false, false_or, xo_k hx, xo_r0 hx, xo_r1 hx, xo_r2 hx, xo_r3 hx, xo_r4 hx, xo_r5 hx, xo_r6 hx, xo_r7 hx, xo_r8 hx, xo_r9 hx, xo_r10 hx, xo_r11 hx, xo_ka hx, xo_ra0 hx, xo_ra1 hx, xo_ko hx, xo_ro0 hx, xo_ro1 hx, xo_kf hx, xo_rf0 hx, xo_kh hx, xo_rh0 hx, xo_ke hx, xo_re0 hx, xo_re1 hx, xo_kn hx, xo_zn hx, xo_re2 hx, xo_re3 hx, xo_kt hx, xo_rt0 hx, xo_t0 hx, (xo_ft hx).1, (xo_now hx).1, (xo_now hx).2.1, (xo_now hx).2.2.1, (xo_try hx).1, (xo_yr hx).1.1, (xo_ty hx).1, answered_eq hx, refused_eq hx, show ¬ (1 : Int32) = 0 by decide, Nat.reduceLT, noFlier_u hx hU hU9 hu 0 (Or.inr ⟨d, z, by omega, rfl⟩), e1, xo_k hx0, f1, answered_eq hx2, xo_k hx2]
      · have hv : mZ (cT J1 0) 240 (240 + 2) (6 + u) = w d := (hZ'.1.2.2.2.2 u hu).2.1.trans z
        have hb := mBestR_u (L := L) hm2 (tie_5 hZ') hU9 hu 0 (Or.inr ⟨d, hv, by omega, rfl⟩)
        simp only [D_271, E_271_0, E_271_1, ↓reduceIte, q_i, q_l, q_k, q_r, q_z, q_si, q_sl, jx_lt, jx_ri, jx_rl, jx_rv, if_true, if_false, Nat.reduceLeDiff, Nat.add_one_ne_zero, and_self, true_or, or_true, Nat.reduceEqDiff, or_self, or_false, false_or, mo_k hm2.1, q_mZ, hb, show (0 : Int32) ≤ 0 by decide, k1, k5, mgood_eq hm2.1]
  · refine ans_T (v := .int (-1)) (r := 1) (J := mZ (cT I 1) 240) ?_ ?_ fr_mZ fr_x13 (by decide)
    · simp only [D_136, E_136_0, E_136_2, ↓reduceIte, q_i, q_l, q_k, q_r, q_z, q_si, q_sl, jx_lt, jx_ri, jx_rl, jx_rv, if_true, if_false, Nat.reduceLeDiff, Nat.add_one_ne_zero, and_self, true_or, or_true, Nat.reduceEqDiff, or_self, or_false, false_or, xo_k hx, xo_r0 hx, xo_r1 hx, xo_r2 hx, xo_r3 hx, xo_r4 hx, xo_r5 hx, xo_r6 hx, xo_r7 hx, xo_r8 hx, xo_r9 hx, xo_r10 hx, xo_r11 hx, xo_ka hx, xo_ra0 hx, xo_ra1 hx, xo_ko hx, xo_ro0 hx, xo_ro1 hx, xo_kf hx, xo_rf0 hx, xo_kh hx, xo_rh0 hx, xo_ke hx, xo_re0 hx, xo_re1 hx, xo_kn hx, xo_zn hx, xo_re2 hx, xo_re3 hx, xo_kt hx, xo_rt0 hx, xo_t0 hx, (xo_ft hx).1, (xo_now hx).1, (xo_now hx).2.1, (xo_now hx).2.2.1, (xo_try hx).1, (xo_yr hx).1.1, (xo_ty hx).1, answered_eq hx, refused_eq hx, show ¬ (1 : Int32) = 0 by decide, Nat.reduceLT, noFlier_n hx hU ca]
    · simp only [D_271, E_271_0, D_268, E_268_0, E_268_1, E_268_2, E_268_3, ↓reduceIte, q_i, q_l, q_k, q_r, q_z, q_si, q_sl, jx_lt, jx_ri, jx_rl, jx_rv, if_true, if_false, Nat.reduceLeDiff, Nat.add_one_ne_zero, and_self, true_or, or_true, Nat.reduceEqDiff, or_self, or_false, false_or, mo_k hm.1, mo_r5 hm.1, mo_k5 hm.1, mo_z5 hm.1, mo_r16 hm.1, mo_k16 hm.1, mo_z16 hm.1, mo_r17 hm.1, mo_k17 hm.1, mo_z17 hm.1, mo_r18 hm.1, mo_k18 hm.1, mo_z18 hm.1, mo_r21 hm.1, mo_k21 hm.1, mo_z21 hm.1, mo_r22 hm.1, mo_k22 hm.1, mo_z22 hm.1, mo_r23 hm.1, mo_k23 hm.1, mo_z23 hm.1, mo_r24 hm.1, mo_k24 hm.1, mo_z24 hm.1, mo_r25 hm.1, mo_k25 hm.1, mo_z25 hm.1, mo_r26 hm.1, mo_k26 hm.1, mo_z26 hm.1, mo_r27 hm.1, mo_k27 hm.1, mo_z27 hm.1, mo_r29 hm.1, mo_k29 hm.1, mo_z29 hm.1, mo_r30 hm.1, mo_k30 hm.1, mo_z30 hm.1, mo_r31 hm.1, mo_k31 hm.1, mo_z31 hm.1, mo_r32 hm.1, mo_k32 hm.1, mo_z32 hm.1, mo_r40 hm.1, mo_k40 hm.1, mo_z40 hm.1, mo_r43 hm.1, mo_k43 hm.1, mo_z43 hm.1, mo_r44 hm.1, mo_k44 hm.1, mo_z44 hm.1, mf_k hm.2.1, mf_r14 hm.2.1, mf_k14 hm.2.1, mf_z14 hm.2.1, mf_r15 hm.2.1, mf_k15 hm.2.1, mf_z15 hm.2.1, mf_r16 hm.2.1, mf_k16 hm.2.1, mf_z16 hm.2.1, mf_r17 hm.2.1, mf_k17 hm.2.1, mf_z17 hm.2.1, mf_r18 hm.2.1, mf_k18 hm.2.1, mf_z18 hm.2.1, mf_r19 hm.2.1, mf_k19 hm.2.1, mf_z19 hm.2.1, mf_r20 hm.2.1, mf_k20 hm.2.1, mf_z20 hm.2.1, mf_r21 hm.2.1, mf_k21 hm.2.1, mf_z21 hm.2.1, mf_r22 hm.2.1, mf_k22 hm.2.1, mf_z22 hm.2.1, mf_r23 hm.2.1, mf_k23 hm.2.1, mf_z23 hm.2.1, mf_r24 hm.2.1, mf_k24 hm.2.1, mf_z24 hm.2.1, mf_r25 hm.2.1, mf_k25 hm.2.1, mf_z25 hm.2.1, mf_r26 hm.2.1, mf_k26 hm.2.1, mf_z26 hm.2.1, mf_r27 hm.2.1, mf_k27 hm.2.1, mf_z27 hm.2.1, mf_r28 hm.2.1, mf_k28 hm.2.1, mf_z28 hm.2.1, mf_r29 hm.2.1, mf_k29 hm.2.1, mf_z29 hm.2.1, mf_r30 hm.2.1, mf_k30 hm.2.1, mf_z30 hm.2.1, mf_r31 hm.2.1, mf_k31 hm.2.1, mf_z31 hm.2.1, mf_r32 hm.2.1, mf_k32 hm.2.1, mf_z32 hm.2.1, mf_r33 hm.2.1, mf_k33 hm.2.1, mf_z33 hm.2.1, mf_r34 hm.2.1, mf_k34 hm.2.1, mf_z34 hm.2.1, mf_r35 hm.2.1, mf_k35 hm.2.1, mf_z35 hm.2.1, mf_r36 hm.2.1, mf_k36 hm.2.1, mf_z36 hm.2.1, hm.2.2.1, hm.2.2.2, q_mZ, mgood_eq hm.1, mrefused_eq hm.1, show ¬ (1 : Int32) = 0 by decide, show ¬ (1 : Int32) ≤ 0 by decide, show ¬ (2 : Int32) ≤ 0 by decide, show ¬ (6 : Int32) ≤ 0 by decide, show (0 : Int32) ≤ 0 by decide, mUmb_n hm (tie_5 (hZ 1)) ca]
end BD
