/-! WAYS OUT: the reference's laying -/
def q_mw (I : qI) (m : Nat) (xr xe xk xt : Nat → Int32) (mn : Int32) : qI := fun a => if a = m then (q_set (I m) 33 mn) else if a = m + 12 then xr else if a = m + 13 then xe else if a = m + 14 then xk else if a = m + 15 then xt else I a
section q_mw_F
variable {I : qI} {m : Nat} {xr xe xk xt f : Nat → Int32} {mn v : Int32}
theorem q_mw_o : q_mw I m xr xe xk xt mn m = (q_set (I m) 33 mn) := if_pos rfl
theorem q_mw_xr : q_mw I m xr xe xk xt mn (m + 12) = xr := by
  unfold q_mw
  rw [if_neg (by omega), if_pos rfl]
theorem q_mw_uxr : q_up (q_mw I m xr xe xk xt mn) (m + 12) f = q_mw I m f xe xk xt mn := by
  funext a
  unfold q_up q_mw
  by_cases h : a = m + 12
  · subst h
    rw [if_pos rfl, if_neg (by omega), if_pos rfl]
  · rw [if_neg h]
    by_cases h0 : a = m
    · rw [if_pos h0, if_pos h0]
    · rw [if_neg h0, if_neg h0]
      simp only [h, if_false]
theorem q_mw_xe : q_mw I m xr xe xk xt mn (m + 13) = xe := by
  unfold q_mw
  rw [if_neg (by omega), if_neg (by omega), if_pos rfl]
theorem q_mw_uxe : q_up (q_mw I m xr xe xk xt mn) (m + 13) f = q_mw I m xr f xk xt mn := by
  funext a
  unfold q_up q_mw
  by_cases h : a = m + 13
  · subst h
    rw [if_pos rfl, if_neg (by omega), if_neg (by omega), if_pos rfl]
  · rw [if_neg h]
    by_cases h0 : a = m
    · rw [if_pos h0, if_pos h0]
    · rw [if_neg h0, if_neg h0]
      simp only [h, if_false]
theorem q_mw_xk : q_mw I m xr xe xk xt mn (m + 14) = xk := by
  unfold q_mw
  rw [if_neg (by omega), if_neg (by omega), if_neg (by omega), if_pos rfl]
theorem q_mw_uxk : q_up (q_mw I m xr xe xk xt mn) (m + 14) f = q_mw I m xr xe f xt mn := by
  funext a
  unfold q_up q_mw
  by_cases h : a = m + 14
  · subst h
    rw [if_pos rfl, if_neg (by omega), if_neg (by omega), if_neg (by omega), if_pos rfl]
  · rw [if_neg h]
    by_cases h0 : a = m
    · rw [if_pos h0, if_pos h0]
    · rw [if_neg h0, if_neg h0]
      simp only [h, if_false]
theorem q_mw_xt : q_mw I m xr xe xk xt mn (m + 15) = xt := by
  unfold q_mw
  rw [if_neg (by omega), if_neg (by omega), if_neg (by omega), if_neg (by omega), if_pos rfl]
theorem q_mw_uxt : q_up (q_mw I m xr xe xk xt mn) (m + 15) f = q_mw I m xr xe xk f mn := by
  funext a
  unfold q_up q_mw
  by_cases h : a = m + 15
  · subst h
    rw [if_pos rfl, if_neg (by omega), if_neg (by omega), if_neg (by omega), if_neg (by omega), if_pos rfl]
  · rw [if_neg h]
    by_cases h0 : a = m
    · rw [if_pos h0, if_pos h0]
    · rw [if_neg h0, if_neg h0]
      simp only [h, if_false]
theorem q_mw_umn : q_up (q_mw I m xr xe xk xt mn) m (q_set (q_set (I m) 33 mn) 33 v) = q_mw I m xr xe xk xt v := by
  funext a
  unfold q_up q_mw
  by_cases h : a = m
  · rw [if_pos h, if_pos h]
    funext j
    simp only [q_set]
    repeat (split <;> try rfl)
    all_goals (first | rfl | (exfalso; omega))
  · rw [if_neg h, if_neg h, if_neg h]
theorem q_mw_gmn : (q_set (I m) 33 mn) 33 = mn := by
  simp [q_set]
theorem q_mw_out {a : Nat} (h : a < m ∨ m + 19 ≤ a) : q_mw I m xr xe xk xt mn a = I a := by
  unfold q_mw
  rw [if_neg (by omega), if_neg (by omega), if_neg (by omega), if_neg (by omega), if_neg (by omega)]
theorem q_mw_self : q_mw I m (I (m + 12)) (I (m + 13)) (I (m + 14)) (I (m + 15)) (I m 33) = I := by
  funext a
  unfold q_mw
  by_cases h : a = m
  · rw [if_pos h]
    subst h
    funext j
    simp only [q_set]
    repeat (split <;> try (rename_i e; subst e; rfl))
    all_goals rfl
  · rw [if_neg h]
    repeat (split; · rename_i e; rw [e])
    rfl
end q_mw_F

section LW
variable {I : qI} {L : qL} {s : qS} {m f : Nat} {D : Nat → Nat → Int32} {P : Nat → Int32} {U S dn R O W : Nat} {xr xe xk xt : Nat → Int32} {mn : Int32}
theorem mw_tie (h : f + 24 ≤ m ∨ m + 19 ≤ f) (ht : qTie I m f D P U S dn R O W) : qTie (q_mw I m xr xe xk xt mn) m f D P U S dn R O W :=
  tie_congr (me_congr fun k hk => q_mw_out (by omega)) (by unfold q_mw; rw [if_neg (by omega), if_neg (by omega), if_neg (by omega), if_neg (by omega), if_neg (by omega)]) ht
theorem isOn_eq (hm : qMo s m) (b : Int32) {k : Nat} (hk : k ≤ 6) : jD 259 [.ref m, .int b, .int (w k)] (q_mw I m xr xe xk xt mn, L, s) = some (some (.int (if q_any (fun i => decide (xk i = b)) k = true then 1 else 0)), q_mw I m xr xe xk xt mn, L, s) := by
  rw [D_259, E_259_0]
  have key : ∀ n i, i + n = k → q_any (fun i => decide (xk i = b)) i = false → jd 259 1 [some (.ref m), some (.int b), some (.int (w k)), some (.int (w i))] [] (q_mw I m xr xe xk xt mn, L, s) = some (some (.int (if q_any (fun i => decide (xk i = b)) k = true then 1 else 0)), q_mw I m xr xe xk xt mn, L, s) := by
    intro n
    induction n with
    | zero =>
      intro i hi h0
      obtain rfl : i = k := by omega
      rw [E_259_1, if_pos (Int32.le_refl _), E_259_3, h0]
      simp
    | succ n ih =>
      intro i hi h0
      rw [E_259_1, if_neg (w_nle (by omega) (by omega))]
      by_cases c : xk i = b
      · have h1 : q_any (fun i => decide (xk i = b)) k = true := (any_iff _ _).mpr ⟨i, by omega, decide_eq_true c⟩
        simp only [↓reduceIte, q_i, q_l, q_k, q_r, q_z, q_si, q_sl, jx_lt, jx_ri, jx_rl, jx_rv, if_true, if_false, Nat.reduceLeDiff, Nat.add_one_ne_zero, and_self, true_or, or_true, Nat.reduceEqDiff, or_self, or_false, false_or, mo_k hm, mo_r31 hm, mo_k31 hm, mo_z31 hm, w_nn (a := i) (by omega), show ¬ 6 ≤ i by omega, w_tc (a := i) (by omega), q_mw_o, q_mw_xr, q_mw_xe, q_mw_xk, q_mw_xt, q_mw_uxr, q_mw_uxe, q_mw_uxk, q_mw_uxt, q_mw_umn, q_mw_gmn, c, h1]
      · simp only [↓reduceIte, q_i, q_l, q_k, q_r, q_z, q_si, q_sl, jx_lt, jx_ri, jx_rl, jx_rv, if_true, if_false, Nat.reduceLeDiff, Nat.add_one_ne_zero, and_self, true_or, or_true, Nat.reduceEqDiff, or_self, or_false, false_or, mo_k hm, mo_r31 hm, mo_k31 hm, mo_z31 hm, w_nn (a := i) (by omega), show ¬ 6 ≤ i by omega, w_tc (a := i) (by omega), q_mw_o, q_mw_xr, q_mw_xe, q_mw_xk, q_mw_xt, q_mw_uxr, q_mw_uxe, q_mw_uxk, q_mw_uxt, q_mw_umn, q_mw_gmn, c, E_259_2, w_inc]
        refine ih (i + 1) (by omega) ?_
        show (q_any _ i || decide (xk i = b)) = false
        rw [h0, decide_eq_false c]; rfl
  exact key k 0 (by omega) rfl
/-- the reference's rows hold X, from home h -/
def qRW (D : Nat → Nat → Int32) (S h : Nat) (X : List Nat) (xr xe : Nat → Int32) : Prop := ∀ e, e < X.length → ∃ k g, 0 < k ∧ k ≤ 5 ∧ X.getD e 0 = q_cd g k ∧ q_path D S h g k ∧ xe e = w k ∧ xr (6 * e) = w h ∧ ∀ i, i < k → xr (6 * e + 1 + i) = w (g i)
theorem rw_add {h : Nat} {X : List Nat} {xk' : Nat → Int32} (hR : qRW D S h X xr xe) {k : Nat} {g : Nat → Nat} (hk0 : 0 < k) (hk : k ≤ 5) (hp : q_path D S h g k) (h0 : xk' 0 = w h) (h1 : ∀ i, i < k → xk' (i + 1) = w (g i)) :
    qRW D S h (X ++ [q_cd g k]) (fun j => if 6 * X.length ≤ j ∧ j < 6 * X.length + (k + 1) then xk' (j - 6 * X.length) else xr j) (q_set xe X.length (w k)) := by
  intro e he
  rw [List.length_append, List.length_singleton] at he
  by_cases c : e = X.length
  · subst c
    refine ⟨k, g, hk0, hk, ?_, hp, q_set_eq, ?_, fun i hi => ?_⟩
    · rw [List.getD_eq_getElem?_getD, List.getElem?_append_right (Nat.le_refl _), Nat.sub_self]; rfl
    · show (if _ ∧ _ then xk' (6 * X.length - 6 * X.length) else _) = _
      rw [if_pos (by omega), Nat.sub_self]; exact h0
    · show (if _ ∧ _ then xk' (6 * X.length + 1 + i - 6 * X.length) else _) = _
      rw [if_pos (by omega), show 6 * X.length + 1 + i - 6 * X.length = i + 1 by omega]; exact h1 i hi
  · obtain ⟨k', g', a0, a1, a2, a3, a4, a5, a6⟩ := hR e (by omega)
    refine ⟨k', g', a0, a1, ?_, a3, by rw [q_set_ne c]; exact a4, ?_, fun i hi => ?_⟩
    · rw [List.getD_eq_getElem?_getD, List.getElem?_append_left (by omega), ← List.getD_eq_getElem?_getD]; exact a2
    · show (if _ ∧ _ then _ else _) = _
      rw [if_neg (by omega)]; exact a5
    · show (if _ ∧ _ then _ else _) = _
      rw [if_neg (by omega)]; exact a6 i hi
theorem w_sub1 {k : Nat} (hk : k < 1000000) : w (k + 1) - 1 = w k := by rw [w_dec (by omega) (by omega), Nat.add_sub_cancel]
/-- a row is written, and one goes on -/
theorem row_eq (hm : qMF s m f) {e k : Nat} (he : e < 300) (hk : k ≤ 6) (hk1 : 0 < k) :
    jd 260 7 [some (.ref m), none, some (.int (w k)), none, none] [] (q_mw I m xr xe xk xt (w e), L, s) = jd 260 1 [some (.ref m), none, some (.int (w k)), none, none] [] (q_mw I m (fun j => if 6 * e ≤ j ∧ j < 6 * e + k then xk (j - 6 * e) else xr j) (q_set xe e (w (k - 1))) xk xt (w (e + 1)), L, s) := by
  obtain ⟨J, e1, hJ⟩ := q_loopE (P := fun i (J : qI) => J = q_mw I m (fun j => if 6 * e ≤ j ∧ j < 6 * e + i then xk (j - 6 * e) else xr j) xe xk xt (w e)) (F := fun i J => jd 260 8 [some (.ref m), none, some (.int (w k)), none, some (.int (w i))] [] (J, L, s)) (n := k) (fun i J hi hJ => by
    refine ⟨_, ?_, rfl⟩
    subst hJ
    show jd 260 8 _ _ _ = jd 260 8 _ _ _
    rw [E_260_8, if_neg (w_nle hi (by omega))]
    simp only [show (6 : Int32) = w 6 from rfl, ↓reduceIte, q_i, q_l, q_k, q_r, q_z, q_si, q_sl, jx_lt, jx_ri, jx_rl, jx_rv, if_true, if_false, Nat.reduceLeDiff, Nat.add_one_ne_zero, and_self, true_or, or_true, Nat.reduceEqDiff, or_self, or_false, false_or, mo_k hm.1, mo_r5 hm.1, mo_k5 hm.1, mo_z5 hm.1, mo_r16 hm.1, mo_k16 hm.1, mo_z16 hm.1, mo_r17 hm.1, mo_k17 hm.1, mo_z17 hm.1, mo_r18 hm.1, mo_k18 hm.1, mo_z18 hm.1, mo_r21 hm.1, mo_k21 hm.1, mo_z21 hm.1, mo_r22 hm.1, mo_k22 hm.1, mo_z22 hm.1, mo_r23 hm.1, mo_k23 hm.1, mo_z23 hm.1, mo_r24 hm.1, mo_k24 hm.1, mo_z24 hm.1, mo_r25 hm.1, mo_k25 hm.1, mo_z25 hm.1, mo_r26 hm.1, mo_k26 hm.1, mo_z26 hm.1, mo_r27 hm.1, mo_k27 hm.1, mo_z27 hm.1, mo_r29 hm.1, mo_k29 hm.1, mo_z29 hm.1, mo_r30 hm.1, mo_k30 hm.1, mo_z30 hm.1, mo_r31 hm.1, mo_k31 hm.1, mo_z31 hm.1, mo_r32 hm.1, mo_k32 hm.1, mo_z32 hm.1, mo_r40 hm.1, mo_k40 hm.1, mo_z40 hm.1, mo_r43 hm.1, mo_k43 hm.1, mo_z43 hm.1, mo_r44 hm.1, mo_k44 hm.1, mo_z44 hm.1, mf_k hm.2.1, mf_r14 hm.2.1, mf_k14 hm.2.1, mf_z14 hm.2.1, mf_r15 hm.2.1, mf_k15 hm.2.1, mf_z15 hm.2.1, mf_r16 hm.2.1, mf_k16 hm.2.1, mf_z16 hm.2.1, mf_r17 hm.2.1, mf_k17 hm.2.1, mf_z17 hm.2.1, mf_r18 hm.2.1, mf_k18 hm.2.1, mf_z18 hm.2.1, mf_r19 hm.2.1, mf_k19 hm.2.1, mf_z19 hm.2.1, mf_r20 hm.2.1, mf_k20 hm.2.1, mf_z20 hm.2.1, mf_r21 hm.2.1, mf_k21 hm.2.1, mf_z21 hm.2.1, mf_r22 hm.2.1, mf_k22 hm.2.1, mf_z22 hm.2.1, mf_r23 hm.2.1, mf_k23 hm.2.1, mf_z23 hm.2.1, mf_r24 hm.2.1, mf_k24 hm.2.1, mf_z24 hm.2.1, mf_r25 hm.2.1, mf_k25 hm.2.1, mf_z25 hm.2.1, mf_r26 hm.2.1, mf_k26 hm.2.1, mf_z26 hm.2.1, mf_r27 hm.2.1, mf_k27 hm.2.1, mf_z27 hm.2.1, mf_r28 hm.2.1, mf_k28 hm.2.1, mf_z28 hm.2.1, mf_r29 hm.2.1, mf_k29 hm.2.1, mf_z29 hm.2.1, mf_r30 hm.2.1, mf_k30 hm.2.1, mf_z30 hm.2.1, mf_r31 hm.2.1, mf_k31 hm.2.1, mf_z31 hm.2.1, mf_r32 hm.2.1, mf_k32 hm.2.1, mf_z32 hm.2.1, mf_r33 hm.2.1, mf_k33 hm.2.1, mf_z33 hm.2.1, mf_r34 hm.2.1, mf_k34 hm.2.1, mf_z34 hm.2.1, mf_r35 hm.2.1, mf_k35 hm.2.1, mf_z35 hm.2.1, mf_r36 hm.2.1, mf_k36 hm.2.1, mf_z36 hm.2.1, hm.2.2.1, hm.2.2.2, q_mw_o, q_mw_xr, q_mw_xe, q_mw_xk, q_mw_xt, q_mw_uxr, q_mw_uxe, q_mw_uxk, q_mw_uxt, q_mw_umn, q_mw_gmn, w_mul, w_add, w_nn (a := i) (by omega), show ¬ 6 ≤ i by omega, w_tc (a := i) (by omega), w_nn (a := 6 * e + i) (by omega), show ¬ 6000 ≤ 6 * e + i by omega, w_tc (a := 6 * e + i) (by omega), w_inc]
    have g1 := q_grow (f := xr) (g := fun j => xk (j - 6 * e)) (b := 6 * e) (i := i)
    simp only [Nat.add_sub_cancel_left] at g1
    rw [g1]) (q_mw I m xr xe xk xt (w e)) (by rw [q_grow0])
  subst hJ
  rw [E_260_7]
  refine Eq.trans e1 ?_
  show jd 260 8 _ _ _ = _
  rw [E_260_8, if_pos (Int32.le_refl _), E_260_9]
  simp only [↓reduceIte, q_i, q_l, q_k, q_r, q_z, q_si, q_sl, jx_lt, jx_ri, jx_rl, jx_rv, if_true, if_false, Nat.reduceLeDiff, Nat.add_one_ne_zero, and_self, true_or, or_true, Nat.reduceEqDiff, or_self, or_false, false_or, mo_k hm.1, mo_r5 hm.1, mo_k5 hm.1, mo_z5 hm.1, mo_r16 hm.1, mo_k16 hm.1, mo_z16 hm.1, mo_r17 hm.1, mo_k17 hm.1, mo_z17 hm.1, mo_r18 hm.1, mo_k18 hm.1, mo_z18 hm.1, mo_r21 hm.1, mo_k21 hm.1, mo_z21 hm.1, mo_r22 hm.1, mo_k22 hm.1, mo_z22 hm.1, mo_r23 hm.1, mo_k23 hm.1, mo_z23 hm.1, mo_r24 hm.1, mo_k24 hm.1, mo_z24 hm.1, mo_r25 hm.1, mo_k25 hm.1, mo_z25 hm.1, mo_r26 hm.1, mo_k26 hm.1, mo_z26 hm.1, mo_r27 hm.1, mo_k27 hm.1, mo_z27 hm.1, mo_r29 hm.1, mo_k29 hm.1, mo_z29 hm.1, mo_r30 hm.1, mo_k30 hm.1, mo_z30 hm.1, mo_r31 hm.1, mo_k31 hm.1, mo_z31 hm.1, mo_r32 hm.1, mo_k32 hm.1, mo_z32 hm.1, mo_r40 hm.1, mo_k40 hm.1, mo_z40 hm.1, mo_r43 hm.1, mo_k43 hm.1, mo_z43 hm.1, mo_r44 hm.1, mo_k44 hm.1, mo_z44 hm.1, mf_k hm.2.1, mf_r14 hm.2.1, mf_k14 hm.2.1, mf_z14 hm.2.1, mf_r15 hm.2.1, mf_k15 hm.2.1, mf_z15 hm.2.1, mf_r16 hm.2.1, mf_k16 hm.2.1, mf_z16 hm.2.1, mf_r17 hm.2.1, mf_k17 hm.2.1, mf_z17 hm.2.1, mf_r18 hm.2.1, mf_k18 hm.2.1, mf_z18 hm.2.1, mf_r19 hm.2.1, mf_k19 hm.2.1, mf_z19 hm.2.1, mf_r20 hm.2.1, mf_k20 hm.2.1, mf_z20 hm.2.1, mf_r21 hm.2.1, mf_k21 hm.2.1, mf_z21 hm.2.1, mf_r22 hm.2.1, mf_k22 hm.2.1, mf_z22 hm.2.1, mf_r23 hm.2.1, mf_k23 hm.2.1, mf_z23 hm.2.1, mf_r24 hm.2.1, mf_k24 hm.2.1, mf_z24 hm.2.1, mf_r25 hm.2.1, mf_k25 hm.2.1, mf_z25 hm.2.1, mf_r26 hm.2.1, mf_k26 hm.2.1, mf_z26 hm.2.1, mf_r27 hm.2.1, mf_k27 hm.2.1, mf_z27 hm.2.1, mf_r28 hm.2.1, mf_k28 hm.2.1, mf_z28 hm.2.1, mf_r29 hm.2.1, mf_k29 hm.2.1, mf_z29 hm.2.1, mf_r30 hm.2.1, mf_k30 hm.2.1, mf_z30 hm.2.1, mf_r31 hm.2.1, mf_k31 hm.2.1, mf_z31 hm.2.1, mf_r32 hm.2.1, mf_k32 hm.2.1, mf_z32 hm.2.1, mf_r33 hm.2.1, mf_k33 hm.2.1, mf_z33 hm.2.1, mf_r34 hm.2.1, mf_k34 hm.2.1, mf_z34 hm.2.1, mf_r35 hm.2.1, mf_k35 hm.2.1, mf_z35 hm.2.1, mf_r36 hm.2.1, mf_k36 hm.2.1, mf_z36 hm.2.1, hm.2.2.1, hm.2.2.2, q_mw_o, q_mw_xr, q_mw_xe, q_mw_xk, q_mw_xt, q_mw_uxr, q_mw_uxe, q_mw_uxk, q_mw_uxt, q_mw_umn, q_mw_gmn, w_nn (a := e) (by omega), show ¬ 1000 ≤ e by omega, w_tc (a := e) (by omega), w_dec hk1 (by omega), w_inc]
theorem lay_lev (hm : qMF s m f) (hdis : f + 24 ≤ m ∨ m + 19 ≤ f) (ht : qTie I m f D P U S dn R O W) {h : Nat} (hh : h < S) : ∀ n, n ≤ 5 → ∀ (g : Nat → Nat) (ms : Nat) (X : List Nat) (xr xe xk xt : Nat → Int32),
    q_path D S h g (5 - n) → ms < 256 → (∀ b, b < 8 → (ms / 2 ^ b % 2 = 1 ↔ b = h ∨ ∃ i, i < 5 - n ∧ g i = b)) → xk 0 = w h → (∀ i, i < 5 - n → xk (i + 1) = w (g i)) → xt (5 - n) = 0 → qRW D S h X xr xe →
    X.length + (q_outs D S n (if 5 - n = 0 then h else g (5 - n - 1)) ms (q_cd g (5 - n))).length ≤ 300 →
    ∃ xr' xe' xk' xt', jd 260 1 [some (.ref m), none, some (.int (w (5 - n + 1))), none, none] [] (q_mw I m xr xe xk xt (w X.length), L, s) = jd 260 1 [some (.ref m), none, some (.int (w (5 - n))), none, none] [] (q_mw I m xr' xe' xk' xt' (w (X ++ q_outs D S n (if 5 - n = 0 then h else g (5 - n - 1)) ms (q_cd g (5 - n))).length), L, s) ∧
      qRW D S h (X ++ q_outs D S n (if 5 - n = 0 then h else g (5 - n - 1)) ms (q_cd g (5 - n))) xr' xe' ∧ xk' 0 = w h ∧ (∀ i, i < 5 - n → xk' (i + 1) = w (g i)) ∧ ∀ i, i < 5 - n → xt' i = xt i := by
  have hS9 := ht.1.1.2.2.2.1
  intro n
  induction n with
  | zero =>
    intro _ g ms X xr xe xk xt hp hms hmk h0 hk hx hR hX
    refine ⟨xr, xe, xk, xt, ?_, ?_, h0, hk, fun _ _ => rfl⟩
    · rw [show q_outs D S 0 (if 5 - 0 = 0 then h else g (5 - 0 - 1)) ms (q_cd g (5 - 0)) = [] from rfl, List.append_nil, E_260_1, if_neg (by decide)]
      simp only [↓reduceIte, q_i, q_l, q_k, q_r, q_z, q_si, q_sl, jx_lt, jx_ri, jx_rl, jx_rv, if_true, if_false, Nat.reduceLeDiff, Nat.add_one_ne_zero, and_self, true_or, or_true, Nat.reduceEqDiff, or_self, or_false, false_or, mo_k hm.1, mo_r5 hm.1, mo_k5 hm.1, mo_z5 hm.1, mo_r16 hm.1, mo_k16 hm.1, mo_z16 hm.1, mo_r17 hm.1, mo_k17 hm.1, mo_z17 hm.1, mo_r18 hm.1, mo_k18 hm.1, mo_z18 hm.1, mo_r21 hm.1, mo_k21 hm.1, mo_z21 hm.1, mo_r22 hm.1, mo_k22 hm.1, mo_z22 hm.1, mo_r23 hm.1, mo_k23 hm.1, mo_z23 hm.1, mo_r24 hm.1, mo_k24 hm.1, mo_z24 hm.1, mo_r25 hm.1, mo_k25 hm.1, mo_z25 hm.1, mo_r26 hm.1, mo_k26 hm.1, mo_z26 hm.1, mo_r27 hm.1, mo_k27 hm.1, mo_z27 hm.1, mo_r29 hm.1, mo_k29 hm.1, mo_z29 hm.1, mo_r30 hm.1, mo_k30 hm.1, mo_z30 hm.1, mo_r31 hm.1, mo_k31 hm.1, mo_z31 hm.1, mo_r32 hm.1, mo_k32 hm.1, mo_z32 hm.1, mo_r40 hm.1, mo_k40 hm.1, mo_z40 hm.1, mo_r43 hm.1, mo_k43 hm.1, mo_z43 hm.1, mo_r44 hm.1, mo_k44 hm.1, mo_z44 hm.1, mf_k hm.2.1, mf_r14 hm.2.1, mf_k14 hm.2.1, mf_z14 hm.2.1, mf_r15 hm.2.1, mf_k15 hm.2.1, mf_z15 hm.2.1, mf_r16 hm.2.1, mf_k16 hm.2.1, mf_z16 hm.2.1, mf_r17 hm.2.1, mf_k17 hm.2.1, mf_z17 hm.2.1, mf_r18 hm.2.1, mf_k18 hm.2.1, mf_z18 hm.2.1, mf_r19 hm.2.1, mf_k19 hm.2.1, mf_z19 hm.2.1, mf_r20 hm.2.1, mf_k20 hm.2.1, mf_z20 hm.2.1, mf_r21 hm.2.1, mf_k21 hm.2.1, mf_z21 hm.2.1, mf_r22 hm.2.1, mf_k22 hm.2.1, mf_z22 hm.2.1, mf_r23 hm.2.1, mf_k23 hm.2.1, mf_z23 hm.2.1, mf_r24 hm.2.1, mf_k24 hm.2.1, mf_z24 hm.2.1, mf_r25 hm.2.1, mf_k25 hm.2.1, mf_z25 hm.2.1, mf_r26 hm.2.1, mf_k26 hm.2.1, mf_z26 hm.2.1, mf_r27 hm.2.1, mf_k27 hm.2.1, mf_z27 hm.2.1, mf_r28 hm.2.1, mf_k28 hm.2.1, mf_z28 hm.2.1, mf_r29 hm.2.1, mf_k29 hm.2.1, mf_z29 hm.2.1, mf_r30 hm.2.1, mf_k30 hm.2.1, mf_z30 hm.2.1, mf_r31 hm.2.1, mf_k31 hm.2.1, mf_z31 hm.2.1, mf_r32 hm.2.1, mf_k32 hm.2.1, mf_z32 hm.2.1, mf_r33 hm.2.1, mf_k33 hm.2.1, mf_z33 hm.2.1, mf_r34 hm.2.1, mf_k34 hm.2.1, mf_z34 hm.2.1, mf_r35 hm.2.1, mf_k35 hm.2.1, mf_z35 hm.2.1, mf_r36 hm.2.1, mf_k36 hm.2.1, mf_z36 hm.2.1, hm.2.2.1, hm.2.2.2, q_mw_o, q_mw_xr, q_mw_xe, q_mw_xk, q_mw_xt, q_mw_uxr, q_mw_uxe, q_mw_uxk, q_mw_uxt, q_mw_umn, q_mw_gmn, w_sub1 (k := 5 - 0) (by omega), w_nn (a := 5 - 0) (by omega), show ¬ 6 ≤ 5 - 0 by omega, w_tc (a := 5 - 0) (by omega), show w (5 - 0 + 1) = 6 from rfl, E_260_2]
      rfl
    · rw [show q_outs D S 0 (if 5 - 0 = 0 then h else g (5 - 0 - 1)) ms (q_cd g (5 - 0)) = [] from rfl, List.append_nil]; exact hR
  | succ n ih =>
    intro hn g ms X xr xe xk xt hp hms hmk h0 hk hx hR hX
    have hd : 5 - (n + 1) = 4 - n := by omega
    have hd1 : 5 - n = 4 - n + 1 := by omega
    rw [hd] at hp hmk hk hx hX ⊢
    generalize ha : (if 4 - n = 0 then h else g (4 - n - 1)) = a at hX ⊢
    have haS : a < S := by
      rw [← ha]
      split
      · exact hh
      · exact hp.1 _ (by omega)
    have hxa : ∀ xk' : Nat → Int32, xk' 0 = w h → (∀ i, i < 4 - n → xk' (i + 1) = w (g i)) → xk' (4 - n) = w a := by
      intro xk' q0 q1
      rw [← ha]
      by_cases c : 4 - n = 0
      · rw [if_pos c, c]; exact q0
      · rw [if_neg c]
        have := q1 (4 - n - 1) (by omega)
        rw [show 4 - n - 1 + 1 = 4 - n by omega] at this
        exact this
    rw [outs_succ] at hX ⊢
    obtain ⟨J, e1, xr1, xe1, xk1, xt1, rfl, hR1, h01, hk1, hx1, hxs⟩ := q_loopE (P := fun b (J : qI) => ∃ xr1 xe1 xk1 xt1, J = q_mw I m xr1 xe1 xk1 xt1 (w (X ++ (List.range b).flatMap (q_br D S n a ms (q_cd g (4 - n)))).length) ∧ qRW D S h (X ++ (List.range b).flatMap (q_br D S n a ms (q_cd g (4 - n)))) xr1 xe1 ∧ xk1 0 = w h ∧ (∀ i, i < 4 - n → xk1 (i + 1) = w (g i)) ∧ xt1 (4 - n) = w b ∧ ∀ i, i < 4 - n → xt1 i = xt i)
      (F := fun _ J => jd 260 1 [some (.ref m), none, some (.int (w (4 - n + 1))), none, none] [] (J, L, s)) (n := S) (fun b J hb hJ => by
        obtain ⟨xr1, xe1, xk1, xt1, rfl, hR1, h01, hk1, hx1, hxs⟩ := hJ
        have hl := fm_len (f := q_br D S n a ms (q_cd g (4 - n))) (show b + 1 ≤ S by omega)
        rw [fm_succ, List.length_append] at hl
        rw [fm_succ, ← List.append_assoc]
        have hXl : (X ++ (List.range b).flatMap (q_br D S n a ms (q_cd g (4 - n)))).length + (q_br D S n a ms (q_cd g (4 - n)) b).length ≤ 300 := by rw [List.length_append]; omega
        generalize X ++ (List.range b).flatMap (q_br D S n a ms (q_cd g (4 - n))) = Y at hXl hR1
        have hT : ∀ {xr xe xk xt : Nat → Int32} {mn : Int32}, qTie (q_mw I m xr xe xk xt mn) m f D P U S dn R O W := mw_tie hdis ht
        have h3 : ∀ {xr xe xk xt : Nat → Int32} {mn : Int32}, q_mw I m xr xe xk xt mn f 3 = w S := fun {xr xe xk xt mn} => tie_3 (hT (xr := xr) (xe := xe) (xk := xk) (xt := xt) (mn := mn))
        have hh1 : ∀ {xr xe xk xt : Nat → Int32} {mn : Int32}, q_mw I m xr xe xk xt mn (f + 1) b = D 1 b := fun {xr xe xk xt mn} => tie_1 (hT (xr := xr) (xe := xe) (xk := xk) (xt := xt) (mn := mn)) hb
        have hxa1 := hxa xk1 h01 hk1
        have hdl : 4 - n < 6 := by omega
        have hdl2 : 4 - n + 1 < 6 := by omega
        have on := isOn_eq (I := I) (L := L) (s := s) (m := m) (xr := xr1) (xe := xe1) (xk := xk1) (xt := q_set xt1 (4 - n) (w (b + 1))) (mn := w Y.length) hm.1 (w b) (k := 4 - n + 1) (by omega)
        have hon : q_any (fun i => decide (xk1 i = w b)) (4 - n + 1) = true ↔ ms / 2 ^ b % 2 = 1 := by
          rw [any_iff, hmk b (by omega)]
          constructor
          · rintro ⟨i, hi, he⟩
            have he := of_decide_eq_true he
            cases i with
            | zero => rw [h01, w_eq (by omega) (by omega)] at he; exact Or.inl he.symm
            | succ i =>
              have hg := hp.1 i (by omega)
              rw [hk1 i (by omega), w_eq (by omega) (by omega)] at he
              exact Or.inr ⟨i, by omega, he⟩
          · rintro (rfl | ⟨i, hi, rfl⟩)
            · exact ⟨0, by omega, decide_eq_true h01⟩
            · exact ⟨i + 1, by omega, decide_eq_true (hk1 i hi)⟩
        have hskip : q_br D S n a ms (q_cd g (4 - n)) b = [] → ∃ y, jd 260 1 [some (.ref m), none, some (.int (w (4 - n + 1))), none, none] [] (q_mw I m xr1 xe1 xk1 (q_set xt1 (4 - n) (w (b + 1))) (w Y.length), L, s) = jd 260 1 [some (.ref m), none, some (.int (w (4 - n + 1))), none, none] [] (y, L, s) ∧ ∃ xr1 xe1 xk1 xt1, y = q_mw I m xr1 xe1 xk1 xt1 (w (Y ++ q_br D S n a ms (q_cd g (4 - n)) b).length) ∧ qRW D S h (Y ++ q_br D S n a ms (q_cd g (4 - n)) b) xr1 xe1 ∧ xk1 0 = w h ∧ (∀ i, i < 4 - n → xk1 (i + 1) = w (g i)) ∧ xt1 (4 - n) = w (b + 1) ∧ ∀ i, i < 4 - n → xt1 i = xt i := by
          intro h9
          rw [h9, List.append_nil]
          exact ⟨_, rfl, _, _, _, _, rfl, hR1, h01, hk1, q_set_eq, fun i hi => by rw [q_set_ne (by omega)]; exact hxs i hi⟩
        show ∃ y, jd 260 1 _ _ _ = jd 260 1 _ _ _ ∧ _
        rw [E_260_1]
        simp only [show ¬ w (4 - n + 1) ≤ 0 by rw [show (0 : Int32) = w 0 from rfl, w_le (by omega) (by omega)]; omega, show ¬ w (4 - n + 1) = 6 by rw [show (6 : Int32) = w 6 from rfl, w_eq (by omega) (by omega)]; omega, ↓reduceIte, q_i, q_l, q_k, q_r, q_z, q_si, q_sl, jx_lt, jx_ri, jx_rl, jx_rv, if_true, if_false, Nat.reduceLeDiff, Nat.add_one_ne_zero, and_self, true_or, or_true, Nat.reduceEqDiff, or_self, or_false, false_or, mo_k hm.1, mo_r5 hm.1, mo_k5 hm.1, mo_z5 hm.1, mo_r16 hm.1, mo_k16 hm.1, mo_z16 hm.1, mo_r17 hm.1, mo_k17 hm.1, mo_z17 hm.1, mo_r18 hm.1, mo_k18 hm.1, mo_z18 hm.1, mo_r21 hm.1, mo_k21 hm.1, mo_z21 hm.1, mo_r22 hm.1, mo_k22 hm.1, mo_z22 hm.1, mo_r23 hm.1, mo_k23 hm.1, mo_z23 hm.1, mo_r24 hm.1, mo_k24 hm.1, mo_z24 hm.1, mo_r25 hm.1, mo_k25 hm.1, mo_z25 hm.1, mo_r26 hm.1, mo_k26 hm.1, mo_z26 hm.1, mo_r27 hm.1, mo_k27 hm.1, mo_z27 hm.1, mo_r29 hm.1, mo_k29 hm.1, mo_z29 hm.1, mo_r30 hm.1, mo_k30 hm.1, mo_z30 hm.1, mo_r31 hm.1, mo_k31 hm.1, mo_z31 hm.1, mo_r32 hm.1, mo_k32 hm.1, mo_z32 hm.1, mo_r40 hm.1, mo_k40 hm.1, mo_z40 hm.1, mo_r43 hm.1, mo_k43 hm.1, mo_z43 hm.1, mo_r44 hm.1, mo_k44 hm.1, mo_z44 hm.1, mf_k hm.2.1, mf_r14 hm.2.1, mf_k14 hm.2.1, mf_z14 hm.2.1, mf_r15 hm.2.1, mf_k15 hm.2.1, mf_z15 hm.2.1, mf_r16 hm.2.1, mf_k16 hm.2.1, mf_z16 hm.2.1, mf_r17 hm.2.1, mf_k17 hm.2.1, mf_z17 hm.2.1, mf_r18 hm.2.1, mf_k18 hm.2.1, mf_z18 hm.2.1, mf_r19 hm.2.1, mf_k19 hm.2.1, mf_z19 hm.2.1, mf_r20 hm.2.1, mf_k20 hm.2.1, mf_z20 hm.2.1, mf_r21 hm.2.1, mf_k21 hm.2.1, mf_z21 hm.2.1, mf_r22 hm.2.1, mf_k22 hm.2.1, mf_z22 hm.2.1, mf_r23 hm.2.1, mf_k23 hm.2.1, mf_z23 hm.2.1, mf_r24 hm.2.1, mf_k24 hm.2.1, mf_z24 hm.2.1, mf_r25 hm.2.1, mf_k25 hm.2.1, mf_z25 hm.2.1, mf_r26 hm.2.1, mf_k26 hm.2.1, mf_z26 hm.2.1, mf_r27 hm.2.1, mf_k27 hm.2.1, mf_z27 hm.2.1, mf_r28 hm.2.1, mf_k28 hm.2.1, mf_z28 hm.2.1, mf_r29 hm.2.1, mf_k29 hm.2.1, mf_z29 hm.2.1, mf_r30 hm.2.1, mf_k30 hm.2.1, mf_z30 hm.2.1, mf_r31 hm.2.1, mf_k31 hm.2.1, mf_z31 hm.2.1, mf_r32 hm.2.1, mf_k32 hm.2.1, mf_z32 hm.2.1, mf_r33 hm.2.1, mf_k33 hm.2.1, mf_z33 hm.2.1, mf_r34 hm.2.1, mf_k34 hm.2.1, mf_z34 hm.2.1, mf_r35 hm.2.1, mf_k35 hm.2.1, mf_z35 hm.2.1, mf_r36 hm.2.1, mf_k36 hm.2.1, mf_z36 hm.2.1, hm.2.2.1, hm.2.2.2, q_mw_o, q_mw_xr, q_mw_xe, q_mw_xk, q_mw_xt, q_mw_uxr, q_mw_uxe, q_mw_uxk, q_mw_uxt, q_mw_umn, q_mw_gmn, w_sub1 (k := 4 - n) (by omega), w_nn (a := 4 - n) (by omega), show ¬ 6 ≤ 4 - n by omega, w_tc (a := 4 - n) (by omega), hx1, h3, show ¬ w b = w S by rw [w_eq (by omega) (by omega)]; omega, E_260_3, w_inc, q_set_ne, hxa1]
        rcases tie_2 (hT (xr := xr1) (xe := xe1) (xk := xk1) (xt := q_set xt1 (4 - n) (w (b + 1))) (mn := w Y.length)) (i := 8 * a + b) (by omega) with ⟨z1, z2⟩ | ⟨x, y, z1, z2, z3, z4, z5, z6⟩
        · have hw := mWay_eq (L := L) (J := q_mw I m xr1 xe1 xk1 (q_set xt1 (4 - n) (w (b + 1))) (w Y.length)) hm.2.1 (a := a) (b := b) (by omega) (by omega) z2
          simp only [hw, ↓reduceIte, q_i, q_l, q_k, q_r, q_z, q_si, q_sl, jx_lt, jx_ri, jx_rl, jx_rv, if_true, if_false, Nat.reduceLeDiff, Nat.add_one_ne_zero, and_self, true_or, or_true, Nat.reduceEqDiff, or_self, or_false, false_or]
          refine hskip ?_
          unfold q_br
          rw [if_neg (fun z => z.2 (by rw [z1]; exact m2_lt))]
        · have hw := mWay_eq (L := L) (J := q_mw I m xr1 xe1 xk1 (q_set xt1 (4 - n) (w (b + 1))) (w Y.length)) hm.2.1 (a := a) (b := b) (by omega) (by omega) z5
          have hway : ¬ D 2 (8 * a + b) < 0 := by rw [z1]; exact w_nn (by omega)
          simp only [hw, ↓reduceIte, q_i, q_l, q_k, q_r, q_z, q_si, q_sl, jx_lt, jx_ri, jx_rl, jx_rv, if_true, if_false, Nat.reduceLeDiff, Nat.add_one_ne_zero, and_self, true_or, or_true, Nat.reduceEqDiff, or_self, or_false, false_or, w_m1 (a := x) (by omega), show ¬ (1 : Int32) = 0 by decide, on, mo_k hm.1]
          by_cases c1 : ms / 2 ^ b % 2 = 1
          · simp only [hon.mpr c1, ↓reduceIte, q_i, q_l, q_k, q_r, q_z, q_si, q_sl, jx_lt, jx_ri, jx_rl, jx_rv, if_true, if_false, Nat.reduceLeDiff, Nat.add_one_ne_zero, and_self, true_or, or_true, Nat.reduceEqDiff, or_self, or_false, false_or, show ¬ (1 : Int32) = 0 by decide]
            refine hskip ?_
            unfold q_br
            rw [if_neg (fun z => by have := z.1; omega)]
          · have c2 : ms / 2 ^ b % 2 = 0 := by omega
            have c3 : ¬ q_any (fun i => decide (xk1 i = w b)) (4 - n + 1) = true := fun z => c1 (hon.mp z)
            have hidx : (if (5 : Int32) ≤ w (4 - n + 1) then (5 : Int32) else w (4 - n + 1)) = w (4 - n + 1) := by
              by_cases q : (5 : Int32) ≤ w (4 - n + 1)
              · rw [if_pos q]
                rw [show (5 : Int32) = w 5 from rfl, w_le (by omega) (by omega)] at q
                rw [show 4 - n + 1 = 5 by omega]; rfl
              · rw [if_neg q]
            have ebr : q_br D S n a ms (q_cd g (4 - n)) b = (if D 1 b = 2 then [q_cd g (4 - n) + (b + 1) * 16 ^ (4 - n)] else []) ++ q_outs D S n b (ms + 2 ^ b) (q_cd g (4 - n) + (b + 1) * 16 ^ (4 - n)) := by
              unfold q_br
              rw [if_pos ⟨c2, hway⟩]
            obtain ⟨hp2, hc2⟩ := path_ext hp hb (by rw [ha]; exact hway)
            rw [← hc2] at ebr
            rw [ebr] at hXl ⊢
            rw [List.length_append] at hXl
            have hmk2 : ∀ v, v < 8 → ((ms + 2 ^ b) / 2 ^ v % 2 = 1 ↔ v = h ∨ ∃ i, i < 4 - n + 1 ∧ (fun i => if i = 4 - n then b else g i) i = v) := by
              intro v hv
              rw [(add_bit hms (show b < 8 by omega) hv c2).2, hmk v hv]
              constructor
              · rintro (rfl | z | ⟨i, hi, z⟩)
                · exact Or.inr ⟨4 - n, by omega, if_pos rfl⟩
                · exact Or.inl z
                · exact Or.inr ⟨i, by omega, by show (if i = 4 - n then b else g i) = v; rw [if_neg (by omega)]; exact z⟩
              · rintro (z | ⟨i, hi, z⟩)
                · exact Or.inr (Or.inl z)
                · have z' : (if i = 4 - n then b else g i) = v := z
                  by_cases q : i = 4 - n
                  · rw [if_pos q] at z'; exact Or.inl z'.symm
                  · rw [if_neg q] at z'; exact Or.inr (Or.inr ⟨i, by omega, z'⟩)
            have hk2 : ∀ i, i < 4 - n + 1 → q_set xk1 (4 - n + 1) (w b) (i + 1) = w ((fun i => if i = 4 - n then b else g i) i) := by
              intro i hi
              show _ = w (if i = 4 - n then b else g i)
              by_cases q : i = 4 - n
              · rw [if_pos q, q, q_set_eq]
              · rw [if_neg q, q_set_ne (by omega)]; exact hk1 i (by omega)
            have go : ∀ (Z : List Nat) (xr2 xe2 : Nat → Int32), qRW D S h Z xr2 xe2 → Z.length + (q_outs D S n b (ms + 2 ^ b) (q_cd (fun i => if i = 4 - n then b else g i) (4 - n + 1))).length ≤ 300 →
                ∃ y, jd 260 1 [some (.ref m), none, some (.int (w (4 - n + 1 + 1))), none, none] [] (q_mw I m xr2 xe2 (q_set xk1 (4 - n + 1) (w b)) (q_set (q_set xt1 (4 - n) (w (b + 1))) (4 - n + 1) 0) (w Z.length), L, s) = jd 260 1 [some (.ref m), none, some (.int (w (4 - n + 1))), none, none] [] (y, L, s) ∧ ∃ xr1 xe1 xk1 xt1, y = q_mw I m xr1 xe1 xk1 xt1 (w (Z ++ q_outs D S n b (ms + 2 ^ b) (q_cd (fun i => if i = 4 - n then b else g i) (4 - n + 1))).length) ∧ qRW D S h (Z ++ q_outs D S n b (ms + 2 ^ b) (q_cd (fun i => if i = 4 - n then b else g i) (4 - n + 1))) xr1 xe1 ∧ xk1 0 = w h ∧ (∀ i, i < 4 - n → xk1 (i + 1) = w (g i)) ∧ xt1 (4 - n) = w (b + 1) ∧ ∀ i, i < 4 - n → xt1 i = xt i := by
              intro Z xr2 xe2 hR2 hZ
              have h9 := ih (by omega) (fun i => if i = 4 - n then b else g i) (ms + 2 ^ b) Z xr2 xe2 (q_set xk1 (4 - n + 1) (w b)) (q_set (q_set xt1 (4 - n) (w (b + 1))) (4 - n + 1) 0)
              rw [hd1, if_neg (by omega), Nat.add_sub_cancel, if_pos rfl] at h9
              obtain ⟨a1, a2, a3, a4, a5, a6, a7, a8, a9⟩ := h9 hp2 (add_bit hms (show b < 8 by omega) (show b < 8 by omega) c2).1 hmk2 (by rw [q_set_ne (by omega)]; exact h01) hk2 q_set_eq hR2 hZ
              refine ⟨_, a5, a1, a2, a3, a4, rfl, a6, a7, fun i hi => ?_, ?_, fun i hi => ?_⟩
              · have := a8 i (by omega)
                rw [if_neg (show ¬ i = 4 - n by omega)] at this
                exact this
              · rw [a9 (4 - n) (by omega), q_set_ne (by omega), q_set_eq]
              · rw [a9 i (by omega), q_set_ne (by omega), q_set_ne (by omega)]; exact hxs i hi
            have fin : ∀ idx : Int32, idx = w (4 - n + 1) → ∃ y, jd 260 6 [some (.ref m), none, some (.int (w (4 - n + 1))), some (.int (w b)), none] [.int idx, .ref (m + 15)] (q_mw I m xr1 xe1 (q_set xk1 (4 - n + 1) (w b)) (q_set xt1 (4 - n) (w (b + 1))) (w Y.length), L, s) = jd 260 1 [some (.ref m), none, some (.int (w (4 - n + 1))), none, none] [] (y, L, s) ∧ ∃ xr1 xe1 xk1 xt1, y = q_mw I m xr1 xe1 xk1 xt1 (w (Y ++ ((if D 1 b = 2 then [q_cd (fun i => if i = 4 - n then b else g i) (4 - n + 1)] else []) ++ q_outs D S n b (ms + 2 ^ b) (q_cd (fun i => if i = 4 - n then b else g i) (4 - n + 1)))).length) ∧ qRW D S h (Y ++ ((if D 1 b = 2 then [q_cd (fun i => if i = 4 - n then b else g i) (4 - n + 1)] else []) ++ q_outs D S n b (ms + 2 ^ b) (q_cd (fun i => if i = 4 - n then b else g i) (4 - n + 1)))) xr1 xe1 ∧ xk1 0 = w h ∧ (∀ i, i < 4 - n → xk1 (i + 1) = w (g i)) ∧ xt1 (4 - n) = w (b + 1) ∧ ∀ i, i < 4 - n → xt1 i = xt i := by
              intro idx hi
              subst hi
              rw [E_260_6]
              simp only [↓reduceIte, q_i, q_l, q_k, q_r, q_z, q_si, q_sl, jx_lt, jx_ri, jx_rl, jx_rv, if_true, if_false, Nat.reduceLeDiff, Nat.add_one_ne_zero, and_self, true_or, or_true, Nat.reduceEqDiff, or_self, or_false, false_or, mo_k hm.1, mo_r5 hm.1, mo_k5 hm.1, mo_z5 hm.1, mo_r16 hm.1, mo_k16 hm.1, mo_z16 hm.1, mo_r17 hm.1, mo_k17 hm.1, mo_z17 hm.1, mo_r18 hm.1, mo_k18 hm.1, mo_z18 hm.1, mo_r21 hm.1, mo_k21 hm.1, mo_z21 hm.1, mo_r22 hm.1, mo_k22 hm.1, mo_z22 hm.1, mo_r23 hm.1, mo_k23 hm.1, mo_z23 hm.1, mo_r24 hm.1, mo_k24 hm.1, mo_z24 hm.1, mo_r25 hm.1, mo_k25 hm.1, mo_z25 hm.1, mo_r26 hm.1, mo_k26 hm.1, mo_z26 hm.1, mo_r27 hm.1, mo_k27 hm.1, mo_z27 hm.1, mo_r29 hm.1, mo_k29 hm.1, mo_z29 hm.1, mo_r30 hm.1, mo_k30 hm.1, mo_z30 hm.1, mo_r31 hm.1, mo_k31 hm.1, mo_z31 hm.1, mo_r32 hm.1, mo_k32 hm.1, mo_z32 hm.1, mo_r40 hm.1, mo_k40 hm.1, mo_z40 hm.1, mo_r43 hm.1, mo_k43 hm.1, mo_z43 hm.1, mo_r44 hm.1, mo_k44 hm.1, mo_z44 hm.1, mf_k hm.2.1, mf_r14 hm.2.1, mf_k14 hm.2.1, mf_z14 hm.2.1, mf_r15 hm.2.1, mf_k15 hm.2.1, mf_z15 hm.2.1, mf_r16 hm.2.1, mf_k16 hm.2.1, mf_z16 hm.2.1, mf_r17 hm.2.1, mf_k17 hm.2.1, mf_z17 hm.2.1, mf_r18 hm.2.1, mf_k18 hm.2.1, mf_z18 hm.2.1, mf_r19 hm.2.1, mf_k19 hm.2.1, mf_z19 hm.2.1, mf_r20 hm.2.1, mf_k20 hm.2.1, mf_z20 hm.2.1, mf_r21 hm.2.1, mf_k21 hm.2.1, mf_z21 hm.2.1, mf_r22 hm.2.1, mf_k22 hm.2.1, mf_z22 hm.2.1, mf_r23 hm.2.1, mf_k23 hm.2.1, mf_z23 hm.2.1, mf_r24 hm.2.1, mf_k24 hm.2.1, mf_z24 hm.2.1, mf_r25 hm.2.1, mf_k25 hm.2.1, mf_z25 hm.2.1, mf_r26 hm.2.1, mf_k26 hm.2.1, mf_z26 hm.2.1, mf_r27 hm.2.1, mf_k27 hm.2.1, mf_z27 hm.2.1, mf_r28 hm.2.1, mf_k28 hm.2.1, mf_z28 hm.2.1, mf_r29 hm.2.1, mf_k29 hm.2.1, mf_z29 hm.2.1, mf_r30 hm.2.1, mf_k30 hm.2.1, mf_z30 hm.2.1, mf_r31 hm.2.1, mf_k31 hm.2.1, mf_z31 hm.2.1, mf_r32 hm.2.1, mf_k32 hm.2.1, mf_z32 hm.2.1, mf_r33 hm.2.1, mf_k33 hm.2.1, mf_z33 hm.2.1, mf_r34 hm.2.1, mf_k34 hm.2.1, mf_z34 hm.2.1, mf_r35 hm.2.1, mf_k35 hm.2.1, mf_z35 hm.2.1, mf_r36 hm.2.1, mf_k36 hm.2.1, mf_z36 hm.2.1, hm.2.2.1, hm.2.2.2, q_mw_o, q_mw_xr, q_mw_xe, q_mw_xk, q_mw_xt, q_mw_uxr, q_mw_uxe, q_mw_uxk, q_mw_uxt, q_mw_umn, q_mw_gmn, w_nn (a := 4 - n + 1) (by omega), show ¬ 6 ≤ 4 - n + 1 by omega, w_tc (a := 4 - n + 1) (by omega), w_nn (a := b) (by omega), show ¬ 8 ≤ b by omega, w_tc (a := b) (by omega), hh1, w_inc]
              by_cases c4 : D 1 b = 2
              · rw [if_pos c4] at hXl ⊢
                have hYl : Y.length < 300 := by
                  rw [List.length_singleton] at hXl
                  omega
                simp only [c4, ↓reduceIte, q_i, q_l, q_k, q_r, q_z, q_si, q_sl, jx_lt, jx_ri, jx_rl, jx_rv, if_true, if_false, Nat.reduceLeDiff, Nat.add_one_ne_zero, and_self, true_or, or_true, Nat.reduceEqDiff, or_self, or_false, false_or]
                rw [row_eq hm hYl (k := 4 - n + 1 + 1) (by omega) (by omega), Nat.add_sub_cancel]
                have hr2 := rw_add (xk' := q_set xk1 (4 - n + 1) (w b)) hR1 (k := 4 - n + 1) (by omega) (by omega) hp2 (by rw [q_set_ne (by omega)]; exact h01) hk2
                have hg := go (Y ++ [q_cd (fun i => if i = 4 - n then b else g i) (4 - n + 1)]) _ _ hr2 (by rw [List.length_append]; omega)
                rw [List.length_append, List.length_singleton, List.append_assoc] at hg
                exact hg
              · rw [if_neg c4] at hXl ⊢
                simp only [c4, ↓reduceIte, q_i, q_l, q_k, q_r, q_z, q_si, q_sl, jx_lt, jx_ri, jx_rl, jx_rv, if_true, if_false, Nat.reduceLeDiff, Nat.add_one_ne_zero, and_self, true_or, or_true, Nat.reduceEqDiff, or_self, or_false, false_or]
                rw [List.nil_append]
                exact go Y xr1 xe1 hR1 (by rw [List.length_nil] at hXl; omega)
            simp only [c3, ↓reduceIte, q_i, q_l, q_k, q_r, q_z, q_si, q_sl, jx_lt, jx_ri, jx_rl, jx_rv, if_true, if_false, Nat.reduceLeDiff, Nat.add_one_ne_zero, and_self, true_or, or_true, Nat.reduceEqDiff, or_self, or_false, false_or, E_260_4, mo_k hm.1, mo_r5 hm.1, mo_k5 hm.1, mo_z5 hm.1, mo_r16 hm.1, mo_k16 hm.1, mo_z16 hm.1, mo_r17 hm.1, mo_k17 hm.1, mo_z17 hm.1, mo_r18 hm.1, mo_k18 hm.1, mo_z18 hm.1, mo_r21 hm.1, mo_k21 hm.1, mo_z21 hm.1, mo_r22 hm.1, mo_k22 hm.1, mo_z22 hm.1, mo_r23 hm.1, mo_k23 hm.1, mo_z23 hm.1, mo_r24 hm.1, mo_k24 hm.1, mo_z24 hm.1, mo_r25 hm.1, mo_k25 hm.1, mo_z25 hm.1, mo_r26 hm.1, mo_k26 hm.1, mo_z26 hm.1, mo_r27 hm.1, mo_k27 hm.1, mo_z27 hm.1, mo_r29 hm.1, mo_k29 hm.1, mo_z29 hm.1, mo_r30 hm.1, mo_k30 hm.1, mo_z30 hm.1, mo_r31 hm.1, mo_k31 hm.1, mo_z31 hm.1, mo_r32 hm.1, mo_k32 hm.1, mo_z32 hm.1, mo_r40 hm.1, mo_k40 hm.1, mo_z40 hm.1, mo_r43 hm.1, mo_k43 hm.1, mo_z43 hm.1, mo_r44 hm.1, mo_k44 hm.1, mo_z44 hm.1, mf_k hm.2.1, mf_r14 hm.2.1, mf_k14 hm.2.1, mf_z14 hm.2.1, mf_r15 hm.2.1, mf_k15 hm.2.1, mf_z15 hm.2.1, mf_r16 hm.2.1, mf_k16 hm.2.1, mf_z16 hm.2.1, mf_r17 hm.2.1, mf_k17 hm.2.1, mf_z17 hm.2.1, mf_r18 hm.2.1, mf_k18 hm.2.1, mf_z18 hm.2.1, mf_r19 hm.2.1, mf_k19 hm.2.1, mf_z19 hm.2.1, mf_r20 hm.2.1, mf_k20 hm.2.1, mf_z20 hm.2.1, mf_r21 hm.2.1, mf_k21 hm.2.1, mf_z21 hm.2.1, mf_r22 hm.2.1, mf_k22 hm.2.1, mf_z22 hm.2.1, mf_r23 hm.2.1, mf_k23 hm.2.1, mf_z23 hm.2.1, mf_r24 hm.2.1, mf_k24 hm.2.1, mf_z24 hm.2.1, mf_r25 hm.2.1, mf_k25 hm.2.1, mf_z25 hm.2.1, mf_r26 hm.2.1, mf_k26 hm.2.1, mf_z26 hm.2.1, mf_r27 hm.2.1, mf_k27 hm.2.1, mf_z27 hm.2.1, mf_r28 hm.2.1, mf_k28 hm.2.1, mf_z28 hm.2.1, mf_r29 hm.2.1, mf_k29 hm.2.1, mf_z29 hm.2.1, mf_r30 hm.2.1, mf_k30 hm.2.1, mf_z30 hm.2.1, mf_r31 hm.2.1, mf_k31 hm.2.1, mf_z31 hm.2.1, mf_r32 hm.2.1, mf_k32 hm.2.1, mf_z32 hm.2.1, mf_r33 hm.2.1, mf_k33 hm.2.1, mf_z33 hm.2.1, mf_r34 hm.2.1, mf_k34 hm.2.1, mf_z34 hm.2.1, mf_r35 hm.2.1, mf_k35 hm.2.1, mf_z35 hm.2.1, mf_r36 hm.2.1, mf_k36 hm.2.1, mf_z36 hm.2.1, hm.2.2.1, hm.2.2.2, q_mw_o, q_mw_xr, q_mw_xe, q_mw_xk, q_mw_xt, q_mw_uxr, q_mw_uxe, q_mw_uxk, q_mw_uxt, q_mw_umn, q_mw_gmn, w_nn (a := 4 - n + 1) (by omega), show ¬ 6 ≤ 4 - n + 1 by omega, w_tc (a := 4 - n + 1) (by omega)]
            by_cases q : (5 : Int32) ≤ w (4 - n + 1)
            · simp only [q, ↓reduceIte, q_i, q_l, q_k, q_r, q_z, q_si, q_sl, jx_lt, jx_ri, jx_rl, jx_rv, if_true, if_false, Nat.reduceLeDiff, Nat.add_one_ne_zero, and_self, true_or, or_true, Nat.reduceEqDiff, or_self, or_false, false_or, E_260_5]
              rw [if_pos q] at hidx
              exact fin _ hidx
            · simp only [q, ↓reduceIte, q_i, q_l, q_k, q_r, q_z, q_si, q_sl, jx_lt, jx_ri, jx_rl, jx_rv, if_true, if_false, Nat.reduceLeDiff, Nat.add_one_ne_zero, and_self, true_or, or_true, Nat.reduceEqDiff, or_self, or_false, false_or]
              exact fin _ rfl) (q_mw I m xr xe xk xt (w X.length)) ⟨xr, xe, xk, xt, by show _ = q_mw I m xr xe xk xt (w (X ++ []).length); rw [List.append_nil], by show qRW D S h (X ++ []) xr xe; rw [List.append_nil]; exact hR, h0, hk, hx, fun _ _ => rfl⟩
    refine ⟨xr1, xe1, xk1, xt1, ?_, hR1, h01, hk1, hxs⟩
    refine Eq.trans e1 ?_
    have h3 : ∀ {xr xe xk xt : Nat → Int32} {mn : Int32}, q_mw I m xr xe xk xt mn f 3 = w S := fun {xr xe xk xt mn} => tie_3 (mw_tie (xr := xr) (xe := xe) (xk := xk) (xt := xt) (mn := mn) hdis ht)
    have hdl : 4 - n < 6 := by omega
    show jd 260 1 _ _ _ = _
    rw [E_260_1]
    simp only [show ¬ w (4 - n + 1) ≤ 0 by rw [show (0 : Int32) = w 0 from rfl, w_le (by omega) (by omega)]; omega, show ¬ w (4 - n + 1) = 6 by rw [show (6 : Int32) = w 6 from rfl, w_eq (by omega) (by omega)]; omega, ↓reduceIte, q_i, q_l, q_k, q_r, q_z, q_si, q_sl, jx_lt, jx_ri, jx_rl, jx_rv, if_true, if_false, Nat.reduceLeDiff, Nat.add_one_ne_zero, and_self, true_or, or_true, Nat.reduceEqDiff, or_self, or_false, false_or, mo_k hm.1, mo_r5 hm.1, mo_k5 hm.1, mo_z5 hm.1, mo_r16 hm.1, mo_k16 hm.1, mo_z16 hm.1, mo_r17 hm.1, mo_k17 hm.1, mo_z17 hm.1, mo_r18 hm.1, mo_k18 hm.1, mo_z18 hm.1, mo_r21 hm.1, mo_k21 hm.1, mo_z21 hm.1, mo_r22 hm.1, mo_k22 hm.1, mo_z22 hm.1, mo_r23 hm.1, mo_k23 hm.1, mo_z23 hm.1, mo_r24 hm.1, mo_k24 hm.1, mo_z24 hm.1, mo_r25 hm.1, mo_k25 hm.1, mo_z25 hm.1, mo_r26 hm.1, mo_k26 hm.1, mo_z26 hm.1, mo_r27 hm.1, mo_k27 hm.1, mo_z27 hm.1, mo_r29 hm.1, mo_k29 hm.1, mo_z29 hm.1, mo_r30 hm.1, mo_k30 hm.1, mo_z30 hm.1, mo_r31 hm.1, mo_k31 hm.1, mo_z31 hm.1, mo_r32 hm.1, mo_k32 hm.1, mo_z32 hm.1, mo_r40 hm.1, mo_k40 hm.1, mo_z40 hm.1, mo_r43 hm.1, mo_k43 hm.1, mo_z43 hm.1, mo_r44 hm.1, mo_k44 hm.1, mo_z44 hm.1, mf_k hm.2.1, mf_r14 hm.2.1, mf_k14 hm.2.1, mf_z14 hm.2.1, mf_r15 hm.2.1, mf_k15 hm.2.1, mf_z15 hm.2.1, mf_r16 hm.2.1, mf_k16 hm.2.1, mf_z16 hm.2.1, mf_r17 hm.2.1, mf_k17 hm.2.1, mf_z17 hm.2.1, mf_r18 hm.2.1, mf_k18 hm.2.1, mf_z18 hm.2.1, mf_r19 hm.2.1, mf_k19 hm.2.1, mf_z19 hm.2.1, mf_r20 hm.2.1, mf_k20 hm.2.1, mf_z20 hm.2.1, mf_r21 hm.2.1, mf_k21 hm.2.1, mf_z21 hm.2.1, mf_r22 hm.2.1, mf_k22 hm.2.1, mf_z22 hm.2.1, mf_r23 hm.2.1, mf_k23 hm.2.1, mf_z23 hm.2.1, mf_r24 hm.2.1, mf_k24 hm.2.1, mf_z24 hm.2.1, mf_r25 hm.2.1, mf_k25 hm.2.1, mf_z25 hm.2.1, mf_r26 hm.2.1, mf_k26 hm.2.1, mf_z26 hm.2.1, mf_r27 hm.2.1, mf_k27 hm.2.1, mf_z27 hm.2.1, mf_r28 hm.2.1, mf_k28 hm.2.1, mf_z28 hm.2.1, mf_r29 hm.2.1, mf_k29 hm.2.1, mf_z29 hm.2.1, mf_r30 hm.2.1, mf_k30 hm.2.1, mf_z30 hm.2.1, mf_r31 hm.2.1, mf_k31 hm.2.1, mf_z31 hm.2.1, mf_r32 hm.2.1, mf_k32 hm.2.1, mf_z32 hm.2.1, mf_r33 hm.2.1, mf_k33 hm.2.1, mf_z33 hm.2.1, mf_r34 hm.2.1, mf_k34 hm.2.1, mf_z34 hm.2.1, mf_r35 hm.2.1, mf_k35 hm.2.1, mf_z35 hm.2.1, mf_r36 hm.2.1, mf_k36 hm.2.1, mf_z36 hm.2.1, hm.2.2.1, hm.2.2.2, q_mw_o, q_mw_xr, q_mw_xe, q_mw_xk, q_mw_xt, q_mw_uxr, q_mw_uxe, q_mw_uxk, q_mw_uxt, q_mw_umn, q_mw_gmn, w_sub1 (k := 4 - n) (by omega), w_nn (a := 4 - n) (by omega), show ¬ 6 ≤ 4 - n by omega, w_tc (a := 4 - n) (by omega), hx1, h3, E_260_2]
    rw [show w (4 - n + 1) + (-1) = w (4 - n) by rw [← w_sub1 (k := 4 - n) (by omega), Int32.sub_eq_add_neg]]
/-- all ways out are laid -/
theorem lays_eq (hm : qMF s m f) (hdis : f + 24 ≤ m ∨ m + 19 ≤ f) (ht : qTie I m f D P U S dn R O W) {u h : Nat} (hu : u < U) (eh : D 6 u = w h) (hh : h < S) :
    ∃ xr xe xk xt, jD 260 [.ref m, .int (w u)] (I, L, s) = some (none, q_mw I m xr xe xk xt (w (q_all D S h).length), L, s) ∧ qRW D S h (q_all D S h) xr xe ∧ (q_all D S h).length ≤ 300 := by
  have hS9 := ht.1.1.2.2.2.1
  have hU9 := ht.1.1.2.1
  have hlen := all_len (D := D) hS9 hh ht.2.1.2.2.2.2.2.2.2.1
  have e0 : (I, L, s) = (q_mw I m (I (m + 12)) (I (m + 13)) (I (m + 14)) (I (m + 15)) (I m 33), L, s) := by rw [q_mw_self]
  have h6 : ∀ {xr xe xk xt : Nat → Int32} {mn : Int32}, q_mw I m xr xe xk xt mn (f + 6) u = w h := fun {xr xe xk xt mn} => (((mw_tie (xr := xr) (xe := xe) (xk := xk) (xt := xt) (mn := mn) hdis ht).1.2.2.1.2.2.2.2.2 u hu).2).trans eh
  obtain ⟨xr, xe, xk, xt, a1, a2, -⟩ := lay_lev (L := L) hm hdis ht hh 5 (Nat.le_refl _) (fun _ => 0) (2 ^ h) [] (I (m + 12)) (I (m + 13)) (q_set (I (m + 14)) 0 (w h)) (q_set (I (m + 15)) 0 0)
    ⟨fun i hi => absurd hi (Nat.not_lt_zero _), fun z => absurd z (Nat.lt_irrefl _), fun i hi => absurd hi (Nat.not_lt_zero _)⟩ (Nat.lt_of_lt_of_le (Nat.pow_lt_pow_right (by omega) (show h < 8 by omega)) (by decide)) (fun b hb => by
      have key : ∀ h, h < 8 → ∀ b, b < 8 → (2 ^ h / 2 ^ b % 2 = 1 ↔ b = h) := by decide +kernel
      rw [key h (by omega) b hb]
      exact ⟨Or.inl, fun z => z.elim id (fun ⟨i, hi, _⟩ => absurd hi (Nat.not_lt_zero _))⟩) q_set_eq (fun i hi => absurd hi (Nat.not_lt_zero _)) q_set_eq (fun e he => absurd he (Nat.not_lt_zero _)) (by show 0 + (q_all D S h).length ≤ 300; omega)
  refine ⟨xr, xe, xk, xt, ?_, a2, hlen⟩
  rw [D_260, E_260_0, e0]
  simp only [↓reduceIte, q_i, q_l, q_k, q_r, q_z, q_si, q_sl, jx_lt, jx_ri, jx_rl, jx_rv, if_true, if_false, Nat.reduceLeDiff, Nat.add_one_ne_zero, and_self, true_or, or_true, Nat.reduceEqDiff, or_self, or_false, false_or, mo_k hm.1, mo_r5 hm.1, mo_k5 hm.1, mo_z5 hm.1, mo_r16 hm.1, mo_k16 hm.1, mo_z16 hm.1, mo_r17 hm.1, mo_k17 hm.1, mo_z17 hm.1, mo_r18 hm.1, mo_k18 hm.1, mo_z18 hm.1, mo_r21 hm.1, mo_k21 hm.1, mo_z21 hm.1, mo_r22 hm.1, mo_k22 hm.1, mo_z22 hm.1, mo_r23 hm.1, mo_k23 hm.1, mo_z23 hm.1, mo_r24 hm.1, mo_k24 hm.1, mo_z24 hm.1, mo_r25 hm.1, mo_k25 hm.1, mo_z25 hm.1, mo_r26 hm.1, mo_k26 hm.1, mo_z26 hm.1, mo_r27 hm.1, mo_k27 hm.1, mo_z27 hm.1, mo_r29 hm.1, mo_k29 hm.1, mo_z29 hm.1, mo_r30 hm.1, mo_k30 hm.1, mo_z30 hm.1, mo_r31 hm.1, mo_k31 hm.1, mo_z31 hm.1, mo_r32 hm.1, mo_k32 hm.1, mo_z32 hm.1, mo_r40 hm.1, mo_k40 hm.1, mo_z40 hm.1, mo_r43 hm.1, mo_k43 hm.1, mo_z43 hm.1, mo_r44 hm.1, mo_k44 hm.1, mo_z44 hm.1, mf_k hm.2.1, mf_r14 hm.2.1, mf_k14 hm.2.1, mf_z14 hm.2.1, mf_r15 hm.2.1, mf_k15 hm.2.1, mf_z15 hm.2.1, mf_r16 hm.2.1, mf_k16 hm.2.1, mf_z16 hm.2.1, mf_r17 hm.2.1, mf_k17 hm.2.1, mf_z17 hm.2.1, mf_r18 hm.2.1, mf_k18 hm.2.1, mf_z18 hm.2.1, mf_r19 hm.2.1, mf_k19 hm.2.1, mf_z19 hm.2.1, mf_r20 hm.2.1, mf_k20 hm.2.1, mf_z20 hm.2.1, mf_r21 hm.2.1, mf_k21 hm.2.1, mf_z21 hm.2.1, mf_r22 hm.2.1, mf_k22 hm.2.1, mf_z22 hm.2.1, mf_r23 hm.2.1, mf_k23 hm.2.1, mf_z23 hm.2.1, mf_r24 hm.2.1, mf_k24 hm.2.1, mf_z24 hm.2.1, mf_r25 hm.2.1, mf_k25 hm.2.1, mf_z25 hm.2.1, mf_r26 hm.2.1, mf_k26 hm.2.1, mf_z26 hm.2.1, mf_r27 hm.2.1, mf_k27 hm.2.1, mf_z27 hm.2.1, mf_r28 hm.2.1, mf_k28 hm.2.1, mf_z28 hm.2.1, mf_r29 hm.2.1, mf_k29 hm.2.1, mf_z29 hm.2.1, mf_r30 hm.2.1, mf_k30 hm.2.1, mf_z30 hm.2.1, mf_r31 hm.2.1, mf_k31 hm.2.1, mf_z31 hm.2.1, mf_r32 hm.2.1, mf_k32 hm.2.1, mf_z32 hm.2.1, mf_r33 hm.2.1, mf_k33 hm.2.1, mf_z33 hm.2.1, mf_r34 hm.2.1, mf_k34 hm.2.1, mf_z34 hm.2.1, mf_r35 hm.2.1, mf_k35 hm.2.1, mf_z35 hm.2.1, mf_r36 hm.2.1, mf_k36 hm.2.1, mf_z36 hm.2.1, hm.2.2.1, hm.2.2.2, q_mw_o, q_mw_xr, q_mw_xe, q_mw_xk, q_mw_xt, q_mw_uxr, q_mw_uxe, q_mw_uxk, q_mw_uxt, q_mw_umn, q_mw_gmn, w_nn (a := u) (by omega), show ¬ 6 ≤ u by omega, w_tc (a := u) (by omega), h6, show ¬ (0 : Int32) < 0 by decide, show ¬ 6 ≤ (0 : Int32).toNatClampNeg by decide, show (0 : Int32).toNatClampNeg = 0 from rfl]
  refine Eq.trans a1 ?_
  rw [E_260_1, if_pos (by decide), E_260_10]
  rfl
end LW
