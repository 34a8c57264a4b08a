/-! FLIGHT, the class: what is told takes its place -/
section CFi
variable {I : qI} {L : qL} {s : qS} {t t' U S dn : Nat}
theorem c40 (hp : qPl s 188) (hf : qFl s t) (ht : t + 39 ≤ 188) : ∃ I', jD 40 [.ref 188, .ref t] (I, L, s) = some (none, I', L, s) ∧ (∀ a, a ≠ 188 + 1 + 1 → I' a = I a) ∧ (∀ k, k < 6 → I' (188 + 1 + 1) k = qd I t 5 k ∧ I' (188 + 1 + 1) (6 + k) = qd I t 7 k ∧ I' (188 + 1 + 1) (12 + k) = qd I t 8 k) ∧ I' (188 + 1 + 1) 18 = 0 := by
  have r5 := fl_k hf (k := 5) (n := 6) (by omega) rfl
  have r7 := fl_k hf (k := 7) (n := 6) (by omega) rfl
  have r8 := fl_k hf (k := 8) (n := 6) (by omega) rfl
  obtain ⟨A1, h1⟩ : ∃ A, A = q_up I (188 + 1 + 1) (fun k => if 0 ≤ k ∧ k < 0 + 6 then I (t + 1 + 2 * 5 + 1) (0 + (k - 0)) else I (188 + 1 + 1) k) := ⟨_, rfl⟩
  obtain ⟨A2, h2⟩ : ∃ A, A = q_up A1 (188 + 1 + 1) (fun k => if 6 ≤ k ∧ k < 6 + 6 then A1 (t + 1 + 2 * 7 + 1) (0 + (k - 6)) else A1 (188 + 1 + 1) k) := ⟨_, rfl⟩
  obtain ⟨A3, h3⟩ : ∃ A, A = q_up A2 (188 + 1 + 1) (fun k => if 12 ≤ k ∧ k < 12 + 6 then A2 (t + 1 + 2 * 8 + 1) (0 + (k - 12)) else A2 (188 + 1 + 1) k) := ⟨_, rfl⟩
  obtain ⟨A4, h4⟩ : ∃ A, A = q_up A3 (188 + 1 + 1) (q_set (A3 (188 + 1 + 1)) 18 0) := ⟨_, rfl⟩
  have f1 : jD 83 [.ref (188 + 1), .int 0, .ref (t + 1 + 2 * 5), .int 0, .int 6] (I, L, s) = some (none, A1, L, s) := by rw [h1]; exact copy_eq hp.2.2 r5.2 (by omega) (to := 0) (fr := 0) (len := 6) (by omega) (by omega)
  have f2 : jD 83 [.ref (188 + 1), .int 6, .ref (t + 1 + 2 * 7), .int 0, .int 6] (A1, L, s) = some (none, A2, L, s) := by rw [h2]; exact copy_eq hp.2.2 r7.2 (by omega) (to := 6) (fr := 0) (len := 6) (by omega) (by omega)
  have f3 : jD 83 [.ref (188 + 1), .int 12, .ref (t + 1 + 2 * 8), .int 0, .int 6] (A2, L, s) = some (none, A3, L, s) := by rw [h3]; exact copy_eq hp.2.2 r8.2 (by omega) (to := 12) (fr := 0) (len := 6) (by omega) (by omega)
  have f4 : jD 80 [.ref (188 + 1), .int 18, .int 0] (A3, L, s) = some (none, A4, L, s) := by
    have e : q_put 19 (A3 (188 + 1 + 1)) 18 0 = q_set (A3 (188 + 1 + 1)) 18 0 := q_put_w (n := 19) (k := 18) (by omega) (by omega)
    rw [put_eq hp.2.2, e, h4]
  have o1 : ∀ k, A1 (t + 1 + 2 * k + 1) = if k < 19 then I (t + 1 + 2 * k + 1) else A1 (t + 1 + 2 * k + 1) := fun k => by
    by_cases c : k < 19
    · rw [if_pos c, h1, q_up_ne (by omega)]
    · rw [if_neg c]
  have a7 : A1 (t + 1 + 2 * 7 + 1) = I (t + 1 + 2 * 7 + 1) := (o1 7).trans (if_pos (by omega))
  have a8 : A2 (t + 1 + 2 * 8 + 1) = I (t + 1 + 2 * 8 + 1) := by rw [h2, q_up_ne (by omega)]; exact (o1 8).trans (if_pos (by omega))
  refine ⟨A4, ?_, fun a ha => ?_, fun k hk => ⟨?_, ?_, ?_⟩, ?_⟩
  · rw [D_40, E_40_0]
    simp only [↓reduceIte, q_i, q_l, q_k, q_r, q_z, q_si, q_sl, jx_lt, jx_ri, jx_rl, jx_rv, if_true, if_false, Nat.reduceLeDiff, Nat.add_one_ne_zero, and_self, true_or, or_true, Nat.reduceEqDiff, or_self, or_false, false_or, hp.1, hp.2.1, hp.2.2.1, hf.1, r5.1, r7.1, r8.1, f1, f2, f3, f4]
  · rw [h4, q_up_ne ha, h3, q_up_ne ha, h2, q_up_ne ha, h1, q_up_ne ha]
  · rw [h4, q_up_eq, q_set_ne (by omega), h3, q_up_eq]
    show (if 12 ≤ k ∧ k < 12 + 6 then _ else A2 (188 + 1 + 1) k) = _
    rw [if_neg (by omega), h2, q_up_eq]
    show (if 6 ≤ k ∧ k < 6 + 6 then _ else A1 (188 + 1 + 1) k) = _
    rw [if_neg (by omega), h1, q_up_eq]
    show (if 0 ≤ k ∧ k < 0 + 6 then I (t + 1 + 2 * 5 + 1) (0 + (k - 0)) else _) = _
    rw [if_pos (by omega), qd_at (by omega), Nat.zero_add, Nat.sub_zero]
  · rw [h4, q_up_eq, q_set_ne (by omega), h3, q_up_eq]
    show (if 12 ≤ 6 + k ∧ 6 + k < 12 + 6 then _ else A2 (188 + 1 + 1) (6 + k)) = _
    rw [if_neg (by omega), h2, q_up_eq]
    show (if 6 ≤ 6 + k ∧ 6 + k < 6 + 6 then A1 (t + 1 + 2 * 7 + 1) (0 + (6 + k - 6)) else _) = _
    rw [if_pos (by omega), a7, qd_at (by omega), Nat.zero_add, Nat.add_sub_cancel_left]
  · rw [h4, q_up_eq, q_set_ne (by omega), h3, q_up_eq]
    show (if 12 ≤ 12 + k ∧ 12 + k < 12 + 6 then A2 (t + 1 + 2 * 8 + 1) (0 + (12 + k - 12)) else _) = _
    rw [if_pos (by omega), a8, qd_at (by omega), Nat.zero_add, Nat.add_sub_cancel_left]
  · rw [h4, q_up_eq, q_set_eq]
/-- the graph once the flights have changed places -/
def q_swp (s : qS) (t t' : Nat) : qS := q_ptr (q_ptr (q_ptr (q_ptr (q_ptr s 181 5 t') 100 0 t') 100 1 t) 199 7 t') 199 8 188
theorem sw_r {a k : Nat} (h1 : a ≠ 181 ∨ k ≠ 5) (h2 : a ≠ 100 ∨ 2 ≤ k) (h3 : a ≠ 199 ∨ k < 7) : qr (q_swp s t t') a k = qr s a k := by
  unfold q_swp
  rw [ptr_r_ne (by omega), ptr_r_ne (by omega), ptr_r_ne (by omega), ptr_r_ne (by omega), ptr_r_ne (by omega)]
theorem xo_sw (hx : qXo s t t') : qXo (q_swp s t t') t' t := by
  refine xo_re (u := t') (u' := t) hx (fun _ => rfl) (fun _ => rfl) (fun a k a1 a2 a3 a4 => sw_r (by omega) (by omega) (by omega)) ?_ ?_ (Or.inr ⟨rfl, rfl⟩) (fun k hk => sw_r (by omega) (by omega) (by omega)) ?_ ?_
  · unfold q_swp
    rw [ptr_r_ne (by omega), ptr_r_ne (by omega), ptr_r_ne (by omega), ptr_r_eq]
  · unfold q_swp
    rw [ptr_r_ne (by omega), ptr_r_ne (by omega), ptr_r_eq]
  · unfold q_swp
    rw [ptr_r_ne (by omega), ptr_r_eq]
  · unfold q_swp
    rw [ptr_r_eq]
theorem c115_3 (hx : qXo s t t') (hD : qVD (qd I t') U S dn) (hw : q_sum (q_deg (qd I t') S) S ≤ 14) : ∃ I', jd 115 3 [some (.ref 100), none, none, none] [] (I, L, q_ptr s 181 5 t') = some (some (.int (w U)), cT I' 0, L, q_swp s t t') ∧ (∀ a, a ≠ 188 + 1 + 1 → a ≠ 194 → a ≠ 230 + 1 → a ≠ 232 + 1 → a ≠ 234 → (a < 199 ∨ 214 ≤ a) → I' a = I a) ∧ (∀ k, k < 6 → I' (188 + 1 + 1) k = qd I t' 5 k ∧ I' (188 + 1 + 1) (6 + k) = qd I t' 7 k ∧ I' (188 + 1 + 1) (12 + k) = qd I t' 8 k) ∧ I' (188 + 1 + 1) 18 = 0 ∧ I' 194 2 = 0 ∧ I' 194 3 = 0 ∧ I' 194 4 = 0 ∧ I' 234 1 = -1 ∧ qOO I' (qd I t') U S ∧ qYY I' t' U dn := by
  have htt := xo_tt hx
  have hxD := xo_sw hx
  have t0 : ¬ t = 0 := by omega
  have t0' : ¬ t' = 0 := by omega
  obtain ⟨sA, hA⟩ : ∃ x, x = q_ptr s 181 5 t' := ⟨_, rfl⟩
  obtain ⟨sB, hB⟩ : ∃ x, x = q_ptr sA 100 0 t' := ⟨_, rfl⟩
  obtain ⟨sC, hC⟩ : ∃ x, x = q_ptr sB 100 1 t := ⟨_, rfl⟩
  have hsD : q_ptr (q_ptr sC 199 7 t') 199 8 188 = q_swp s t t' := by rw [hC, hB, hA]; rfl
  have kA : qk sA = qk s := by rw [hA]; rfl
  have kB : qk sB = qk s := by rw [hB, ← kA]; rfl
  have kC : qk sC = qk s := by rw [hC, ← kB]; rfl
  have zC : qz sC = qz s := by rw [hC, hB, hA]; rfl
  have a0 : qr sA 100 0 = t := by rw [hA, ptr_r_ne (by omega)]; exact xo_r0 hx
  have a1 : qr sA 100 1 = t' := by rw [hA, ptr_r_ne (by omega)]; exact xo_r1 hx
  have rC : ∀ a k, (a ≠ 181 ∨ k ≠ 5) → (a ≠ 100 ∨ 2 ≤ k) → qr sC a k = qr s a k := fun a k h1 h2 => by rw [hC, ptr_r_ne (by omega), hB, ptr_r_ne (by omega), hA, ptr_r_ne (by omega)]
  have c0 : qr sC 100 0 = t' := by rw [hC, ptr_r_ne (by omega), hB, ptr_r_eq]
  have c4 : qr sC 100 4 = 188 := (rC _ _ (by omega) (by omega)).trans (xo_r4 hx)
  have c6 : qr sC 100 6 = 194 := (rC _ _ (by omega) (by omega)).trans (xo_r6 hx)
  have c7 : qr sC 100 7 = 199 := (rC _ _ (by omega) (by omega)).trans (xo_r7 hx)
  have c9 : qr sC 100 9 = 229 := (rC _ _ (by omega) (by omega)).trans (xo_r9 hx)
  have c10 : qr sC 100 10 = 234 := (rC _ _ (by omega) (by omega)).trans (xo_r10 hx)
  have hk : ∀ a, qk sC a = qk s a := fun a => congrFun kC a
  have hz : ∀ a, qz sC a = qz s a := fun a => congrFun zC a
  have hr : ∀ a k, a ≠ 240 → a ≠ 199 → (a ≠ 100 ∨ 2 ≤ k) → (a ≠ 181 ∨ k ≠ 5) → qr sC a k = qr s a k := fun a k _ _ h3 h4 => rC a k h4 h3
  have pC : qPl sC 188 := re_pl hk hz hr (Or.inl rfl) (xo_now hx)
  have fC : qFl sC t' := re_fl hk hz hr (by omega) (xo_ft' hx)
  have yC : qYr0 sC 199 := re_yr hk hz hr (fun k _ => rC _ _ (by omega) (by omega)) (Or.inl rfl) (xo_yr hx).1
  have wC : qXw sC t' := ⟨by omega, fC, (hk _).trans (xo_ko hx), (rC _ _ (by omega) (by omega)).trans (xo_ro0 hx), (rC _ _ (by omega) (by omega)).trans (xo_ro1 hx), re_row hk hz hr (by decide) (xo_routes hx), re_row hk hz hr (by decide) (xo_found hx)⟩
  obtain ⟨I1, e40, i1, i2, i3⟩ := c40 (I := I) (L := L) pC fC (by omega)
  obtain ⟨I2, h2⟩ : ∃ A, A = q_up I1 194 (q_set (q_set (q_set (I1 194) 2 0) 3 0) 4 0) := ⟨_, rfl⟩
  have k194 : qk sC 194 = 1 := (hk _).trans (xo_ka hx)
  have e1 : jD 1 [.ref 194] (I1, L, sC) = some (none, I2, L, sC) := by
    rw [D_1, E_1_0, h2]
    simp only [↓reduceIte, q_i, q_l, q_k, q_r, q_z, q_si, q_sl, jx_lt, jx_ri, jx_rl, jx_rv, if_true, if_false, Nat.reduceLeDiff, Nat.add_one_ne_zero, and_self, true_or, or_true, Nat.reduceEqDiff, or_self, or_false, false_or, k194, q_up_eq, q_up_up]
  have j2 : ∀ a, a ≠ 188 + 1 + 1 → a ≠ 194 → I2 a = I a := fun a x y => by rw [h2, q_up_ne y, i1 a x]
  have d2 : qd I2 t' = qd I t' := qd_same fun a h1 h2 => j2 a (by omega) (by omega)
  obtain ⟨fr, ff, e92, ho⟩ := find_eqw (I := I2) (L := L) (U := U) (S := S) (dn := dn) wC (by rw [d2]; exact hD) (by rw [d2]; exact hw)
  obtain ⟨I3, h3⟩ : ∃ A, A = q_up (q_up I2 (230 + 1) fr) (232 + 1) ff := ⟨_, rfl⟩
  rw [← h3] at e92 ho
  rw [d2] at ho
  have j3 : ∀ a, a ≠ 230 + 1 → a ≠ 232 + 1 → I3 a = I2 a := fun a x y => by rw [h3, q_up_ne y, q_up_ne x]
  obtain ⟨I4, h4⟩ : ∃ A, A = q_up I3 234 (q_set (I3 234) 1 (-1)) := ⟨_, rfl⟩
  have k234 : qk sC 234 = 2 := (hk _).trans (xo_kf hx)
  have e8 : jD 8 [.ref 234] (I3, L, sC) = some (none, I4, L, sC) := by
    rw [D_8, E_8_0, h4]
    simp only [↓reduceIte, q_i, q_l, q_k, q_r, q_z, q_si, q_sl, jx_lt, jx_ri, jx_rl, jx_rv, if_true, if_false, Nat.reduceLeDiff, Nat.add_one_ne_zero, and_self, true_or, or_true, Nat.reduceEqDiff, or_self, or_false, false_or, k234]
  have j4 : ∀ a, a ≠ 188 + 1 + 1 → a ≠ 194 → a ≠ 230 + 1 → a ≠ 232 + 1 → a ≠ 234 → I4 a = I a := fun a x1 x2 x3 x4 x5 => by rw [h4, q_up_ne x5, j3 a x3 x4, j2 a x1 x2]
  have d4 : qd I4 t' = qd I t' := qd_same fun a h1 h2 => j4 a (by omega) (by omega) (by omega) (by omega) (by omega)
  obtain ⟨pl, st, fk, fa, sp, ai, le, sd', e105, p1, p2, p3⟩ := pass_eq (I := I4) (L := L) yC fC pC t0' (by decide) (by omega) (by omega) (U := U) (dn := dn) (by rw [d4]; exact hD.1) hD.2.1 (by rw [d4]; exact hD.2.2.2.2.1) hD.2.2.2.2.2.2.1 (-1)
  rw [hsD] at e105
  obtain ⟨I5, h5⟩ : ∃ A, A = q_ym I4 199 pl st fk fa sp ai le sd' := ⟨_, rfl⟩
  have j5 : ∀ a, (a < 199 ∨ 214 ≤ a) → I5 a = I4 a := fun a ha => by rw [h5]; exact ym_out (by omega)
  have d5 : qd I5 t' = qd I t' := (qd_same fun a h1 h2 => j5 a (by omega)).trans d4
  have k199 : qk sC 199 = 10 := yC.1
  have kx : qk sC 100 = 11 := (hk _).trans (xo_k hx)
  have e177 : jD 177 [.ref 100] (I4, L, sC) = some (none, I5, L, q_swp s t t') := by
    rw [D_177, E_177_0, h5]
    simp only [↓reduceIte, q_i, q_l, q_k, q_r, q_z, q_si, q_sl, jx_lt, jx_ri, jx_rl, jx_rv, if_true, if_false, Nat.reduceLeDiff, Nat.add_one_ne_zero, and_self, true_or, or_true, Nat.reduceEqDiff, or_self, or_false, false_or, kx, c7, c0, t0', c4, k199, e105]
  have kD : qk (q_swp s t t') = qk s := rfl
  refine ⟨I5, ?_, fun a x1 x2 x3 x4 x5 x6 => ?_, fun k hk6 => ?_, ?_, ?_, ?_, ?_, ?_, ?_, ?_⟩
  · rw [← hA, E_115_3]
    simp only [↓reduceIte, q_i, q_l, q_k, q_r, q_z, q_si, q_sl, jx_lt, jx_ri, jx_rl, jx_rv, if_true, if_false, Nat.reduceLeDiff, Nat.add_one_ne_zero, and_self, true_or, or_true, Nat.reduceEqDiff, or_self, or_false, false_or, kA, xo_k hx, a0, a1, t0, t0', q_sr, hB.symm, kB, hC.symm, kC, c4, c0, pC.1, e40, c6, xo_ka hx, e1, c9, xo_ko hx, e92, c10, xo_kf hx, e8, e177, kD, xo_r0 hxD, (xo_ft hxD).1, umbs_eq (xo_ft hxD), d5, hD.1, answered_eq hxD, (xo_ft' hx).1]
  · rw [j5 a x6, j4 a x1 x2 x3 x4 x5]
  · rw [j5 _ (by omega), h4, q_up_ne (by decide), j3 _ (by decide) (by decide), h2, q_up_ne (by decide)]; exact i2 k hk6
  · rw [j5 _ (by omega), h4, q_up_ne (by decide), j3 _ (by decide) (by decide), h2, q_up_ne (by decide)]; exact i3
  · rw [j5 _ (by omega), h4, q_up_ne (by decide), j3 _ (by decide) (by decide), h2, q_up_eq, q_set_ne (by decide), q_set_ne (by decide), q_set_eq]
  · rw [j5 _ (by omega), h4, q_up_ne (by decide), j3 _ (by decide) (by decide), h2, q_up_eq, q_set_ne (by decide), q_set_eq]
  · rw [j5 _ (by omega), h4, q_up_ne (by decide), j3 _ (by decide) (by decide), h2, q_up_eq, q_set_eq]
  · rw [j5 _ (by omega), h4, q_up_eq, q_set_eq]
  · intro u hu h e hlt
    obtain ⟨b1, b2⟩ := ho u hu h e hlt
    have x1 : I5 (232 + 1) = I3 (232 + 1) := by rw [j5 _ (by omega), h4, q_up_ne (by decide)]
    have x2 : I5 (230 + 1) = I3 (230 + 1) := by rw [j5 _ (by omega), h4, q_up_ne (by decide)]
    rw [x1, x2]
    exact ⟨b1, b2⟩
  · unfold qYY
    rw [d5, h5, ym_out (show 188 + 2 < 199 ∨ 199 + 15 ≤ 188 + 2 by omega), ym_0, ym_1, ym_2, ym_3, ym_4, ym_6]
    rw [d4] at p1 p2 p3
    exact ⟨p1, p2, (Y_seed dn).symm⟩
end CFi
