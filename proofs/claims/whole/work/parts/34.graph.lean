/-! THE CLASS's GRAPH, and short forms of what calls write -/
def qXo (s : qS) (t t' : Nat) : Prop := qk s 100 = 11 ∧ qr s 100 0 = t ∧ qr s 100 1 = t' ∧ qr s 100 2 = 179 ∧ qr s 100 3 = 181 ∧ qr s 100 4 = 188 ∧ qr s 100 5 = 191 ∧ qr s 100 6 = 194 ∧ qr s 100 7 = 199 ∧ qr s 100 8 = 214 ∧ qr s 100 9 = 229 ∧ qr s 100 10 = 234 ∧ qr s 100 11 = 237 ∧ ((t = 101 ∧ t' = 140) ∨ (t = 140 ∧ t' = 101)) ∧ qFl s t ∧ qFl s t' ∧ qRow s 179 1100 ∧ qPl s 188 ∧ qPl s 191 ∧ qk s 194 = 1 ∧ qr s 194 0 = 195 ∧ qr s 194 1 = 197 ∧ qRow s 195 304 ∧ qRow s 197 57 ∧ qYr s 199 t 188 ∧ qYr0 s 214 ∧ qk s 229 = 9 ∧ qr s 229 0 = 230 ∧ qr s 229 1 = 232 ∧ qRow s 230 1800 ∧ qRow s 232 6 ∧ qk s 234 = 2 ∧ qr s 234 0 = 235 ∧ qRow s 235 160 ∧ qk s 237 = 4 ∧ qr s 237 0 = 238 ∧ qRow s 238 64 ∧ qk s 181 = 6 ∧ qr s 181 0 = 187 ∧ qr s 181 1 = 182 ∧ qk s 182 = 21 ∧ qz s 182 = 31 ∧ qr s 181 2 = 183 ∧ qRow s 183 31 ∧ qr s 181 3 = 185 ∧ qRow s 185 31 ∧ qk s 187 = 8 ∧ qr s 187 0 = 179
section QXO
variable {s : qS} {t t' : Nat}
theorem xo_k (h : qXo s t t') : qk s 100 = 11 := h.1
theorem xo_r0 (h : qXo s t t') : qr s 100 0 = t := h.2.1
theorem xo_r1 (h : qXo s t t') : qr s 100 1 = t' := h.2.2.1
theorem xo_r2 (h : qXo s t t') : qr s 100 2 = 179 := h.2.2.2.1
theorem xo_r3 (h : qXo s t t') : qr s 100 3 = 181 := h.2.2.2.2.1
theorem xo_r4 (h : qXo s t t') : qr s 100 4 = 188 := h.2.2.2.2.2.1
theorem xo_r5 (h : qXo s t t') : qr s 100 5 = 191 := h.2.2.2.2.2.2.1
theorem xo_r6 (h : qXo s t t') : qr s 100 6 = 194 := h.2.2.2.2.2.2.2.1
theorem xo_r7 (h : qXo s t t') : qr s 100 7 = 199 := h.2.2.2.2.2.2.2.2.1
theorem xo_r8 (h : qXo s t t') : qr s 100 8 = 214 := h.2.2.2.2.2.2.2.2.2.1
theorem xo_r9 (h : qXo s t t') : qr s 100 9 = 229 := h.2.2.2.2.2.2.2.2.2.2.1
theorem xo_r10 (h : qXo s t t') : qr s 100 10 = 234 := h.2.2.2.2.2.2.2.2.2.2.2.1
theorem xo_r11 (h : qXo s t t') : qr s 100 11 = 237 := h.2.2.2.2.2.2.2.2.2.2.2.2.1
theorem xo_tt (h : qXo s t t') : ((t = 101 ∧ t' = 140) ∨ (t = 140 ∧ t' = 101)) := h.2.2.2.2.2.2.2.2.2.2.2.2.2.1
theorem xo_ft (h : qXo s t t') : qFl s t := h.2.2.2.2.2.2.2.2.2.2.2.2.2.2.1
theorem xo_ft' (h : qXo s t t') : qFl s t' := h.2.2.2.2.2.2.2.2.2.2.2.2.2.2.2.1
theorem xo_row179 (h : qXo s t t') : qRow s 179 1100 := h.2.2.2.2.2.2.2.2.2.2.2.2.2.2.2.2.1
theorem xo_now (h : qXo s t t') : qPl s 188 := h.2.2.2.2.2.2.2.2.2.2.2.2.2.2.2.2.2.1
theorem xo_try (h : qXo s t t') : qPl s 191 := h.2.2.2.2.2.2.2.2.2.2.2.2.2.2.2.2.2.2.1
theorem xo_ka (h : qXo s t t') : qk s 194 = 1 := h.2.2.2.2.2.2.2.2.2.2.2.2.2.2.2.2.2.2.2.1
theorem xo_ra0 (h : qXo s t t') : qr s 194 0 = 195 := h.2.2.2.2.2.2.2.2.2.2.2.2.2.2.2.2.2.2.2.2.1
theorem xo_ra1 (h : qXo s t t') : qr s 194 1 = 197 := h.2.2.2.2.2.2.2.2.2.2.2.2.2.2.2.2.2.2.2.2.2.1
theorem xo_past (h : qXo s t t') : qRow s 195 304 := h.2.2.2.2.2.2.2.2.2.2.2.2.2.2.2.2.2.2.2.2.2.2.1
theorem xo_marks (h : qXo s t t') : qRow s 197 57 := h.2.2.2.2.2.2.2.2.2.2.2.2.2.2.2.2.2.2.2.2.2.2.2.1
theorem xo_yr (h : qXo s t t') : qYr s 199 t 188 := h.2.2.2.2.2.2.2.2.2.2.2.2.2.2.2.2.2.2.2.2.2.2.2.2.1
theorem xo_ty (h : qXo s t t') : qYr0 s 214 := h.2.2.2.2.2.2.2.2.2.2.2.2.2.2.2.2.2.2.2.2.2.2.2.2.2.1
theorem xo_ko (h : qXo s t t') : qk s 229 = 9 := h.2.2.2.2.2.2.2.2.2.2.2.2.2.2.2.2.2.2.2.2.2.2.2.2.2.2.1
theorem xo_ro0 (h : qXo s t t') : qr s 229 0 = 230 := h.2.2.2.2.2.2.2.2.2.2.2.2.2.2.2.2.2.2.2.2.2.2.2.2.2.2.2.1
theorem xo_ro1 (h : qXo s t t') : qr s 229 1 = 232 := h.2.2.2.2.2.2.2.2.2.2.2.2.2.2.2.2.2.2.2.2.2.2.2.2.2.2.2.2.1
theorem xo_routes (h : qXo s t t') : qRow s 230 1800 := h.2.2.2.2.2.2.2.2.2.2.2.2.2.2.2.2.2.2.2.2.2.2.2.2.2.2.2.2.2.1
theorem xo_found (h : qXo s t t') : qRow s 232 6 := h.2.2.2.2.2.2.2.2.2.2.2.2.2.2.2.2.2.2.2.2.2.2.2.2.2.2.2.2.2.2.1
theorem xo_kf (h : qXo s t t') : qk s 234 = 2 := h.2.2.2.2.2.2.2.2.2.2.2.2.2.2.2.2.2.2.2.2.2.2.2.2.2.2.2.2.2.2.2.1
theorem xo_rf0 (h : qXo s t t') : qr s 234 0 = 235 := h.2.2.2.2.2.2.2.2.2.2.2.2.2.2.2.2.2.2.2.2.2.2.2.2.2.2.2.2.2.2.2.2.1
theorem xo_seen (h : qXo s t t') : qRow s 235 160 := h.2.2.2.2.2.2.2.2.2.2.2.2.2.2.2.2.2.2.2.2.2.2.2.2.2.2.2.2.2.2.2.2.2.1
theorem xo_kh (h : qXo s t t') : qk s 237 = 4 := h.2.2.2.2.2.2.2.2.2.2.2.2.2.2.2.2.2.2.2.2.2.2.2.2.2.2.2.2.2.2.2.2.2.2.1
theorem xo_rh0 (h : qXo s t t') : qr s 237 0 = 238 := h.2.2.2.2.2.2.2.2.2.2.2.2.2.2.2.2.2.2.2.2.2.2.2.2.2.2.2.2.2.2.2.2.2.2.2.1
theorem xo_rounds (h : qXo s t t') : qRow s 238 64 := h.2.2.2.2.2.2.2.2.2.2.2.2.2.2.2.2.2.2.2.2.2.2.2.2.2.2.2.2.2.2.2.2.2.2.2.2.1
theorem xo_ke (h : qXo s t t') : qk s 181 = 6 := h.2.2.2.2.2.2.2.2.2.2.2.2.2.2.2.2.2.2.2.2.2.2.2.2.2.2.2.2.2.2.2.2.2.2.2.2.2.1
theorem xo_re0 (h : qXo s t t') : qr s 181 0 = 187 := h.2.2.2.2.2.2.2.2.2.2.2.2.2.2.2.2.2.2.2.2.2.2.2.2.2.2.2.2.2.2.2.2.2.2.2.2.2.2.1
theorem xo_re1 (h : qXo s t t') : qr s 181 1 = 182 := h.2.2.2.2.2.2.2.2.2.2.2.2.2.2.2.2.2.2.2.2.2.2.2.2.2.2.2.2.2.2.2.2.2.2.2.2.2.2.2.1
theorem xo_kn (h : qXo s t t') : qk s 182 = 21 := h.2.2.2.2.2.2.2.2.2.2.2.2.2.2.2.2.2.2.2.2.2.2.2.2.2.2.2.2.2.2.2.2.2.2.2.2.2.2.2.2.1
theorem xo_zn (h : qXo s t t') : qz s 182 = 31 := h.2.2.2.2.2.2.2.2.2.2.2.2.2.2.2.2.2.2.2.2.2.2.2.2.2.2.2.2.2.2.2.2.2.2.2.2.2.2.2.2.2.1
theorem xo_re2 (h : qXo s t t') : qr s 181 2 = 183 := h.2.2.2.2.2.2.2.2.2.2.2.2.2.2.2.2.2.2.2.2.2.2.2.2.2.2.2.2.2.2.2.2.2.2.2.2.2.2.2.2.2.2.1
theorem xo_nsort (h : qXo s t t') : qRow s 183 31 := h.2.2.2.2.2.2.2.2.2.2.2.2.2.2.2.2.2.2.2.2.2.2.2.2.2.2.2.2.2.2.2.2.2.2.2.2.2.2.2.2.2.2.2.1
theorem xo_re3 (h : qXo s t t') : qr s 181 3 = 185 := h.2.2.2.2.2.2.2.2.2.2.2.2.2.2.2.2.2.2.2.2.2.2.2.2.2.2.2.2.2.2.2.2.2.2.2.2.2.2.2.2.2.2.2.2.1
theorem xo_nnum (h : qXo s t t') : qRow s 185 31 := h.2.2.2.2.2.2.2.2.2.2.2.2.2.2.2.2.2.2.2.2.2.2.2.2.2.2.2.2.2.2.2.2.2.2.2.2.2.2.2.2.2.2.2.2.2.1
theorem xo_kt (h : qXo s t t') : qk s 187 = 8 := h.2.2.2.2.2.2.2.2.2.2.2.2.2.2.2.2.2.2.2.2.2.2.2.2.2.2.2.2.2.2.2.2.2.2.2.2.2.2.2.2.2.2.2.2.2.2.1
theorem xo_rt0 (h : qXo s t t') : qr s 187 0 = 179 := h.2.2.2.2.2.2.2.2.2.2.2.2.2.2.2.2.2.2.2.2.2.2.2.2.2.2.2.2.2.2.2.2.2.2.2.2.2.2.2.2.2.2.2.2.2.2.2
theorem xo_t0 (h : qXo s t t') : ¬ t = 0 := by have := xo_tt h; omega
theorem xo_t1 (h : qXo s t t') : ¬ t' = 0 := by have := xo_tt h; omega
end QXO
/-- what a call of the class leaves: its reason -/
def cT (I : qI) (r : Int32) : qI := q_up I 100 (q_set (I 100) 13 r)
/-- what a call of the reference leaves -/
def mZ (I : qI) (m : Nat) : qI := q_up I m (q_set (I m) 0 0)
def mG (I : qI) (m : Nat) (r : Int32) : qI := q_up I m (q_set (q_set (I m) 1 r) 2 (-1))
theorem small_or (x : Int32) {n : Nat} (hn : n < 1000000) : (∃ k, k < n ∧ x = w k) ∨ x < 0 ∨ w n ≤ x := by
  by_cases h : x < 0
  · exact Or.inr (Or.inl h)
  · obtain ⟨e, hlt⟩ := i_nn h
    by_cases h2 : x.toNatClampNeg < n
    · exact Or.inl ⟨_, h2, e⟩
    · refine Or.inr (Or.inr ?_)
      rw [e, w_le (by omega) hlt]
      omega
theorem w_nle {k n : Nat} (h : k < n) (hn : n < 1000000) : ¬ w n ≤ w k := by rw [w_le (by omega) (by omega)]; omega
section CH
variable {I : qI} {L : qL} {s : qS} {t t' U S dn : Nat}
theorem refused_eq (hx : qXo s t t') (r : Int32) : jD 163 [.ref 100, .int r] (I, L, s) = some (some (.int (-1)), cT I r, L, s) := by
  simp only [D_163, E_163_0, q_i, q_l, q_k, q_r, q_z, q_si, q_sl, jx_lt, jx_ri, jx_rl, jx_rv, if_true, if_false, Nat.reduceLeDiff, Nat.add_one_ne_zero, and_self, true_or, or_true, Nat.reduceEqDiff, or_self, or_false, false_or, xo_k hx, xo_r0 hx, xo_r1 hx, xo_r2 hx, xo_r3 hx, xo_r4 hx, xo_r5 hx, xo_r6 hx, xo_r7 hx, xo_r8 hx, xo_r9 hx, xo_r10 hx, xo_r11 hx, xo_ka hx, xo_ra0 hx, xo_ra1 hx, xo_ko hx, xo_ro0 hx, xo_ro1 hx, xo_kf hx, xo_rf0 hx, xo_kh hx, xo_rh0 hx, xo_ke hx, xo_re0 hx, xo_re1 hx, xo_kn hx, xo_zn hx, xo_re2 hx, xo_re3 hx, xo_kt hx, xo_rt0 hx, xo_t0 hx, (xo_ft hx).1, (xo_now hx).1, (xo_now hx).2.1, (xo_now hx).2.2.1, (xo_try hx).1, (xo_yr hx).1.1, (xo_ty hx).1, cT]
theorem answered_eq (hx : qXo s t t') (v : Int32) : jD 164 [.ref 100, .int v] (I, L, s) = some (some (.int v), cT I 0, L, s) := by
  simp only [D_164, E_164_0, q_i, q_l, q_k, q_r, q_z, q_si, q_sl, jx_lt, jx_ri, jx_rl, jx_rv, if_true, if_false, Nat.reduceLeDiff, Nat.add_one_ne_zero, and_self, true_or, or_true, Nat.reduceEqDiff, or_self, or_false, false_or, xo_k hx, xo_r0 hx, xo_r1 hx, xo_r2 hx, xo_r3 hx, xo_r4 hx, xo_r5 hx, xo_r6 hx, xo_r7 hx, xo_r8 hx, xo_r9 hx, xo_r10 hx, xo_r11 hx, xo_ka hx, xo_ra0 hx, xo_ra1 hx, xo_ko hx, xo_ro0 hx, xo_ro1 hx, xo_kf hx, xo_rf0 hx, xo_kh hx, xo_rh0 hx, xo_ke hx, xo_re0 hx, xo_re1 hx, xo_kn hx, xo_zn hx, xo_re2 hx, xo_re3 hx, xo_kt hx, xo_rt0 hx, xo_t0 hx, (xo_ft hx).1, (xo_now hx).1, (xo_now hx).2.1, (xo_now hx).2.2.1, (xo_try hx).1, (xo_yr hx).1.1, (xo_ty hx).1, cT]
theorem isRefused_eq (hx : qXo s t t') (r : Int32) : jD 165 [.ref 100, .int r] (I, L, s) = some (some (.int 0), cT I r, L, s) := by
  simp only [D_165, E_165_0, q_i, q_l, q_k, q_r, q_z, q_si, q_sl, jx_lt, jx_ri, jx_rl, jx_rv, if_true, if_false, Nat.reduceLeDiff, Nat.add_one_ne_zero, and_self, true_or, or_true, Nat.reduceEqDiff, or_self, or_false, false_or, xo_k hx, xo_r0 hx, xo_r1 hx, xo_r2 hx, xo_r3 hx, xo_r4 hx, xo_r5 hx, xo_r6 hx, xo_r7 hx, xo_r8 hx, xo_r9 hx, xo_r10 hx, xo_r11 hx, xo_ka hx, xo_ra0 hx, xo_ra1 hx, xo_ko hx, xo_ro0 hx, xo_ro1 hx, xo_kf hx, xo_rf0 hx, xo_kh hx, xo_rh0 hx, xo_ke hx, xo_re0 hx, xo_re1 hx, xo_kn hx, xo_zn hx, xo_re2 hx, xo_re3 hx, xo_kt hx, xo_rt0 hx, xo_t0 hx, (xo_ft hx).1, (xo_now hx).1, (xo_now hx).2.1, (xo_now hx).2.2.1, (xo_try hx).1, (xo_yr hx).1.1, (xo_ty hx).1, cT]
theorem isDone_eq (hx : qXo s t t') : jD 166 [.ref 100] (I, L, s) = some (some (.int 1), cT I 0, L, s) := by
  simp only [D_166, E_166_0, q_i, q_l, q_k, q_r, q_z, q_si, q_sl, jx_lt, jx_ri, jx_rl, jx_rv, if_true, if_false, Nat.reduceLeDiff, Nat.add_one_ne_zero, and_self, true_or, or_true, Nat.reduceEqDiff, or_self, or_false, false_or, xo_k hx, xo_r0 hx, xo_r1 hx, xo_r2 hx, xo_r3 hx, xo_r4 hx, xo_r5 hx, xo_r6 hx, xo_r7 hx, xo_r8 hx, xo_r9 hx, xo_r10 hx, xo_r11 hx, xo_ka hx, xo_ra0 hx, xo_ra1 hx, xo_ko hx, xo_ro0 hx, xo_ro1 hx, xo_kf hx, xo_rf0 hx, xo_kh hx, xo_rh0 hx, xo_ke hx, xo_re0 hx, xo_re1 hx, xo_kn hx, xo_zn hx, xo_re2 hx, xo_re3 hx, xo_kt hx, xo_rt0 hx, xo_t0 hx, (xo_ft hx).1, (xo_now hx).1, (xo_now hx).2.1, (xo_now hx).2.2.1, (xo_try hx).1, (xo_yr hx).1.1, (xo_ty hx).1, cT]
theorem hasFlight_eq (hx : qXo s t t') (hd : qd I t 0 0 = w dn) (hd9 : dn ≤ 20) : jD 167 [.ref 100] (I, L, s) = some (some (.int (if dn = 0 then 0 else 1)), I, L, s) := by
  simp only [D_167, E_167_0, E_167_1, E_167_2, q_i, q_l, q_k, q_r, q_z, q_si, q_sl, jx_lt, jx_ri, jx_rl, jx_rv, if_true, if_false, Nat.reduceLeDiff, Nat.add_one_ne_zero, and_self, true_or, or_true, Nat.reduceEqDiff, or_self, or_false, false_or, xo_k hx, xo_r0 hx, xo_r1 hx, xo_r2 hx, xo_r3 hx, xo_r4 hx, xo_r5 hx, xo_r6 hx, xo_r7 hx, xo_r8 hx, xo_r9 hx, xo_r10 hx, xo_r11 hx, xo_ka hx, xo_ra0 hx, xo_ra1 hx, xo_ko hx, xo_ro0 hx, xo_ro1 hx, xo_kf hx, xo_rf0 hx, xo_kh hx, xo_rh0 hx, xo_ke hx, xo_re0 hx, xo_re1 hx, xo_kn hx, xo_zn hx, xo_re2 hx, xo_re3 hx, xo_kt hx, xo_rt0 hx, xo_t0 hx, (xo_ft hx).1, (xo_now hx).1, (xo_now hx).2.1, (xo_now hx).2.2.1, (xo_try hx).1, (xo_yr hx).1.1, (xo_ty hx).1, days_eq (xo_ft hx), hd]
  by_cases c : dn = 0
  · subst c
    simp only [show w 0 ≤ 0 by decide, q_i, q_l, q_k, q_r, q_z, q_si, q_sl, jx_lt, jx_ri, jx_rl, jx_rv, if_true, if_false, Nat.reduceLeDiff, Nat.add_one_ne_zero, and_self, true_or, or_true, Nat.reduceEqDiff, or_self, or_false, false_or]
  · simp only [show ¬ w dn ≤ 0 by rw [show (0 : Int32) = w 0 from rfl, w_le (by omega) (by omega)]; omega, c, q_i, q_l, q_k, q_r, q_z, q_si, q_sl, jx_lt, jx_ri, jx_rl, jx_rv, if_true, if_false, Nat.reduceLeDiff, Nat.add_one_ne_zero, and_self, true_or, or_true, Nat.reduceEqDiff, or_self, or_false, false_or]
theorem isStop_y (hx : qXo s t t') (hS : qd I t 0 3 = w S) (hS9 : S ≤ 8) {k : Nat} (hk : k < S) : jD 168 [.ref 100, .int (w k)] (I, L, s) = some (some (.int 1), I, L, s) := by
  simp only [D_168, E_168_0, E_168_1, E_168_2, q_i, q_l, q_k, q_r, q_z, q_si, q_sl, jx_lt, jx_ri, jx_rl, jx_rv, if_true, if_false, Nat.reduceLeDiff, Nat.add_one_ne_zero, and_self, true_or, or_true, Nat.reduceEqDiff, or_self, or_false, false_or, xo_k hx, xo_r0 hx, xo_r1 hx, xo_r2 hx, xo_r3 hx, xo_r4 hx, xo_r5 hx, xo_r6 hx, xo_r7 hx, xo_r8 hx, xo_r9 hx, xo_r10 hx, xo_r11 hx, xo_ka hx, xo_ra0 hx, xo_ra1 hx, xo_ko hx, xo_ro0 hx, xo_ro1 hx, xo_kf hx, xo_rf0 hx, xo_kh hx, xo_rh0 hx, xo_ke hx, xo_re0 hx, xo_re1 hx, xo_kn hx, xo_zn hx, xo_re2 hx, xo_re3 hx, xo_kt hx, xo_rt0 hx, xo_t0 hx, (xo_ft hx).1, (xo_now hx).1, (xo_now hx).2.1, (xo_now hx).2.2.1, (xo_try hx).1, (xo_yr hx).1.1, (xo_ty hx).1, stops_eq (xo_ft hx), hS, w_nn (a := k) (by omega), w_nle hk (by omega)]
theorem isStop_n (hx : qXo s t t') (hS : qd I t 0 3 = w S) {x : Int32} (h : x < 0 ∨ w S ≤ x) : jD 168 [.ref 100, .int x] (I, L, s) = some (some (.int 0), I, L, s) := by
  simp only [D_168, E_168_0, E_168_1, E_168_2, q_i, q_l, q_k, q_r, q_z, q_si, q_sl, jx_lt, jx_ri, jx_rl, jx_rv, if_true, if_false, Nat.reduceLeDiff, Nat.add_one_ne_zero, and_self, true_or, or_true, Nat.reduceEqDiff, or_self, or_false, false_or, xo_k hx, xo_r0 hx, xo_r1 hx, xo_r2 hx, xo_r3 hx, xo_r4 hx, xo_r5 hx, xo_r6 hx, xo_r7 hx, xo_r8 hx, xo_r9 hx, xo_r10 hx, xo_r11 hx, xo_ka hx, xo_ra0 hx, xo_ra1 hx, xo_ko hx, xo_ro0 hx, xo_ro1 hx, xo_kf hx, xo_rf0 hx, xo_kh hx, xo_rh0 hx, xo_ke hx, xo_re0 hx, xo_re1 hx, xo_kn hx, xo_zn hx, xo_re2 hx, xo_re3 hx, xo_kt hx, xo_rt0 hx, xo_t0 hx, (xo_ft hx).1, (xo_now hx).1, (xo_now hx).2.1, (xo_now hx).2.2.1, (xo_try hx).1, (xo_yr hx).1.1, (xo_ty hx).1, stops_eq (xo_ft hx), hS]
  by_cases c : x < 0
  · simp only [c, q_i, q_l, q_k, q_r, q_z, q_si, q_sl, jx_lt, jx_ri, jx_rl, jx_rv, if_true, if_false, Nat.reduceLeDiff, Nat.add_one_ne_zero, and_self, true_or, or_true, Nat.reduceEqDiff, or_self, or_false, false_or]
  · simp only [c, h.resolve_left c, q_i, q_l, q_k, q_r, q_z, q_si, q_sl, jx_lt, jx_ri, jx_rl, jx_rv, if_true, if_false, Nat.reduceLeDiff, Nat.add_one_ne_zero, and_self, true_or, or_true, Nat.reduceEqDiff, or_self, or_false, false_or]
theorem isUmb_y (hx : qXo s t t') (hU : qd I t 0 5 = w U) (hU9 : U ≤ 6) {k : Nat} (hk : k < U) : jD 170 [.ref 100, .int (w k)] (I, L, s) = some (some (.int 1), I, L, s) := by
  simp only [D_170, E_170_0, E_170_1, E_170_2, q_i, q_l, q_k, q_r, q_z, q_si, q_sl, jx_lt, jx_ri, jx_rl, jx_rv, if_true, if_false, Nat.reduceLeDiff, Nat.add_one_ne_zero, and_self, true_or, or_true, Nat.reduceEqDiff, or_self, or_false, false_or, xo_k hx, xo_r0 hx, xo_r1 hx, xo_r2 hx, xo_r3 hx, xo_r4 hx, xo_r5 hx, xo_r6 hx, xo_r7 hx, xo_r8 hx, xo_r9 hx, xo_r10 hx, xo_r11 hx, xo_ka hx, xo_ra0 hx, xo_ra1 hx, xo_ko hx, xo_ro0 hx, xo_ro1 hx, xo_kf hx, xo_rf0 hx, xo_kh hx, xo_rh0 hx, xo_ke hx, xo_re0 hx, xo_re1 hx, xo_kn hx, xo_zn hx, xo_re2 hx, xo_re3 hx, xo_kt hx, xo_rt0 hx, xo_t0 hx, (xo_ft hx).1, (xo_now hx).1, (xo_now hx).2.1, (xo_now hx).2.2.1, (xo_try hx).1, (xo_yr hx).1.1, (xo_ty hx).1, umbs_eq (xo_ft hx), hU, w_nn (a := k) (by omega), w_nle hk (by omega)]
theorem isUmb_n (hx : qXo s t t') (hU : qd I t 0 5 = w U) {x : Int32} (h : x < 0 ∨ w U ≤ x) : jD 170 [.ref 100, .int x] (I, L, s) = some (some (.int 0), I, L, s) := by
  simp only [D_170, E_170_0, E_170_1, E_170_2, q_i, q_l, q_k, q_r, q_z, q_si, q_sl, jx_lt, jx_ri, jx_rl, jx_rv, if_true, if_false, Nat.reduceLeDiff, Nat.add_one_ne_zero, and_self, true_or, or_true, Nat.reduceEqDiff, or_self, or_false, false_or, xo_k hx, xo_r0 hx, xo_r1 hx, xo_r2 hx, xo_r3 hx, xo_r4 hx, xo_r5 hx, xo_r6 hx, xo_r7 hx, xo_r8 hx, xo_r9 hx, xo_r10 hx, xo_r11 hx, xo_ka hx, xo_ra0 hx, xo_ra1 hx, xo_ko hx, xo_ro0 hx, xo_ro1 hx, xo_kf hx, xo_rf0 hx, xo_kh hx, xo_rh0 hx, xo_ke hx, xo_re0 hx, xo_re1 hx, xo_kn hx, xo_zn hx, xo_re2 hx, xo_re3 hx, xo_kt hx, xo_rt0 hx, xo_t0 hx, (xo_ft hx).1, (xo_now hx).1, (xo_now hx).2.1, (xo_now hx).2.2.1, (xo_try hx).1, (xo_yr hx).1.1, (xo_ty hx).1, umbs_eq (xo_ft hx), hU]
  by_cases c : x < 0
  · simp only [c, q_i, q_l, q_k, q_r, q_z, q_si, q_sl, jx_lt, jx_ri, jx_rl, jx_rv, if_true, if_false, Nat.reduceLeDiff, Nat.add_one_ne_zero, and_self, true_or, or_true, Nat.reduceEqDiff, or_self, or_false, false_or]
  · simp only [c, h.resolve_left c, q_i, q_l, q_k, q_r, q_z, q_si, q_sl, jx_lt, jx_ri, jx_rl, jx_rv, if_true, if_false, Nat.reduceLeDiff, Nat.add_one_ne_zero, and_self, true_or, or_true, Nat.reduceEqDiff, or_self, or_false, false_or]
theorem isDay_y (hx : qXo s t t') (hd : qd I t 0 0 = w dn) (hd9 : dn ≤ 20) {k : Nat} (hk : k < dn) : jD 171 [.ref 100, .int (w k)] (I, L, s) = some (some (.int 1), I, L, s) := by
  simp only [D_171, E_171_0, E_171_1, E_171_2, q_i, q_l, q_k, q_r, q_z, q_si, q_sl, jx_lt, jx_ri, jx_rl, jx_rv, if_true, if_false, Nat.reduceLeDiff, Nat.add_one_ne_zero, and_self, true_or, or_true, Nat.reduceEqDiff, or_self, or_false, false_or, xo_k hx, xo_r0 hx, xo_r1 hx, xo_r2 hx, xo_r3 hx, xo_r4 hx, xo_r5 hx, xo_r6 hx, xo_r7 hx, xo_r8 hx, xo_r9 hx, xo_r10 hx, xo_r11 hx, xo_ka hx, xo_ra0 hx, xo_ra1 hx, xo_ko hx, xo_ro0 hx, xo_ro1 hx, xo_kf hx, xo_rf0 hx, xo_kh hx, xo_rh0 hx, xo_ke hx, xo_re0 hx, xo_re1 hx, xo_kn hx, xo_zn hx, xo_re2 hx, xo_re3 hx, xo_kt hx, xo_rt0 hx, xo_t0 hx, (xo_ft hx).1, (xo_now hx).1, (xo_now hx).2.1, (xo_now hx).2.2.1, (xo_try hx).1, (xo_yr hx).1.1, (xo_ty hx).1, days_eq (xo_ft hx), hd, w_nn (a := k) (by omega), w_nle hk (by omega)]
theorem isDay_n (hx : qXo s t t') (hd : qd I t 0 0 = w dn) {x : Int32} (h : x < 0 ∨ w dn ≤ x) : jD 171 [.ref 100, .int x] (I, L, s) = some (some (.int 0), I, L, s) := by
  simp only [D_171, E_171_0, E_171_1, E_171_2, q_i, q_l, q_k, q_r, q_z, q_si, q_sl, jx_lt, jx_ri, jx_rl, jx_rv, if_true, if_false, Nat.reduceLeDiff, Nat.add_one_ne_zero, and_self, true_or, or_true, Nat.reduceEqDiff, or_self, or_false, false_or, xo_k hx, xo_r0 hx, xo_r1 hx, xo_r2 hx, xo_r3 hx, xo_r4 hx, xo_r5 hx, xo_r6 hx, xo_r7 hx, xo_r8 hx, xo_r9 hx, xo_r10 hx, xo_r11 hx, xo_ka hx, xo_ra0 hx, xo_ra1 hx, xo_ko hx, xo_ro0 hx, xo_ro1 hx, xo_kf hx, xo_rf0 hx, xo_kh hx, xo_rh0 hx, xo_ke hx, xo_re0 hx, xo_re1 hx, xo_kn hx, xo_zn hx, xo_re2 hx, xo_re3 hx, xo_kt hx, xo_rt0 hx, xo_t0 hx, (xo_ft hx).1, (xo_now hx).1, (xo_now hx).2.1, (xo_now hx).2.2.1, (xo_try hx).1, (xo_yr hx).1.1, (xo_ty hx).1, days_eq (xo_ft hx), hd]
  by_cases c : x < 0
  · simp only [c, q_i, q_l, q_k, q_r, q_z, q_si, q_sl, jx_lt, jx_ri, jx_rl, jx_rv, if_true, if_false, Nat.reduceLeDiff, Nat.add_one_ne_zero, and_self, true_or, or_true, Nat.reduceEqDiff, or_self, or_false, false_or]
  · simp only [c, h.resolve_left c, q_i, q_l, q_k, q_r, q_z, q_si, q_sl, jx_lt, jx_ri, jx_rl, jx_rv, if_true, if_false, Nat.reduceLeDiff, Nat.add_one_ne_zero, and_self, true_or, or_true, Nat.reduceEqDiff, or_self, or_false, false_or]
theorem noUD_u (hx : qXo s t t') (hU : qd I t 0 5 = w U) {x y : Int32} (h : x < 0 ∨ w U ≤ x) : jD 173 [.ref 100, .int x, .int y] (I, L, s) = some (some (.int 1), I, L, s) := by
  simp only [D_173, E_173_0, q_i, q_l, q_k, q_r, q_z, q_si, q_sl, jx_lt, jx_ri, jx_rl, jx_rv, if_true, if_false, Nat.reduceLeDiff, Nat.add_one_ne_zero, and_self, true_or, or_true, Nat.reduceEqDiff, or_self, or_false, false_or, xo_k hx, xo_r0 hx, xo_r1 hx, xo_r2 hx, xo_r3 hx, xo_r4 hx, xo_r5 hx, xo_r6 hx, xo_r7 hx, xo_r8 hx, xo_r9 hx, xo_r10 hx, xo_r11 hx, xo_ka hx, xo_ra0 hx, xo_ra1 hx, xo_ko hx, xo_ro0 hx, xo_ro1 hx, xo_kf hx, xo_rf0 hx, xo_kh hx, xo_rh0 hx, xo_ke hx, xo_re0 hx, xo_re1 hx, xo_kn hx, xo_zn hx, xo_re2 hx, xo_re3 hx, xo_kt hx, xo_rt0 hx, xo_t0 hx, (xo_ft hx).1, (xo_now hx).1, (xo_now hx).2.1, (xo_now hx).2.2.1, (xo_try hx).1, (xo_yr hx).1.1, (xo_ty hx).1, isUmb_n hx hU h]
theorem noUD_d (hx : qXo s t t') (hU : qd I t 0 5 = w U) (hU9 : U ≤ 6) (hd : qd I t 0 0 = w dn) {k : Nat} (hk : k < U) {y : Int32} (h : y < 0 ∨ w dn ≤ y) : jD 173 [.ref 100, .int (w k), .int y] (I, L, s) = some (some (.int 2), I, L, s) := by
  simp only [D_173, E_173_0, E_173_1, E_173_2, E_173_3, q_i, q_l, q_k, q_r, q_z, q_si, q_sl, jx_lt, jx_ri, jx_rl, jx_rv, if_true, if_false, Nat.reduceLeDiff, Nat.add_one_ne_zero, and_self, true_or, or_true, Nat.reduceEqDiff, or_self, or_false, false_or, xo_k hx, xo_r0 hx, xo_r1 hx, xo_r2 hx, xo_r3 hx, xo_r4 hx, xo_r5 hx, xo_r6 hx, xo_r7 hx, xo_r8 hx, xo_r9 hx, xo_r10 hx, xo_r11 hx, xo_ka hx, xo_ra0 hx, xo_ra1 hx, xo_ko hx, xo_ro0 hx, xo_ro1 hx, xo_kf hx, xo_rf0 hx, xo_kh hx, xo_rh0 hx, xo_ke hx, xo_re0 hx, xo_re1 hx, xo_kn hx, xo_zn hx, xo_re2 hx, xo_re3 hx, xo_kt hx, xo_rt0 hx, xo_t0 hx, (xo_ft hx).1, (xo_now hx).1, (xo_now hx).2.1, (xo_now hx).2.2.1, (xo_try hx).1, (xo_yr hx).1.1, (xo_ty hx).1, isUmb_y hx hU hU9 hk, isDay_n hx hd h, show ¬ (1 : Int32) = 0 by decide]
theorem noUD_y (hx : qXo s t t') (hU : qd I t 0 5 = w U) (hU9 : U ≤ 6) (hd : qd I t 0 0 = w dn) (hd9 : dn ≤ 20) {k d : Nat} (hk : k < U) (h : d < dn) : jD 173 [.ref 100, .int (w k), .int (w d)] (I, L, s) = some (some (.int 0), I, L, s) := by
  simp only [D_173, E_173_0, E_173_1, E_173_2, E_173_3, q_i, q_l, q_k, q_r, q_z, q_si, q_sl, jx_lt, jx_ri, jx_rl, jx_rv, if_true, if_false, Nat.reduceLeDiff, Nat.add_one_ne_zero, and_self, true_or, or_true, Nat.reduceEqDiff, or_self, or_false, false_or, xo_k hx, xo_r0 hx, xo_r1 hx, xo_r2 hx, xo_r3 hx, xo_r4 hx, xo_r5 hx, xo_r6 hx, xo_r7 hx, xo_r8 hx, xo_r9 hx, xo_r10 hx, xo_r11 hx, xo_ka hx, xo_ra0 hx, xo_ra1 hx, xo_ko hx, xo_ro0 hx, xo_ro1 hx, xo_kf hx, xo_rf0 hx, xo_kh hx, xo_rh0 hx, xo_ke hx, xo_re0 hx, xo_re1 hx, xo_kn hx, xo_zn hx, xo_re2 hx, xo_re3 hx, xo_kt hx, xo_rt0 hx, xo_t0 hx, (xo_ft hx).1, (xo_now hx).1, (xo_now hx).2.1, (xo_now hx).2.2.1, (xo_try hx).1, (xo_yr hx).1.1, (xo_ty hx).1, isUmb_y hx hU hU9 hk, isDay_y hx hd hd9 h, show ¬ (1 : Int32) = 0 by decide]
end CH
