/-! READING: the line of a stop -/
section PS
variable {s s2 : qS} {t f n : Nat} {b : Nat → Nat} {I0 J0 I J I' J' : qI} {L0 K0 L K L' K' : qL} {Z Z' : qI → qL → qI → qL → Prop} {C : Nat → Nat} {p : Nat}
theorem end_ok (hr : qRdr s t) {x c : Nat} (h3 : 3 ≤ x) (hx : x < 12) (hc : I (t + 2) x = w c) : jd 53 19 [some (.ref 181), none, some (.int (w x)), none, some (.int 1)] [] (I, L, s) = some (some (.int 1), q_up I (t + 2) (q_set (I (t + 2)) x (w (c + 1))), L, s) := by
  obtain ⟨k6, r0, r1, r2, r3, r5, k182, z182, row2, row3, k7, r7, rt, hfl, ht⟩ := hr
  have r00 := fl_k hfl (k := 0) (n := 12) (by omega) rfl
  have t0 : ¬ t = 0 := by omega
  have e1 : I (t + 1 + 2 * 0 + 1) x = w c := hc
  rw [E_53_19]
  simp only [↓reduceIte, q_i, q_l, q_k, q_r, q_z, q_si, q_sl, jx_lt, jx_ri, jx_rl, jx_rv, if_true, if_false, Nat.reduceLeDiff, Nat.add_one_ne_zero, and_self, true_or, or_true, Nat.reduceEqDiff, or_self, or_false, false_or, show ¬ (1 : Int32) = 0 by decide, show ¬ w x < (3 : Int32) by rw [show (3 : Int32) = w 3 from rfl, w_lt (by omega) (by omega)]; omega, k6, r5, t0, hfl.1, r00.1, r00.2.1, add_eq r00.2, q_at_w (n := 12) (k := x) (by omega) hx, q_put_w (n := 12) (k := x) (by omega) hx, e1, w_inc]
  rw [E_53_20, if_pos (Or.inr rfl)]
theorem end_no {x : Int32} : jd 53 19 [some (.ref 181), none, some (.int x), none, some (.int 0)] [] (I, L, s) = some (some (.int 0), I, L, s) := by
  rw [E_53_19]
  simp only [↓reduceIte, q_i, q_l, q_k, q_r, q_z, q_si, q_sl, jx_lt, jx_ri, jx_rl, jx_rv, if_true, if_false, Nat.reduceLeDiff, Nat.add_one_ne_zero, and_self, true_or, or_true, Nat.reduceEqDiff, or_self, or_false, false_or]
  rw [E_53_20, if_pos (Or.inl rfl)]
theorem m212_go (hm : qMo s2 240) (h4 : qr s2 240 4 = f) (hf : qMf s2 f) (h0 : f ≠ 0) {x y : Int32} (hxy : x ≠ y) (hd : J f 0 ≠ 0) {J1 : qI} {K1 : qL} (e : jD 202 [.ref 240] (J, K, s2) = some (none, J1, K1, s2)) : jD 212 [.ref 240, .int x, .int y] (J, K, s2) = some (none, J1, K1, s2) := by
  rw [D_212, E_212_0]
  simp only [↓reduceIte, q_i, q_l, q_k, q_r, q_z, q_si, q_sl, jx_lt, jx_ri, jx_rl, jx_rv, if_true, if_false, Nat.reduceLeDiff, Nat.add_one_ne_zero, and_self, true_or, or_true, Nat.reduceEqDiff, or_self, or_false, false_or, hxy]
  rw [E_212_1]
  simp only [↓reduceIte, q_i, q_l, q_k, q_r, q_z, q_si, q_sl, jx_lt, jx_ri, jx_rl, jx_rv, if_true, if_false, Nat.reduceLeDiff, Nat.add_one_ne_zero, and_self, true_or, or_true, Nat.reduceEqDiff, or_self, or_false, false_or, mo_k hm, h4, h0, mf_k hf, hd]
  rw [E_212_2]
  simp only [↓reduceIte, q_i, q_l, q_k, q_r, q_z, q_si, q_sl, jx_lt, jx_ri, jx_rl, jx_rv, if_true, if_false, Nat.reduceLeDiff, Nat.add_one_ne_zero, and_self, true_or, or_true, Nat.reduceEqDiff, or_self, or_false, false_or, mo_k hm, e]
end PS
