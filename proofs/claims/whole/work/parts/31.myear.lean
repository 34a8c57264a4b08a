/-! THE REFERENCE's YEAR: a flight of one, days -/
theorem rem_w {a b : Nat} (ha : a < 2147483648) (hb : 0 < b) (hb9 : b < 2147483648) : q_rem (w a) (w b) = w (a % b) := by
  have hlt : a % b < b := Nat.mod_lt _ hb
  apply Int32.toInt_inj.mp
  unfold q_rem
  rw [rem_toInt, w_int ha, w_int hb9, w_int (by omega), Int.tmod_eq_emod_of_nonneg (by omega)]
  omega
abbrev wl (n : Nat) : Int64 := Int64.ofNat n
theorem wl_int {n : Nat} (h : n < 9223372036854775808) : (wl n).toInt = n := Int64.toInt_ofNat_of_lt h
theorem wl_add {a b : Nat} : wl a + wl b = wl (a + b) := (Int64.ofNat_add a b).symm
theorem wl_mul {a b : Nat} : wl a * wl b = wl (a * b) := (Int64.ofNat_mul a b).symm
theorem wl_of {n : Nat} (h : n < 2147483648) : Int32.toInt64 (w n) = wl n := by
  apply Int64.toInt_inj.mp
  rw [Int32.toInt_toInt64, w_int h, wl_int (by omega)]
theorem wl_div {a b : Nat} (ha : a < 9223372036854775808) (hb : 0 < b) (hb9 : b < 9223372036854775808) : wl a / wl b = wl (a / b) := by
  have hle : a / b ≤ a := Nat.div_le_self a b
  apply Int64.toInt_inj.mp
  rw [Int64.toInt_div, wl_int ha, wl_int hb9, wl_int (by omega), Int.tdiv_eq_ediv_of_nonneg (by omega), ← Int.natCast_ediv]
  have key : ∀ q : Nat, q ≤ a → (q : Int).bmod (2 ^ 64) = q := fun q h => Int.bmod_eq_of_le (by omega) (by omega)
  exact key _ hle
theorem wl_sub {a b : Nat} (h : b ≤ a) (ha : a < 9223372036854775808) : wl a - wl b = wl (a - b) := by
  apply Int64.toInt_inj.mp
  rw [Int64.toInt_sub, wl_int ha, wl_int (by omega), wl_int (by omega), Int.bmod_eq_of_le (by omega) (by omega)]
  omega
theorem rem_wl {a b : Nat} (ha : a < 9223372036854775808) (hb : 0 < b) (hb9 : b < 9223372036854775808) : wl a - wl a / wl b * wl b = wl (a % b) := by
  have h1 : a / b * b ≤ a := Nat.div_mul_le_self a b
  rw [wl_div ha hb hb9, wl_mul, wl_sub h1 ha]
  congr 1
  have := Nat.div_add_mod a b
  rw [Nat.mul_comm] at this
  omega
theorem wl_w {n : Nat} : Int64.toInt32 (wl n) = w n := Int64.toInt32_ofNat'
theorem seed_rem {n : Nat} (h : n < 65537) : q_rem (75 * w n + 74) 65537 = w ((75 * n + 74) % 65537) := by
  rw [show (75 : Int32) = w 75 from rfl, show (74 : Int32) = w 74 from rfl, show (65537 : Int32) = w 65537 from rfl, w_mul, w_add, rem_w (by omega) (by omega) (by omega)]
theorem mm_me {I : qI} {m f : Nat} {xi xl xp xs xf xa xt : Nat → Int32} {sd : Int32} (h : f + 24 ≤ m ∨ m + 19 ≤ f) : qme (q_mm I m xi xl xp xs xf xa xt sd) f = qme I f := by
  funext k
  unfold qme
  by_cases c : k < 24
  · rw [if_pos c, if_pos c, q_mm_out (by omega)]
  · rw [if_neg c, if_neg c]
section MFL
variable {I : qI} {L : qL} {s : qS} {m f : Nat} {D : Nat → Nat → Int32} {P : Nat → Int32} {U S dn : Nat} {xi xl xp xs xf xa xt : Nat → Int32} {sd : Int32}
theorem mm_v : q_mm I m xi xl xp xs xf xa xt sd (m + 2) = I (m + 2) := by
  unfold q_mm
  rw [if_neg (by omega), if_neg (by omega), if_neg (by omega), if_neg (by omega), if_neg (by omega), if_neg (by omega), if_neg (by omega), if_neg (by omega)]
theorem mm_mr (h : f + 24 ≤ m ∨ m + 19 ≤ f) (hR : qMR I m f D P U S dn) : qMR (q_mm I m xi xl xp xs xf xa xt sd) m f D P U S dn := by
  unfold qMR at hR ⊢
  rw [mm_me h, mm_v]
  exact hR
theorem mLost_eq (hF : qMf s f) {J : qI} {u a b : Nat} (hE : qRD D (qme J f) U S) (hu : u < U) (hU : U ≤ 6) (ha : a < 8) (hb : b < 8) (hway : ¬ D 2 (8 * a + b) < 0) : jD 187 [.ref f, .int (w u), .int (w a), .int (w b)] (J, L, s) = some (some (.int (q_loss D (w u) (w a) (w b))), J, L, s) := by
  have h4 : J (f + 4) u = D 4 u := (hE.2.2.2.2.2 u hu).1
  have h3 : J (f + 3) (8 * a + b) = D 3 (8 * a + b) := by
    rcases hE.2.2.2.2.1 (8 * a + b) (by omega) with z | z
    · exact absurd z.1 hway
    · exact z.2.2
  rw [D_187, E_187_0]
  simp only [show (8 : Int32) = w 8 from rfl, w_mul, w_add, q_i, q_l, q_k, q_r, q_z, q_si, q_sl, jx_lt, jx_ri, jx_rl, jx_rv, if_true, if_false, Nat.reduceLeDiff, Nat.add_one_ne_zero, and_self, true_or, or_true, Nat.reduceEqDiff, or_self, or_false, false_or, mf_k hF, mf_r17 hF, mf_k17 hF, mf_z17 hF, mf_r16 hF, mf_k16 hF, mf_z16 hF, w_nn (a := u) (by omega), show ¬ 6 ≤ u by omega, w_tc (a := u) (by omega), w_nn (a := 8 * a + b) (by omega), show ¬ 64 ≤ 8 * a + b by omega, w_tc (a := 8 * a + b) (by omega), h4, h3, E_187_1, E_187_2]
  unfold q_loss
  rw [show (8 : Int32) = w 8 from rfl, w_mul, w_add, Nat.mul_comm a 8, q_at_w (by omega) (by omega), q_at_w (by omega) (by omega)]
  split <;> rename_i c <;> simp only [c, if_true, if_false]
/-- the reference's seed against the class's -/
def qSd (dr sd sdc : Int32) : Prop := (dr = 0 ∧ sdc = -1) ∨ (dr = 1 ∧ sdc = sd ∧ ∃ n, sd = w n ∧ n < 65537)
theorem mFlown_eq (hm : qMF s m f) (hdis : f + 24 ≤ m ∨ m + 19 ≤ f) (hR : qMR I m f D P U S dn) {u d a : Nat} {dr to fl sdc : Int32} {ai fv x1 : Nat → Int32} (hu : u < U) (hd : d < 20) (hsd : qSd dr sd sdc) (hx1 : x1 u = xi u) (hai : ai u = to) (hfv : fv (6 * d + u) = fl)
    (hto : to = -1 ∨ (xi u = w a ∧ a < S ∧ ∃ b N, to = w b ∧ b < S ∧ ¬ D 2 (8 * a + b) < 0 ∧ fl = w N ∧ N < 64 ∧ N / 2 ^ u % 2 = 1 ∧ ∀ k, k < 6 → N / 2 ^ k % 2 = 1 → k < U)) :
    ∃ sd', jD 243 [.ref m, .int (w u), .int (w d), .int dr, .int to, .int fl] (q_mm I m xi xl xp xs xf xa xt sd, L, s) = some (some (.int ((q_move D ai fv d u (x1, xl, xa, sdc)).1 u)), q_mm I m xi (q_move D ai fv d u (x1, xl, xa, sdc)).2.1 xp xs xf (q_move D ai fv d u (x1, xl, xa, sdc)).2.2.1 xt sd', L, s) ∧ qSd dr sd' (q_move D ai fv d u (x1, xl, xa, sdc)).2.2.2 := by
  obtain ⟨hU5, hU⟩ := mU hR
  have hS := hR.1.2.2.2.1
  rcases hto with ht | ⟨ha, ha9, b, N, hb, hb9, hway, hfl, hN, hbit, hNU⟩
  · subst ht
    refine ⟨sd, ?_, ?_⟩
    · rw [D_243, E_243_0]
      simp only [q_i, q_l, q_k, q_r, q_z, q_si, q_sl, jx_lt, jx_ri, jx_rl, jx_rv, if_true, if_false, Nat.reduceLeDiff, Nat.add_one_ne_zero, and_self, true_or, or_true, Nat.reduceEqDiff, or_self, or_false, false_or, mo_k hm.1, mo_r5 hm.1, mo_k5 hm.1, mo_z5 hm.1, mo_r16 hm.1, mo_k16 hm.1, mo_z16 hm.1, mo_r17 hm.1, mo_k17 hm.1, mo_z17 hm.1, mo_r18 hm.1, mo_k18 hm.1, mo_z18 hm.1, mo_r21 hm.1, mo_k21 hm.1, mo_z21 hm.1, mo_r22 hm.1, mo_k22 hm.1, mo_z22 hm.1, mo_r23 hm.1, mo_k23 hm.1, mo_z23 hm.1, mo_r24 hm.1, mo_k24 hm.1, mo_z24 hm.1, mo_r25 hm.1, mo_k25 hm.1, mo_z25 hm.1, mo_r26 hm.1, mo_k26 hm.1, mo_z26 hm.1, mo_r27 hm.1, mo_k27 hm.1, mo_z27 hm.1, mo_r29 hm.1, mo_k29 hm.1, mo_z29 hm.1, mo_r30 hm.1, mo_k30 hm.1, mo_z30 hm.1, mo_r31 hm.1, mo_k31 hm.1, mo_z31 hm.1, mo_r32 hm.1, mo_k32 hm.1, mo_z32 hm.1, mo_r40 hm.1, mo_k40 hm.1, mo_z40 hm.1, mo_r43 hm.1, mo_k43 hm.1, mo_z43 hm.1, mo_r44 hm.1, mo_k44 hm.1, mo_z44 hm.1, mf_k hm.2.1, mf_r14 hm.2.1, mf_k14 hm.2.1, mf_z14 hm.2.1, mf_r15 hm.2.1, mf_k15 hm.2.1, mf_z15 hm.2.1, mf_r16 hm.2.1, mf_k16 hm.2.1, mf_z16 hm.2.1, mf_r17 hm.2.1, mf_k17 hm.2.1, mf_z17 hm.2.1, mf_r18 hm.2.1, mf_k18 hm.2.1, mf_z18 hm.2.1, mf_r19 hm.2.1, mf_k19 hm.2.1, mf_z19 hm.2.1, mf_r20 hm.2.1, mf_k20 hm.2.1, mf_z20 hm.2.1, mf_r21 hm.2.1, mf_k21 hm.2.1, mf_z21 hm.2.1, mf_r22 hm.2.1, mf_k22 hm.2.1, mf_z22 hm.2.1, mf_r23 hm.2.1, mf_k23 hm.2.1, mf_z23 hm.2.1, mf_r24 hm.2.1, mf_k24 hm.2.1, mf_z24 hm.2.1, mf_r25 hm.2.1, mf_k25 hm.2.1, mf_z25 hm.2.1, mf_r26 hm.2.1, mf_k26 hm.2.1, mf_z26 hm.2.1, mf_r27 hm.2.1, mf_k27 hm.2.1, mf_z27 hm.2.1, mf_r28 hm.2.1, mf_k28 hm.2.1, mf_z28 hm.2.1, mf_r29 hm.2.1, mf_k29 hm.2.1, mf_z29 hm.2.1, mf_r30 hm.2.1, mf_k30 hm.2.1, mf_z30 hm.2.1, mf_r31 hm.2.1, mf_k31 hm.2.1, mf_z31 hm.2.1, mf_r32 hm.2.1, mf_k32 hm.2.1, mf_z32 hm.2.1, mf_r33 hm.2.1, mf_k33 hm.2.1, mf_z33 hm.2.1, mf_r34 hm.2.1, mf_k34 hm.2.1, mf_z34 hm.2.1, mf_r35 hm.2.1, mf_k35 hm.2.1, mf_z35 hm.2.1, mf_r36 hm.2.1, mf_k36 hm.2.1, mf_z36 hm.2.1, hm.2.2.1, hm.2.2.2, w_nn (a := u) (by omega), show ¬ 6 ≤ u by omega, w_tc (a := u) (by omega), q_mm_o, q_mm_xi, q_mm_xl, q_mm_xp, q_mm_xs, q_mm_xf, q_mm_xa, q_mm_xt, q_mm_uxi, q_mm_uxl, q_mm_uxp, q_mm_uxs, q_mm_uxf, q_mm_uxa, q_mm_uxt, q_mm_usd, q_mm_gsd]
      unfold q_move
      rw [if_pos (by rw [hai]; exact m1_lt)]
      simp only [hx1]
    · unfold q_move
      rw [if_pos (by rw [hai]; exact m1_lt)]
      exact hsd
  · subst hb
    subst hfl
    have hR' := mm_mr (xi := xi) (xl := xl) (xp := xp) (xs := xs) (xf := xf) (xa := xa) (xt := xt) (sd := sd) hdis hR
    have hcost := mCost_eq (L := L) (J := q_mm I m xi xl xp xs xf xa xt sd) hm hR' hu (a := a) (b := b) (N := N) (by rw [q_mm_xi]; exact ha) ha9 hb9 hway hN hbit hNU
    have hnn : ¬ ai u < 0 := by rw [hai]; exact w_nn (by omega)
    have hq : q_at 64 (D 2) (x1 u * 8 + ai u) = D 2 (8 * a + b) := by
      rw [hx1, ha, hai, show (8 : Int32) = w 8 from rfl, w_mul, w_add, q_at_w (by omega) (by omega), Nat.mul_comm]
    rw [D_243, E_243_0, if_neg (w_m1 (by omega)), E_243_1]
    simp only [q_i, q_l, q_k, q_r, q_z, q_si, q_sl, jx_lt, jx_ri, jx_rl, jx_rv, if_true, if_false, Nat.reduceLeDiff, Nat.add_one_ne_zero, and_self, true_or, or_true, Nat.reduceEqDiff, or_self, or_false, false_or, mo_k hm.1, mo_r5 hm.1, mo_k5 hm.1, mo_z5 hm.1, mo_r16 hm.1, mo_k16 hm.1, mo_z16 hm.1, mo_r17 hm.1, mo_k17 hm.1, mo_z17 hm.1, mo_r18 hm.1, mo_k18 hm.1, mo_z18 hm.1, mo_r21 hm.1, mo_k21 hm.1, mo_z21 hm.1, mo_r22 hm.1, mo_k22 hm.1, mo_z22 hm.1, mo_r23 hm.1, mo_k23 hm.1, mo_z23 hm.1, mo_r24 hm.1, mo_k24 hm.1, mo_z24 hm.1, mo_r25 hm.1, mo_k25 hm.1, mo_z25 hm.1, mo_r26 hm.1, mo_k26 hm.1, mo_z26 hm.1, mo_r27 hm.1, mo_k27 hm.1, mo_z27 hm.1, mo_r29 hm.1, mo_k29 hm.1, mo_z29 hm.1, mo_r30 hm.1, mo_k30 hm.1, mo_z30 hm.1, mo_r31 hm.1, mo_k31 hm.1, mo_z31 hm.1, mo_r32 hm.1, mo_k32 hm.1, mo_z32 hm.1, mo_r40 hm.1, mo_k40 hm.1, mo_z40 hm.1, mo_r43 hm.1, mo_k43 hm.1, mo_z43 hm.1, mo_r44 hm.1, mo_k44 hm.1, mo_z44 hm.1, mf_k hm.2.1, mf_r14 hm.2.1, mf_k14 hm.2.1, mf_z14 hm.2.1, mf_r15 hm.2.1, mf_k15 hm.2.1, mf_z15 hm.2.1, mf_r16 hm.2.1, mf_k16 hm.2.1, mf_z16 hm.2.1, mf_r17 hm.2.1, mf_k17 hm.2.1, mf_z17 hm.2.1, mf_r18 hm.2.1, mf_k18 hm.2.1, mf_z18 hm.2.1, mf_r19 hm.2.1, mf_k19 hm.2.1, mf_z19 hm.2.1, mf_r20 hm.2.1, mf_k20 hm.2.1, mf_z20 hm.2.1, mf_r21 hm.2.1, mf_k21 hm.2.1, mf_z21 hm.2.1, mf_r22 hm.2.1, mf_k22 hm.2.1, mf_z22 hm.2.1, mf_r23 hm.2.1, mf_k23 hm.2.1, mf_z23 hm.2.1, mf_r24 hm.2.1, mf_k24 hm.2.1, mf_z24 hm.2.1, mf_r25 hm.2.1, mf_k25 hm.2.1, mf_z25 hm.2.1, mf_r26 hm.2.1, mf_k26 hm.2.1, mf_z26 hm.2.1, mf_r27 hm.2.1, mf_k27 hm.2.1, mf_z27 hm.2.1, mf_r28 hm.2.1, mf_k28 hm.2.1, mf_z28 hm.2.1, mf_r29 hm.2.1, mf_k29 hm.2.1, mf_z29 hm.2.1, mf_r30 hm.2.1, mf_k30 hm.2.1, mf_z30 hm.2.1, mf_r31 hm.2.1, mf_k31 hm.2.1, mf_z31 hm.2.1, mf_r32 hm.2.1, mf_k32 hm.2.1, mf_z32 hm.2.1, mf_r33 hm.2.1, mf_k33 hm.2.1, mf_z33 hm.2.1, mf_r34 hm.2.1, mf_k34 hm.2.1, mf_z34 hm.2.1, mf_r35 hm.2.1, mf_k35 hm.2.1, mf_z35 hm.2.1, mf_r36 hm.2.1, mf_k36 hm.2.1, mf_z36 hm.2.1, hm.2.2.1, hm.2.2.2, w_nn (a := u) (by omega), show ¬ 6 ≤ u by omega, w_tc (a := u) (by omega), hcost, q_mm_o, q_mm_xi, q_mm_xl, q_mm_xp, q_mm_xs, q_mm_xf, q_mm_xa, q_mm_xt, q_mm_uxi, q_mm_uxl, q_mm_uxp, q_mm_uxs, q_mm_uxf, q_mm_uxa, q_mm_uxt, q_mm_usd, q_mm_gsd]
    unfold q_move
    rw [if_neg hnn, hq, hfv]
    by_cases c : q_cost D u (w N &&& (((1 : Int32) <<< (w u &&& 31)) ^^^ (-1))) (D 2 (8 * a + b)) ≤ xl u
    · have c' : q_cost D u (w N &&& (((1 : Int32) <<< (w u &&& 31)) ^^^ (-1))) (D 2 (8 * a + b)) ≤ (x1, xl, xa, sdc).2.1 u := c
      rw [if_pos c, if_pos c', E_243_2]
      simp only [q_i, q_l, q_k, q_r, q_z, q_si, q_sl, jx_lt, jx_ri, jx_rl, jx_rv, if_true, if_false, Nat.reduceLeDiff, Nat.add_one_ne_zero, and_self, true_or, or_true, Nat.reduceEqDiff, or_self, or_false, false_or, mo_k hm.1, mo_r5 hm.1, mo_k5 hm.1, mo_z5 hm.1, mo_r16 hm.1, mo_k16 hm.1, mo_z16 hm.1, mo_r17 hm.1, mo_k17 hm.1, mo_z17 hm.1, mo_r18 hm.1, mo_k18 hm.1, mo_z18 hm.1, mo_r21 hm.1, mo_k21 hm.1, mo_z21 hm.1, mo_r22 hm.1, mo_k22 hm.1, mo_z22 hm.1, mo_r23 hm.1, mo_k23 hm.1, mo_z23 hm.1, mo_r24 hm.1, mo_k24 hm.1, mo_z24 hm.1, mo_r25 hm.1, mo_k25 hm.1, mo_z25 hm.1, mo_r26 hm.1, mo_k26 hm.1, mo_z26 hm.1, mo_r27 hm.1, mo_k27 hm.1, mo_z27 hm.1, mo_r29 hm.1, mo_k29 hm.1, mo_z29 hm.1, mo_r30 hm.1, mo_k30 hm.1, mo_z30 hm.1, mo_r31 hm.1, mo_k31 hm.1, mo_z31 hm.1, mo_r32 hm.1, mo_k32 hm.1, mo_z32 hm.1, mo_r40 hm.1, mo_k40 hm.1, mo_z40 hm.1, mo_r43 hm.1, mo_k43 hm.1, mo_z43 hm.1, mo_r44 hm.1, mo_k44 hm.1, mo_z44 hm.1, mf_k hm.2.1, mf_r14 hm.2.1, mf_k14 hm.2.1, mf_z14 hm.2.1, mf_r15 hm.2.1, mf_k15 hm.2.1, mf_z15 hm.2.1, mf_r16 hm.2.1, mf_k16 hm.2.1, mf_z16 hm.2.1, mf_r17 hm.2.1, mf_k17 hm.2.1, mf_z17 hm.2.1, mf_r18 hm.2.1, mf_k18 hm.2.1, mf_z18 hm.2.1, mf_r19 hm.2.1, mf_k19 hm.2.1, mf_z19 hm.2.1, mf_r20 hm.2.1, mf_k20 hm.2.1, mf_z20 hm.2.1, mf_r21 hm.2.1, mf_k21 hm.2.1, mf_z21 hm.2.1, mf_r22 hm.2.1, mf_k22 hm.2.1, mf_z22 hm.2.1, mf_r23 hm.2.1, mf_k23 hm.2.1, mf_z23 hm.2.1, mf_r24 hm.2.1, mf_k24 hm.2.1, mf_z24 hm.2.1, mf_r25 hm.2.1, mf_k25 hm.2.1, mf_z25 hm.2.1, mf_r26 hm.2.1, mf_k26 hm.2.1, mf_z26 hm.2.1, mf_r27 hm.2.1, mf_k27 hm.2.1, mf_z27 hm.2.1, mf_r28 hm.2.1, mf_k28 hm.2.1, mf_z28 hm.2.1, mf_r29 hm.2.1, mf_k29 hm.2.1, mf_z29 hm.2.1, mf_r30 hm.2.1, mf_k30 hm.2.1, mf_z30 hm.2.1, mf_r31 hm.2.1, mf_k31 hm.2.1, mf_z31 hm.2.1, mf_r32 hm.2.1, mf_k32 hm.2.1, mf_z32 hm.2.1, mf_r33 hm.2.1, mf_k33 hm.2.1, mf_z33 hm.2.1, mf_r34 hm.2.1, mf_k34 hm.2.1, mf_z34 hm.2.1, mf_r35 hm.2.1, mf_k35 hm.2.1, mf_z35 hm.2.1, mf_r36 hm.2.1, mf_k36 hm.2.1, mf_z36 hm.2.1, hm.2.2.1, hm.2.2.2, w_nn (a := u) (by omega), show ¬ 6 ≤ u by omega, w_tc (a := u) (by omega), q_mm_o, q_mm_xi, q_mm_xl, q_mm_xp, q_mm_xs, q_mm_xf, q_mm_xa, q_mm_xt, q_mm_uxi, q_mm_uxl, q_mm_uxp, q_mm_uxs, q_mm_uxf, q_mm_uxa, q_mm_uxt, q_mm_usd, q_mm_gsd, q_set_eq]
      rcases hsd with ⟨h1, h2⟩ | ⟨h1, h2, n, h3, hn⟩
      · subst h1; subst h2
        refine ⟨sd, ?_, Or.inl ⟨rfl, ?_⟩⟩
        · simp only [if_true, m1_lt, hai, Int32.sub_eq_add_neg]
        · simp only [m1_lt, if_true]
      · subst h1; subst h2; subst h3
        have hs := seed_rem hn
        have hs64 : Int64.toInt32 (75 * Int32.toInt64 (w n) + 74 - (75 * Int32.toInt64 (w n) + 74) / 65537 * 65537) = w ((75 * n + 74) % 65537) := by
          rw [wl_of (by omega), show (75 : Int64) = wl 75 from rfl, show (74 : Int64) = wl 74 from rfl, show (65537 : Int64) = wl 65537 from rfl, wl_mul, wl_add, rem_wl (by omega) (by omega) (by omega), wl_w]
        have hlt : (75 * n + 74) % 65537 < 65537 := Nat.mod_lt _ (by omega)
        have hl := fun (y : Nat → Int32) (z : Int32) => mLost_eq (L := L) (s := s) (J := q_mm I m xi y xp xs xf xa xt z) hm.2.1 (u := u) (a := a) (b := b) (mm_mr (xi := xi) (xl := y) (xp := xp) (xs := xs) (xf := xf) (xa := xa) (xt := xt) (sd := z) hdis hR).2.2.1 hu hU (by omega) (by omega) hway
        refine ⟨w ((75 * n + 74) % 65537), ?_, Or.inr ⟨rfl, ?_, _, rfl, hlt⟩⟩
        · rw [if_neg (by decide), E_243_3]
          simp only [q_i, q_l, q_k, q_r, q_z, q_si, q_sl, jx_lt, jx_ri, jx_rl, jx_rv, if_true, if_false, Nat.reduceLeDiff, Nat.add_one_ne_zero, and_self, true_or, or_true, Nat.reduceEqDiff, or_self, or_false, false_or, mo_k hm.1, mo_r5 hm.1, mo_k5 hm.1, mo_z5 hm.1, mo_r16 hm.1, mo_k16 hm.1, mo_z16 hm.1, mo_r17 hm.1, mo_k17 hm.1, mo_z17 hm.1, mo_r18 hm.1, mo_k18 hm.1, mo_z18 hm.1, mo_r21 hm.1, mo_k21 hm.1, mo_z21 hm.1, mo_r22 hm.1, mo_k22 hm.1, mo_z22 hm.1, mo_r23 hm.1, mo_k23 hm.1, mo_z23 hm.1, mo_r24 hm.1, mo_k24 hm.1, mo_z24 hm.1, mo_r25 hm.1, mo_k25 hm.1, mo_z25 hm.1, mo_r26 hm.1, mo_k26 hm.1, mo_z26 hm.1, mo_r27 hm.1, mo_k27 hm.1, mo_z27 hm.1, mo_r29 hm.1, mo_k29 hm.1, mo_z29 hm.1, mo_r30 hm.1, mo_k30 hm.1, mo_z30 hm.1, mo_r31 hm.1, mo_k31 hm.1, mo_z31 hm.1, mo_r32 hm.1, mo_k32 hm.1, mo_z32 hm.1, mo_r40 hm.1, mo_k40 hm.1, mo_z40 hm.1, mo_r43 hm.1, mo_k43 hm.1, mo_z43 hm.1, mo_r44 hm.1, mo_k44 hm.1, mo_z44 hm.1, mf_k hm.2.1, mf_r14 hm.2.1, mf_k14 hm.2.1, mf_z14 hm.2.1, mf_r15 hm.2.1, mf_k15 hm.2.1, mf_z15 hm.2.1, mf_r16 hm.2.1, mf_k16 hm.2.1, mf_z16 hm.2.1, mf_r17 hm.2.1, mf_k17 hm.2.1, mf_z17 hm.2.1, mf_r18 hm.2.1, mf_k18 hm.2.1, mf_z18 hm.2.1, mf_r19 hm.2.1, mf_k19 hm.2.1, mf_z19 hm.2.1, mf_r20 hm.2.1, mf_k20 hm.2.1, mf_z20 hm.2.1, mf_r21 hm.2.1, mf_k21 hm.2.1, mf_z21 hm.2.1, mf_r22 hm.2.1, mf_k22 hm.2.1, mf_z22 hm.2.1, mf_r23 hm.2.1, mf_k23 hm.2.1, mf_z23 hm.2.1, mf_r24 hm.2.1, mf_k24 hm.2.1, mf_z24 hm.2.1, mf_r25 hm.2.1, mf_k25 hm.2.1, mf_z25 hm.2.1, mf_r26 hm.2.1, mf_k26 hm.2.1, mf_z26 hm.2.1, mf_r27 hm.2.1, mf_k27 hm.2.1, mf_z27 hm.2.1, mf_r28 hm.2.1, mf_k28 hm.2.1, mf_z28 hm.2.1, mf_r29 hm.2.1, mf_k29 hm.2.1, mf_z29 hm.2.1, mf_r30 hm.2.1, mf_k30 hm.2.1, mf_z30 hm.2.1, mf_r31 hm.2.1, mf_k31 hm.2.1, mf_z31 hm.2.1, mf_r32 hm.2.1, mf_k32 hm.2.1, mf_z32 hm.2.1, mf_r33 hm.2.1, mf_k33 hm.2.1, mf_z33 hm.2.1, mf_r34 hm.2.1, mf_k34 hm.2.1, mf_z34 hm.2.1, mf_r35 hm.2.1, mf_k35 hm.2.1, mf_z35 hm.2.1, mf_r36 hm.2.1, mf_k36 hm.2.1, mf_z36 hm.2.1, hm.2.2.1, hm.2.2.2, w_nn (a := u) (by omega), show ¬ 6 ≤ u by omega, w_tc (a := u) (by omega), q_mm_o, q_mm_xi, q_mm_xl, q_mm_xp, q_mm_xs, q_mm_xf, q_mm_xa, q_mm_xt, q_mm_uxi, q_mm_uxl, q_mm_uxp, q_mm_uxs, q_mm_uxf, q_mm_uxa, q_mm_uxt, q_mm_usd, q_mm_gsd, ha, hs64, hl, show ¬ (65537 : Int64) = 0 by decide, show ¬ (100 : Int32) = 0 by decide, if_false, E_243_4, E_243_5]
          simp only [w_nn (a := n) (by omega), if_false, hs, hx1, hai, ha]
          show (if q_loss D (w u) (w a) (w b) ≤ q_rem (w ((75 * n + 74) % 65537)) 100 then _ else _) = _
          by_cases c2 : q_loss D (w u) (w a) (w b) ≤ q_rem (w ((75 * n + 74) % 65537)) 100
          · rw [if_pos c2, if_neg (Int32.not_lt.mpr c2), Int32.sub_eq_add_neg]
          · rw [if_neg c2, if_pos (Int32.not_le.mp c2), Int32.sub_eq_add_neg]
        · simp only [w_nn (a := n) (by omega), if_false, hs]
    · have c' : ¬ q_cost D u (w N &&& (((1 : Int32) <<< (w u &&& 31)) ^^^ (-1))) (D 2 (8 * a + b)) ≤ (x1, xl, xa, sdc).2.1 u := c
      rw [if_neg c, if_neg c']
      refine ⟨sd, ?_, hsd⟩
      simp only [q_i, q_l, q_k, q_r, q_z, q_si, q_sl, jx_lt, jx_ri, jx_rl, jx_rv, if_true, if_false, Nat.reduceLeDiff, Nat.add_one_ne_zero, and_self, true_or, or_true, Nat.reduceEqDiff, or_self, or_false, false_or, mo_k hm.1, mo_r5 hm.1, mo_k5 hm.1, mo_z5 hm.1, mo_r16 hm.1, mo_k16 hm.1, mo_z16 hm.1, mo_r17 hm.1, mo_k17 hm.1, mo_z17 hm.1, mo_r18 hm.1, mo_k18 hm.1, mo_z18 hm.1, mo_r21 hm.1, mo_k21 hm.1, mo_z21 hm.1, mo_r22 hm.1, mo_k22 hm.1, mo_z22 hm.1, mo_r23 hm.1, mo_k23 hm.1, mo_z23 hm.1, mo_r24 hm.1, mo_k24 hm.1, mo_z24 hm.1, mo_r25 hm.1, mo_k25 hm.1, mo_z25 hm.1, mo_r26 hm.1, mo_k26 hm.1, mo_z26 hm.1, mo_r27 hm.1, mo_k27 hm.1, mo_z27 hm.1, mo_r29 hm.1, mo_k29 hm.1, mo_z29 hm.1, mo_r30 hm.1, mo_k30 hm.1, mo_z30 hm.1, mo_r31 hm.1, mo_k31 hm.1, mo_z31 hm.1, mo_r32 hm.1, mo_k32 hm.1, mo_z32 hm.1, mo_r40 hm.1, mo_k40 hm.1, mo_z40 hm.1, mo_r43 hm.1, mo_k43 hm.1, mo_z43 hm.1, mo_r44 hm.1, mo_k44 hm.1, mo_z44 hm.1, mf_k hm.2.1, mf_r14 hm.2.1, mf_k14 hm.2.1, mf_z14 hm.2.1, mf_r15 hm.2.1, mf_k15 hm.2.1, mf_z15 hm.2.1, mf_r16 hm.2.1, mf_k16 hm.2.1, mf_z16 hm.2.1, mf_r17 hm.2.1, mf_k17 hm.2.1, mf_z17 hm.2.1, mf_r18 hm.2.1, mf_k18 hm.2.1, mf_z18 hm.2.1, mf_r19 hm.2.1, mf_k19 hm.2.1, mf_z19 hm.2.1, mf_r20 hm.2.1, mf_k20 hm.2.1, mf_z20 hm.2.1, mf_r21 hm.2.1, mf_k21 hm.2.1, mf_z21 hm.2.1, mf_r22 hm.2.1, mf_k22 hm.2.1, mf_z22 hm.2.1, mf_r23 hm.2.1, mf_k23 hm.2.1, mf_z23 hm.2.1, mf_r24 hm.2.1, mf_k24 hm.2.1, mf_z24 hm.2.1, mf_r25 hm.2.1, mf_k25 hm.2.1, mf_z25 hm.2.1, mf_r26 hm.2.1, mf_k26 hm.2.1, mf_z26 hm.2.1, mf_r27 hm.2.1, mf_k27 hm.2.1, mf_z27 hm.2.1, mf_r28 hm.2.1, mf_k28 hm.2.1, mf_z28 hm.2.1, mf_r29 hm.2.1, mf_k29 hm.2.1, mf_z29 hm.2.1, mf_r30 hm.2.1, mf_k30 hm.2.1, mf_z30 hm.2.1, mf_r31 hm.2.1, mf_k31 hm.2.1, mf_z31 hm.2.1, mf_r32 hm.2.1, mf_k32 hm.2.1, mf_z32 hm.2.1, mf_r33 hm.2.1, mf_k33 hm.2.1, mf_z33 hm.2.1, mf_r34 hm.2.1, mf_k34 hm.2.1, mf_z34 hm.2.1, mf_r35 hm.2.1, mf_k35 hm.2.1, mf_z35 hm.2.1, mf_r36 hm.2.1, mf_k36 hm.2.1, mf_z36 hm.2.1, hm.2.2.1, hm.2.2.2, w_nn (a := u) (by omega), show ¬ 6 ≤ u by omega, w_tc (a := u) (by omega), q_mm_o, q_mm_xi, q_mm_xl, q_mm_xp, q_mm_xs, q_mm_xf, q_mm_xa, q_mm_xt, q_mm_uxi, q_mm_uxl, q_mm_uxp, q_mm_uxs, q_mm_uxf, q_mm_uxa, q_mm_uxt, q_mm_usd, q_mm_gsd, q_set_eq]
end MFL
