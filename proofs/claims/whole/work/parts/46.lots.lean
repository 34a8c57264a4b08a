/-! LOTS AND FRACTIONS -/
def q_prev (h : Nat) (g : Nat → Nat) (i : Nat) : Nat := if i = 0 then h else g (i - 1)
def q_keep (D : Nat → Nat → Int32) (u a b : Nat) : Nat := 100 - (q_loss D (w u) (w a) (w b)).toNatClampNeg
def q_lot (D : Nat → Nat → Int32) (u h : Nat) (g : Nat → Nat) (k : Nat) : Nat := q_it (fun i x => x * (if i < k then q_keep D u (q_prev h g i) (g i) else 100)) 5 1
theorem lot_le {D : Nat → Nat → Int32} {u h k : Nat} {g : Nat → Nat} : ∀ n, q_it (fun i x => x * (if i < k then q_keep D u (q_prev h g i) (g i) else 100)) n 1 ≤ 100 ^ n := by
  intro n
  induction n with
  | zero => exact Nat.le_refl _
  | succ n ih =>
    show q_it _ n 1 * (if n < k then q_keep D u (q_prev h g n) (g n) else 100) ≤ 100 ^ (n + 1)
    rw [Nat.pow_succ]
    refine Nat.mul_le_mul ih ?_
    split
    · exact Nat.sub_le _ _
    · exact Nat.le_refl _
theorem loss_w {D : Nat → Nat → Int32} {U S dn R O W u a b : Nat} (hX : qXD D U S dn R O W) (ha : a < 8) (hb : b < 8) (hway : ¬ D 2 (8 * a + b) < 0) : ∃ l, q_loss D (w u) (w a) (w b) = w l ∧ l ≤ 100 ∧ q_keep D u a b = 100 - l := by
  have key : ∃ l, q_loss D (w u) (w a) (w b) = w l ∧ l ≤ 100 := by
    rcases hX.2.2.2.2.2.2.1 (8 * a + b) (by omega) with z | ⟨x, y, z1, z2, z3, z4⟩
    · exact absurd (by rw [z]; exact m2_lt) hway
    · unfold q_loss
      rw [show (8 : Int32) = w 8 from rfl, w_mul, w_add, Nat.mul_comm a 8, q_at_w (n := 64) (k := 8 * a + b) (by omega) (by omega), z3]
      split
      · exact ⟨2 * y, by rw [show (2 : Int32) = w 2 from rfl, w_mul], by omega⟩
      · exact ⟨y, rfl, by omega⟩
  obtain ⟨l, h1, h2⟩ := key
  refine ⟨l, h1, h2, ?_⟩
  unfold q_keep
  rw [h1, w_tc (by omega)]
theorem wl_keep {l : Nat} (h : l ≤ 100) : Int32.toInt64 (100 - w l) = wl (100 - l) := by
  rw [show (100 : Int32) = w 100 from rfl, w_sub h (by omega), wl_of (by omega)]
section LO
variable {I : qI} {L : qL} {s : qS} {t t' U S dn R O W : Nat}
theorem lotOf_eq (hf : qFl s t) (hX : qXD (qd I t) U S dn R O W) (hS : S ≤ 8) {u h k : Nat} {g : Nat → Nat} (hu : u < 6) (hh : qd I t 6 u = w h) (hh8 : h < 8) (hk : k ≤ 5) (hp : q_path (qd I t) S h g k) :
    jD 102 [.ref t, .int (w u), .int (w (q_cd g k))] (I, L, s) = some (some (.long (wl (q_lot (qd I t) u h g k))), I, L, s) := by
  have r6 := fl_k hf (k := 6) (n := 6) (by omega) rfl
  have hh' : I (t + 1 + 2 * 6 + 1) u = w h := hh
  have hst : ∀ i, i < 5 → q_stop (w (q_cd g k)) (w i) = if i < k then w (g i) else -1 := fun i hi => stop_cd hk (fun j hj => by have := hp.1 j hj; omega) hi
  rw [D_102, E_102_0]
  simp only [↓reduceIte, q_i, q_l, q_k, q_r, q_z, q_si, q_sl, jx_lt, jx_ri, jx_rl, jx_rv, if_true, if_false, Nat.reduceLeDiff, Nat.add_one_ne_zero, and_self, true_or, or_true, Nat.reduceEqDiff, or_self, or_false, false_or, hf.1, r6.1, r6.2.1, look_eq r6.2, q_at_w (n := 6) (k := u) (by omega) hu, hh']
  refine (q_loopP (F := fun i (p : Nat × Int32) => jd 102 1 [some (.ref t), some (.int (w u)), some (.int (w (q_cd g k))), some (.long (wl p.1)), none, some (.int p.2), some (.int (w i)), none] [] (I, L, s)) (n := 5)
    (g := fun i p => (p.1 * (if i < k then q_keep (qd I t) u (q_prev h g i) (g i) else 100), if i < k then w (g i) else -1)) (P := fun i p => i ≤ k → p.2 = w (q_prev h g i)) (fun i p hi hpp => ⟨?_, fun hik => ?_⟩) ((1 : Nat), w h) (fun _ => rfl)).1.trans ?_
  · show jd 102 1 _ _ _ = jd 102 1 _ _ _
    rw [E_102_1, if_neg (by rw [show (5 : Int32) = w 5 from rfl, w_le (by omega) (by omega)]; omega)]
    simp only [↓reduceIte, q_i, q_l, q_k, q_r, q_z, q_si, q_sl, jx_lt, jx_ri, jx_rl, jx_rv, if_true, if_false, Nat.reduceLeDiff, Nat.add_one_ne_zero, and_self, true_or, or_true, Nat.reduceEqDiff, or_self, or_false, false_or, stopAt_eq, hst i hi]
    by_cases c : i < k
    · have hg := hp.1 i c
      have hpv : q_prev h g i < 8 := by
        unfold q_prev
        split
        · exact hh8
        · have := hp.1 (i - 1) (by omega); omega
      have hway : ¬ qd I t 2 (8 * q_prev h g i + g i) < 0 := by
        unfold q_prev
        by_cases c0 : i = 0
        · subst c0; rw [if_pos rfl]; exact hp.2.1 c
        · rw [if_neg c0]
          have := hp.2.2 (i - 1) (by omega)
          rw [show i - 1 + 1 = i by omega] at this
          exact this
      obtain ⟨l, h1, h2, h3⟩ := loss_w (u := u) hX hpv (show g i < 8 by omega) hway
      simp only [c, ↓reduceIte, q_i, q_l, q_k, q_r, q_z, q_si, q_sl, jx_lt, jx_ri, jx_rl, jx_rv, if_true, if_false, Nat.reduceLeDiff, Nat.add_one_ne_zero, and_self, true_or, or_true, Nat.reduceEqDiff, or_self, or_false, false_or, show (0 : Int32) ≤ w (g i) from Int32.not_lt.mp (w_nn (by omega)), E_102_2, hf.1, lossFor_eq hf, hpp (by omega), h1, E_102_3, wl_keep h2, wl_mul, h3, w_inc]
    · simp only [c, ↓reduceIte, q_i, q_l, q_k, q_r, q_z, q_si, q_sl, jx_lt, jx_ri, jx_rl, jx_rv, if_true, if_false, Nat.reduceLeDiff, Nat.add_one_ne_zero, and_self, true_or, or_true, Nat.reduceEqDiff, or_self, or_false, false_or, show ¬ (0 : Int32) ≤ -1 by decide, E_102_3, show (100 : Int64) = wl 100 from rfl, wl_mul, w_inc]
  · show (if i < k then w (g i) else -1) = w (q_prev h g (i + 1))
    rw [if_pos (by omega)]
    unfold q_prev
    rw [if_neg (by omega), Nat.add_sub_cancel]
  · show jd 102 1 _ _ _ = _
    rw [E_102_1, if_pos (by decide), E_102_4]
    have e : ∀ n (x : Int32), (q_it (fun i (p : Nat × Int32) => (p.1 * (if i < k then q_keep (qd I t) u (q_prev h g i) (g i) else 100), if i < k then w (g i) else -1)) n (1, x)).1 = q_it (fun i x => x * (if i < k then q_keep (qd I t) u (q_prev h g i) (g i) else 100)) n 1 := by
      intro n x
      induction n with
      | zero => rfl
      | succ n ih =>
        show (q_it _ n (1, x)).1 * _ = q_it _ n 1 * _
        rw [ih]
    rw [e 5 (w h)]
    rfl
variable {m f : Nat} {D : Nat → Nat → Int32} {P : Nat → Int32} {xr xe xk xt : Nat → Int32} {mn : Int32}
theorem safe_eq (hm : qMF s m f) (hdis : f + 24 ≤ m ∨ m + 19 ≤ f) (ht : qTie I m f D P U S dn R O W) {u h k e : Nat} {g : Nat → Nat} (hu : u < U) (hh8 : h < 8) (hk : k ≤ 5) (hp : q_path D S h g k) (he : e < 300) (h1 : xe e = w k) (h2 : xr (6 * e) = w h) (h3 : ∀ i, i < k → xr (6 * e + 1 + i) = w (g i)) :
    jD 261 [.ref m, .int (w u), .int (w e)] (q_mw I m xr xe xk xt mn, L, s) = some (some (.long (wl (q_lot D u h g k))), q_mw I m xr xe xk xt mn, L, s) := by
  have hS := ht.1.1.2.2.2.1
  have hU := ht.1.1.2.1
  have hT := mw_tie (xr := xr) (xe := xe) (xk := xk) (xt := xt) (mn := mn) hdis ht
  rw [D_261, E_261_0]
  refine (q_loop (F := fun i (x : Nat) => jd 261 1 [some (.ref m), some (.int (w u)), some (.int (w e)), some (.long (wl x)), none, some (.int (w i))] [] (q_mw I m xr xe xk xt mn, L, s)) (n := 5) (g := fun i x => x * (if i < k then q_keep D u (q_prev h g i) (g i) else 100)) (fun i x hi => ?_) 1).trans ?_
  · rw [E_261_1, if_neg (by rw [show (5 : Int32) = w 5 from rfl, w_le (by omega) (by omega)]; omega)]
    by_cases c : i < k
    · have hg := hp.1 i c
      have hpv : q_prev h g i < 8 := by
        unfold q_prev
        split
        · exact hh8
        · have := hp.1 (i - 1) (by omega); omega
      have hway : ¬ D 2 (8 * q_prev h g i + g i) < 0 := by
        unfold q_prev
        by_cases c0 : i = 0
        · subst c0; rw [if_pos rfl]; exact hp.2.1 c
        · rw [if_neg c0]
          have := hp.2.2 (i - 1) (by omega)
          rw [show i - 1 + 1 = i by omega] at this
          exact this
      have hx : xr (6 * e + i) = w (q_prev h g i) := by
        unfold q_prev
        by_cases c0 : i = 0
        · subst c0; rw [if_pos rfl]; exact h2
        · rw [if_neg c0]
          have := h3 (i - 1) (by omega)
          rw [show 6 * e + 1 + (i - 1) = 6 * e + i by omega] at this
          exact this
      have hx2 : xr (6 * e + i + 1) = w (g i) := by
        rw [show 6 * e + i + 1 = 6 * e + 1 + i by omega]; exact h3 i c
      obtain ⟨l, q1, q2, q3⟩ := loss_w (u := u) ht.2.1 hpv (show g i < 8 by omega) hway
      have hlost := mLost_eq (L := L) (J := q_mw I m xr xe xk xt mn) (s := s) hm.2.1 hT.1.2.2.1 hu hU hpv (show g i < 8 by omega) hway
      simp only [show (6 : Int32) = w 6 from rfl, ↓reduceIte, q_i, q_l, q_k, q_r, q_z, q_si, q_sl, jx_lt, jx_ri, jx_rl, jx_rv, if_true, if_false, Nat.reduceLeDiff, Nat.add_one_ne_zero, and_self, true_or, or_true, Nat.reduceEqDiff, or_self, or_false, false_or, mo_k hm.1, mo_r5 hm.1, mo_k5 hm.1, mo_z5 hm.1, mo_r16 hm.1, mo_k16 hm.1, mo_z16 hm.1, mo_r17 hm.1, mo_k17 hm.1, mo_z17 hm.1, mo_r18 hm.1, mo_k18 hm.1, mo_z18 hm.1, mo_r21 hm.1, mo_k21 hm.1, mo_z21 hm.1, mo_r22 hm.1, mo_k22 hm.1, mo_z22 hm.1, mo_r23 hm.1, mo_k23 hm.1, mo_z23 hm.1, mo_r24 hm.1, mo_k24 hm.1, mo_z24 hm.1, mo_r25 hm.1, mo_k25 hm.1, mo_z25 hm.1, mo_r26 hm.1, mo_k26 hm.1, mo_z26 hm.1, mo_r27 hm.1, mo_k27 hm.1, mo_z27 hm.1, mo_r29 hm.1, mo_k29 hm.1, mo_z29 hm.1, mo_r30 hm.1, mo_k30 hm.1, mo_z30 hm.1, mo_r31 hm.1, mo_k31 hm.1, mo_z31 hm.1, mo_r32 hm.1, mo_k32 hm.1, mo_z32 hm.1, mo_r40 hm.1, mo_k40 hm.1, mo_z40 hm.1, mo_r43 hm.1, mo_k43 hm.1, mo_z43 hm.1, mo_r44 hm.1, mo_k44 hm.1, mo_z44 hm.1, mf_k hm.2.1, mf_r14 hm.2.1, mf_k14 hm.2.1, mf_z14 hm.2.1, mf_r15 hm.2.1, mf_k15 hm.2.1, mf_z15 hm.2.1, mf_r16 hm.2.1, mf_k16 hm.2.1, mf_z16 hm.2.1, mf_r17 hm.2.1, mf_k17 hm.2.1, mf_z17 hm.2.1, mf_r18 hm.2.1, mf_k18 hm.2.1, mf_z18 hm.2.1, mf_r19 hm.2.1, mf_k19 hm.2.1, mf_z19 hm.2.1, mf_r20 hm.2.1, mf_k20 hm.2.1, mf_z20 hm.2.1, mf_r21 hm.2.1, mf_k21 hm.2.1, mf_z21 hm.2.1, mf_r22 hm.2.1, mf_k22 hm.2.1, mf_z22 hm.2.1, mf_r23 hm.2.1, mf_k23 hm.2.1, mf_z23 hm.2.1, mf_r24 hm.2.1, mf_k24 hm.2.1, mf_z24 hm.2.1, mf_r25 hm.2.1, mf_k25 hm.2.1, mf_z25 hm.2.1, mf_r26 hm.2.1, mf_k26 hm.2.1, mf_z26 hm.2.1, mf_r27 hm.2.1, mf_k27 hm.2.1, mf_z27 hm.2.1, mf_r28 hm.2.1, mf_k28 hm.2.1, mf_z28 hm.2.1, mf_r29 hm.2.1, mf_k29 hm.2.1, mf_z29 hm.2.1, mf_r30 hm.2.1, mf_k30 hm.2.1, mf_z30 hm.2.1, mf_r31 hm.2.1, mf_k31 hm.2.1, mf_z31 hm.2.1, mf_r32 hm.2.1, mf_k32 hm.2.1, mf_z32 hm.2.1, mf_r33 hm.2.1, mf_k33 hm.2.1, mf_z33 hm.2.1, mf_r34 hm.2.1, mf_k34 hm.2.1, mf_z34 hm.2.1, mf_r35 hm.2.1, mf_k35 hm.2.1, mf_z35 hm.2.1, mf_r36 hm.2.1, mf_k36 hm.2.1, mf_z36 hm.2.1, hm.2.2.1, hm.2.2.2, q_mw_o, q_mw_xr, q_mw_xe, q_mw_xk, q_mw_xt, q_mw_uxr, q_mw_uxe, q_mw_uxk, q_mw_uxt, q_mw_umn, q_mw_gmn, w_nn (a := e) (by omega), show ¬ 1000 ≤ e by omega, w_tc (a := e) (by omega), h1, w_nle (k := i) (n := k) c (by omega), w_mul, w_add, w_inc, w_nn (a := 6 * e + i) (by omega), show ¬ 6000 ≤ 6 * e + i by omega, w_tc (a := 6 * e + i) (by omega), w_nn (a := 6 * e + i + 1) (by omega), show ¬ 6000 ≤ 6 * e + i + 1 by omega, w_tc (a := 6 * e + i + 1) (by omega), hx, hx2, hlost, q1, E_261_3, wl_keep q2, wl_mul, c, q3]
    · simp only [↓reduceIte, q_i, q_l, q_k, q_r, q_z, q_si, q_sl, jx_lt, jx_ri, jx_rl, jx_rv, if_true, if_false, Nat.reduceLeDiff, Nat.add_one_ne_zero, and_self, true_or, or_true, Nat.reduceEqDiff, or_self, or_false, false_or, mo_k hm.1, mo_r5 hm.1, mo_k5 hm.1, mo_z5 hm.1, mo_r16 hm.1, mo_k16 hm.1, mo_z16 hm.1, mo_r17 hm.1, mo_k17 hm.1, mo_z17 hm.1, mo_r18 hm.1, mo_k18 hm.1, mo_z18 hm.1, mo_r21 hm.1, mo_k21 hm.1, mo_z21 hm.1, mo_r22 hm.1, mo_k22 hm.1, mo_z22 hm.1, mo_r23 hm.1, mo_k23 hm.1, mo_z23 hm.1, mo_r24 hm.1, mo_k24 hm.1, mo_z24 hm.1, mo_r25 hm.1, mo_k25 hm.1, mo_z25 hm.1, mo_r26 hm.1, mo_k26 hm.1, mo_z26 hm.1, mo_r27 hm.1, mo_k27 hm.1, mo_z27 hm.1, mo_r29 hm.1, mo_k29 hm.1, mo_z29 hm.1, mo_r30 hm.1, mo_k30 hm.1, mo_z30 hm.1, mo_r31 hm.1, mo_k31 hm.1, mo_z31 hm.1, mo_r32 hm.1, mo_k32 hm.1, mo_z32 hm.1, mo_r40 hm.1, mo_k40 hm.1, mo_z40 hm.1, mo_r43 hm.1, mo_k43 hm.1, mo_z43 hm.1, mo_r44 hm.1, mo_k44 hm.1, mo_z44 hm.1, mf_k hm.2.1, mf_r14 hm.2.1, mf_k14 hm.2.1, mf_z14 hm.2.1, mf_r15 hm.2.1, mf_k15 hm.2.1, mf_z15 hm.2.1, mf_r16 hm.2.1, mf_k16 hm.2.1, mf_z16 hm.2.1, mf_r17 hm.2.1, mf_k17 hm.2.1, mf_z17 hm.2.1, mf_r18 hm.2.1, mf_k18 hm.2.1, mf_z18 hm.2.1, mf_r19 hm.2.1, mf_k19 hm.2.1, mf_z19 hm.2.1, mf_r20 hm.2.1, mf_k20 hm.2.1, mf_z20 hm.2.1, mf_r21 hm.2.1, mf_k21 hm.2.1, mf_z21 hm.2.1, mf_r22 hm.2.1, mf_k22 hm.2.1, mf_z22 hm.2.1, mf_r23 hm.2.1, mf_k23 hm.2.1, mf_z23 hm.2.1, mf_r24 hm.2.1, mf_k24 hm.2.1, mf_z24 hm.2.1, mf_r25 hm.2.1, mf_k25 hm.2.1, mf_z25 hm.2.1, mf_r26 hm.2.1, mf_k26 hm.2.1, mf_z26 hm.2.1, mf_r27 hm.2.1, mf_k27 hm.2.1, mf_z27 hm.2.1, mf_r28 hm.2.1, mf_k28 hm.2.1, mf_z28 hm.2.1, mf_r29 hm.2.1, mf_k29 hm.2.1, mf_z29 hm.2.1, mf_r30 hm.2.1, mf_k30 hm.2.1, mf_z30 hm.2.1, mf_r31 hm.2.1, mf_k31 hm.2.1, mf_z31 hm.2.1, mf_r32 hm.2.1, mf_k32 hm.2.1, mf_z32 hm.2.1, mf_r33 hm.2.1, mf_k33 hm.2.1, mf_z33 hm.2.1, mf_r34 hm.2.1, mf_k34 hm.2.1, mf_z34 hm.2.1, mf_r35 hm.2.1, mf_k35 hm.2.1, mf_z35 hm.2.1, mf_r36 hm.2.1, mf_k36 hm.2.1, mf_z36 hm.2.1, hm.2.2.1, hm.2.2.2, q_mw_o, q_mw_xr, q_mw_xe, q_mw_xk, q_mw_xt, q_mw_uxr, q_mw_uxe, q_mw_uxk, q_mw_uxt, q_mw_umn, q_mw_gmn, w_nn (a := e) (by omega), show ¬ 1000 ≤ e by omega, w_tc (a := e) (by omega), h1, show w k ≤ w i by rw [w_le (by omega) (by omega)]; omega, E_261_2, E_261_3, c, show (100 : Int64) = wl 100 from rfl, wl_mul, w_inc]
  · show jd 261 1 _ _ _ = _
    rw [E_261_1, if_pos (by decide), E_261_4]
    rfl
/-! Euclid -/
theorem gcd_step (x y : Nat) : Nat.gcd y (x % y) = Nat.gcd x y := by
  rw [Nat.gcd_comm y (x % y), ← Nat.gcd_rec, Nat.gcd_comm]
theorem mod_half {x y r : Nat} (hr : r = x % y) (hy : 0 < y) (hr0 : 0 < r) : 2 * (y % r) < y := by
  have h1 : r < y := by rw [hr]; exact Nat.mod_lt _ hy
  have h2 : y % r < r := Nat.mod_lt _ hr0
  by_cases c : 2 * r ≤ y
  · omega
  · have : y % r = y - r := by
      rw [Nat.mod_eq_sub_mod (by omega), Nat.mod_eq_of_lt (by omega)]
    omega
theorem wl_eq0 {n : Nat} (h : n < 9223372036854775808) : wl n = 0 ↔ n = 0 := by
  refine ⟨fun e => ?_, fun e => by rw [e]; rfl⟩
  have h1 := congrArg Int64.toInt e
  rw [wl_int h] at h1
  have : ((n : Nat) : Int) = 0 := h1
  omega
theorem lowest_go (hi : Int32) (up un : Int64) : ∀ n x y i, y < 2 ^ n → x < 9223372036854775808 → y < 9223372036854775808 → i + 2 * n < 200 →
    jd 183 1 [some (.long up), none, some (.long un), none, some (.int hi), some (.long (wl x)), none, some (.long (wl y)), none, some (.int (w i)), none, none] [] (I, L, s) = jd 183 2 [some (.long up), none, some (.long un), none, some (.int hi), some (.long (wl (Nat.gcd x y))), none, none, none, none, none, none] [] (I, L, s) := by
  have stop : ∀ x i, i < 200 → jd 183 1 [some (.long up), none, some (.long un), none, some (.int hi), some (.long (wl x)), none, some (.long (wl 0)), none, some (.int (w i)), none, none] [] (I, L, s) = jd 183 2 [some (.long up), none, some (.long un), none, some (.int hi), some (.long (wl (Nat.gcd x 0))), none, none, none, none, none, none] [] (I, L, s) := by
    intro x i hi'
    rw [E_183_1, if_neg (by rw [show (200 : Int32) = w 200 from rfl, w_le (by omega) (by omega)]; omega), if_pos (by rw [lg_cmp_eq]; rfl), Nat.gcd_zero_right]
  have one : ∀ x y i, 0 < y → x < 9223372036854775808 → y < 9223372036854775808 → i < 200 → jd 183 1 [some (.long up), none, some (.long un), none, some (.int hi), some (.long (wl x)), none, some (.long (wl y)), none, some (.int (w i)), none, none] [] (I, L, s) = jd 183 1 [some (.long up), none, some (.long un), none, some (.int hi), some (.long (wl y)), none, some (.long (wl (x % y))), none, some (.int (w (i + 1))), none, none] [] (I, L, s) := by
    intro x y i hy hx hy9 hi'
    rw [E_183_1, if_neg (by rw [show (200 : Int32) = w 200 from rfl, w_le (by omega) (by omega)]; omega), if_neg (by rw [lg_cmp_eq, wl_eq0 hy9]; omega), if_neg (by rw [wl_eq0 hy9]; omega), rem_wl hx hy hy9, w_inc]
  intro n
  induction n with
  | zero =>
    intro x y i hy hx hy9 hi'
    have : y = 0 := by omega
    subst this
    exact stop x i (by omega)
  | succ n ih =>
    intro x y i hy hx hy9 hi'
    by_cases h0 : y = 0
    · subst h0; exact stop x i (by omega)
    · rw [one x y i (by omega) hx hy9 (by omega), ← gcd_step x y]
      have hlt : x % y < y := Nat.mod_lt _ (by omega)
      by_cases h1 : x % y = 0
      · rw [h1]; exact stop y (i + 1) (by omega)
      · have hh := mod_half (x := x) (y := y) rfl (by omega) (by omega)
        rw [one y (x % y) (i + 1) (by omega) hy9 (by omega) (by omega), ← gcd_step y (x % y)]
        have : y % (x % y) < 2 ^ n := by rw [Nat.pow_succ] at hy; omega
        exact ih (x % y) (y % (x % y)) (i + 1 + 1) this (by omega) (by omega) (by omega)
theorem common_go : ∀ y x, x < 9223372036854775808 → y < 9223372036854775808 → jd 264 1 [none, none, none, none, some (.long (wl x)), none, some (.long (wl y)), none, none, none] [] (I, L, s) = some (some (.long (wl (Nat.gcd x y))), I, L, s) := by
  intro y
  induction y using Nat.strongRecOn with
  | _ y ih =>
    intro x hx hy
    by_cases h0 : y = 0
    · subst h0
      rw [E_264_1, if_pos (by rw [lg_cmp_eq]; rfl), Nat.gcd_zero_right, E_264_2]
    · rw [E_264_1, if_neg (by rw [lg_cmp_eq, wl_eq0 hy]; exact h0), if_neg (by rw [wl_eq0 hy]; exact h0), rem_wl hx (by omega) hy, ← gcd_step x y]
      exact ih (x % y) (Nat.mod_lt _ (by omega)) y hy (by have := Nat.mod_lt x (show y > 0 by omega); omega)
/-- the lowest terms: the upper or the under number -/
theorem lowest_eq {a b : Nat} (ha : a < 9223372036854775808) (hb : 0 < b) (hb9 : b < 2 ^ 50) (lo : Int32) : jD 183 [.long (wl a), .long (wl b), .int lo] (I, L, s) = some (some (.long (if lo = 0 then wl a / wl (Nat.gcd a b) else wl b / wl (Nat.gcd a b))), I, L, s) := by
  have hg : 0 < Nat.gcd a b := Nat.gcd_pos_of_pos_right _ hb
  have hg9 : Nat.gcd a b ≤ b := Nat.gcd_le_right _ hb
  have hz : ¬ wl (Nat.gcd a b) = 0 := by rw [wl_eq0 (by omega)]; omega
  rw [D_183, E_183_0]
  refine (lowest_go lo (wl a) (wl b) 50 a b 0 hb9 ha (by omega) (by omega)).trans ?_
  rw [E_183_2, if_neg (by rw [lg_cmp_eq]; exact hz), E_183_5]
  by_cases c : lo = 0
  · rw [if_pos c, if_pos c, E_183_6, if_neg hz, E_183_7]
  · rw [if_neg c, if_neg c, if_neg hz, E_183_7]
theorem fraction_eq (hm : qMo s m) {a b : Nat} (ha : a < 9223372036854775808) (hb : 0 < b) (hb9 : b < 2 ^ 50) (lo : Int32) : jD 265 [.ref m, .long (wl a), .long (wl b), .int lo] (I, L, s) = some (some (.long (if lo = 0 then wl a / wl (Nat.gcd a b) else wl b / wl (Nat.gcd a b))), mG I m 0, L, s) := by
  have hg : 0 < Nat.gcd a b := Nat.gcd_pos_of_pos_right _ hb
  have hg9 : Nat.gcd a b ≤ b := Nat.gcd_le_right _ hb
  have hz : ¬ wl (Nat.gcd a b) = 0 := by rw [wl_eq0 (by omega)]; omega
  rw [D_265, E_265_0]
  simp only [↓reduceIte, q_i, q_l, q_k, q_r, q_z, q_si, q_sl, jx_lt, jx_ri, jx_rl, jx_rv, if_true, if_false, Nat.reduceLeDiff, Nat.add_one_ne_zero, and_self, true_or, or_true, Nat.reduceEqDiff, or_self, or_false, false_or, mo_k hm, mgood_eq hm]
  by_cases c : lo = 0
  · simp only [c, ↓reduceIte, q_i, q_l, q_k, q_r, q_z, q_si, q_sl, jx_lt, jx_ri, jx_rl, jx_rv, if_true, if_false, Nat.reduceLeDiff, Nat.add_one_ne_zero, and_self, true_or, or_true, Nat.reduceEqDiff, or_self, or_false, false_or, E_265_1, E_265_2, D_264, E_264_0, common_go b a ha (show b < 9223372036854775808 by omega), hz]
  · simp only [c, ↓reduceIte, q_i, q_l, q_k, q_r, q_z, q_si, q_sl, jx_lt, jx_ri, jx_rl, jx_rv, if_true, if_false, Nat.reduceLeDiff, Nat.add_one_ne_zero, and_self, true_or, or_true, Nat.reduceEqDiff, or_self, or_false, false_or, E_265_2, D_264, E_264_0, common_go b a ha (show b < 9223372036854775808 by omega), hz]
end LO
