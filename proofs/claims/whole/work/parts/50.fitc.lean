/-! WHAT FITS: codes as ways out, places; the class -/
def q_cf (I : qI) (xr : Nat → Int32) (xo xn xs xa xk xq xm : Int32) : qI := fun a => if a = 234 then (q_set (q_set (q_set (q_set (q_set (q_set (q_set (I 234) 1 xo) 3 xn) 4 xs) 5 xa) 6 xk) 7 xq) 8 xm) else if a = 235 + 1 then xr else I a
section q_cf_F
variable {I : qI} {xr f : Nat → Int32} {xo xn xs xa xk xq xm v : Int32}
theorem q_cf_o : q_cf I xr xo xn xs xa xk xq xm 234 = (q_set (q_set (q_set (q_set (q_set (q_set (q_set (I 234) 1 xo) 3 xn) 4 xs) 5 xa) 6 xk) 7 xq) 8 xm) := if_pos rfl
theorem q_cf_xr : q_cf I xr xo xn xs xa xk xq xm (235 + 1) = xr := by
  unfold q_cf
  rw [if_neg (by omega), if_pos rfl]
theorem q_cf_uxr : q_up (q_cf I xr xo xn xs xa xk xq xm) (235 + 1) f = q_cf I f xo xn xs xa xk xq xm := by
  funext a
  unfold q_up q_cf
  by_cases h : a = 235 + 1
  · subst h
    rw [if_pos rfl, if_neg (by omega), if_pos rfl]
  · rw [if_neg h]
    by_cases h0 : a = 234
    · rw [if_pos h0, if_pos h0]
    · rw [if_neg h0, if_neg h0]
      simp only [h, if_false]
theorem q_cf_uxo : q_up (q_cf I xr xo xn xs xa xk xq xm) 234 (q_set (q_set (q_set (q_set (q_set (q_set (q_set (q_set (I 234) 1 xo) 3 xn) 4 xs) 5 xa) 6 xk) 7 xq) 8 xm) 1 v) = q_cf I xr v xn xs xa xk xq xm := by
  funext a
  unfold q_up q_cf
  by_cases h : a = 234
  · rw [if_pos h, if_pos h]
    funext j
    simp only [q_set]
    repeat' split
    all_goals (first | rfl | (exfalso; omega))
  · rw [if_neg h, if_neg h]
    simp only [h, if_false]
theorem q_cf_gxo : (q_set (q_set (q_set (q_set (q_set (q_set (q_set (I 234) 1 xo) 3 xn) 4 xs) 5 xa) 6 xk) 7 xq) 8 xm) 1 = xo := by
  simp [q_set]
theorem q_cf_uxn : q_up (q_cf I xr xo xn xs xa xk xq xm) 234 (q_set (q_set (q_set (q_set (q_set (q_set (q_set (q_set (I 234) 1 xo) 3 xn) 4 xs) 5 xa) 6 xk) 7 xq) 8 xm) 3 v) = q_cf I xr xo v xs xa xk xq xm := by
  funext a
  unfold q_up q_cf
  by_cases h : a = 234
  · rw [if_pos h, if_pos h]
    funext j
    simp only [q_set]
    repeat' split
    all_goals (first | rfl | (exfalso; omega))
  · rw [if_neg h, if_neg h]
    simp only [h, if_false]
theorem q_cf_gxn : (q_set (q_set (q_set (q_set (q_set (q_set (q_set (I 234) 1 xo) 3 xn) 4 xs) 5 xa) 6 xk) 7 xq) 8 xm) 3 = xn := by
  simp [q_set]
theorem q_cf_uxs : q_up (q_cf I xr xo xn xs xa xk xq xm) 234 (q_set (q_set (q_set (q_set (q_set (q_set (q_set (q_set (I 234) 1 xo) 3 xn) 4 xs) 5 xa) 6 xk) 7 xq) 8 xm) 4 v) = q_cf I xr xo xn v xa xk xq xm := by
  funext a
  unfold q_up q_cf
  by_cases h : a = 234
  · rw [if_pos h, if_pos h]
    funext j
    simp only [q_set]
    repeat' split
    all_goals (first | rfl | (exfalso; omega))
  · rw [if_neg h, if_neg h]
    simp only [h, if_false]
theorem q_cf_gxs : (q_set (q_set (q_set (q_set (q_set (q_set (q_set (I 234) 1 xo) 3 xn) 4 xs) 5 xa) 6 xk) 7 xq) 8 xm) 4 = xs := by
  simp [q_set]
theorem q_cf_uxa : q_up (q_cf I xr xo xn xs xa xk xq xm) 234 (q_set (q_set (q_set (q_set (q_set (q_set (q_set (q_set (I 234) 1 xo) 3 xn) 4 xs) 5 xa) 6 xk) 7 xq) 8 xm) 5 v) = q_cf I xr xo xn xs v xk xq xm := by
  funext a
  unfold q_up q_cf
  by_cases h : a = 234
  · rw [if_pos h, if_pos h]
    funext j
    simp only [q_set]
    repeat' split
    all_goals (first | rfl | (exfalso; omega))
  · rw [if_neg h, if_neg h]
    simp only [h, if_false]
theorem q_cf_gxa : (q_set (q_set (q_set (q_set (q_set (q_set (q_set (I 234) 1 xo) 3 xn) 4 xs) 5 xa) 6 xk) 7 xq) 8 xm) 5 = xa := by
  simp [q_set]
theorem q_cf_uxk : q_up (q_cf I xr xo xn xs xa xk xq xm) 234 (q_set (q_set (q_set (q_set (q_set (q_set (q_set (q_set (I 234) 1 xo) 3 xn) 4 xs) 5 xa) 6 xk) 7 xq) 8 xm) 6 v) = q_cf I xr xo xn xs xa v xq xm := by
  funext a
  unfold q_up q_cf
  by_cases h : a = 234
  · rw [if_pos h, if_pos h]
    funext j
    simp only [q_set]
    repeat' split
    all_goals (first | rfl | (exfalso; omega))
  · rw [if_neg h, if_neg h]
    simp only [h, if_false]
theorem q_cf_gxk : (q_set (q_set (q_set (q_set (q_set (q_set (q_set (I 234) 1 xo) 3 xn) 4 xs) 5 xa) 6 xk) 7 xq) 8 xm) 6 = xk := by
  simp [q_set]
theorem q_cf_uxq : q_up (q_cf I xr xo xn xs xa xk xq xm) 234 (q_set (q_set (q_set (q_set (q_set (q_set (q_set (q_set (I 234) 1 xo) 3 xn) 4 xs) 5 xa) 6 xk) 7 xq) 8 xm) 7 v) = q_cf I xr xo xn xs xa xk v xm := by
  funext a
  unfold q_up q_cf
  by_cases h : a = 234
  · rw [if_pos h, if_pos h]
    funext j
    simp only [q_set]
    repeat' split
    all_goals (first | rfl | (exfalso; omega))
  · rw [if_neg h, if_neg h]
    simp only [h, if_false]
theorem q_cf_gxq : (q_set (q_set (q_set (q_set (q_set (q_set (q_set (I 234) 1 xo) 3 xn) 4 xs) 5 xa) 6 xk) 7 xq) 8 xm) 7 = xq := by
  simp [q_set]
theorem q_cf_uxm : q_up (q_cf I xr xo xn xs xa xk xq xm) 234 (q_set (q_set (q_set (q_set (q_set (q_set (q_set (q_set (I 234) 1 xo) 3 xn) 4 xs) 5 xa) 6 xk) 7 xq) 8 xm) 8 v) = q_cf I xr xo xn xs xa xk xq v := by
  funext a
  unfold q_up q_cf
  by_cases h : a = 234
  · rw [if_pos h, if_pos h]
    funext j
    simp only [q_set]
    repeat' split
    all_goals (first | rfl | (exfalso; omega))
  · rw [if_neg h, if_neg h]
    simp only [h, if_false]
theorem q_cf_gxm : (q_set (q_set (q_set (q_set (q_set (q_set (q_set (I 234) 1 xo) 3 xn) 4 xs) 5 xa) 6 xk) 7 xq) 8 xm) 8 = xm := by
  simp [q_set]
theorem q_cf_out {a : Nat} (h : a ≠ 234 ∧ a ≠ 235 + 1) : q_cf I xr xo xn xs xa xk xq xm a = I a := by
  unfold q_cf
  rw [if_neg (by omega), if_neg (by omega)]
theorem q_cf_self : q_cf I (I (235 + 1)) (I 234 1) (I 234 3) (I 234 4) (I 234 5) (I 234 6) (I 234 7) (I 234 8) = I := by
  funext a
  unfold q_cf
  by_cases h : a = 234
  · rw [if_pos h]
    subst h
    funext j
    simp only [q_set]
    repeat (split <;> try (rename_i e; subst e; rfl))
    all_goals rfl
  · rw [if_neg h]
    repeat (split; · rename_i e; rw [e])
    rfl
end q_cf_F
def q_wy (c : Nat) : Nat := (q_ways (w c)).toNatClampNeg
def q_dg (c i : Nat) : Nat := c / 16 ^ i % 16 - 1
/-- a code that is one of a way out -/
def qCo (D : Nat → Nat → Int32) (S h c : Nat) : Prop := 0 < q_wy c ∧ q_wy c ≤ 5 ∧ c = q_cd (q_dg c) (q_wy c) ∧ q_path D S h (q_dg c) (q_wy c) ∧ q_ways (w c) = w (q_wy c)
theorem co_of {D : Nat → Nat → Int32} {S h k : Nat} {g : Nat → Nat} (hS : S ≤ 8) (hk0 : 0 < k) (hk : k ≤ 5) (hp : q_path D S h g k) : qCo D S h (q_cd g k) ∧ q_wy (q_cd g k) = k ∧ ∀ i, i < k → q_dg (q_cd g k) i = g i := by
  have hg : ∀ i, i < k → g i < 8 := fun i hi => by have := hp.1 i hi; omega
  have e1 : q_ways (w (q_cd g k)) = w k := ways_rt (path_rt hS hk hp) hS
  have e2 : q_wy (q_cd g k) = k := by unfold q_wy; rw [e1, w_tc (by omega)]
  have e3 : ∀ i, i < k → q_dg (q_cd g k) i = g i := fun i hi => by
    unfold q_dg
    rw [cd_dig hg i, if_pos hi, Nat.add_sub_cancel]
  refine ⟨⟨by rw [e2]; exact hk0, by rw [e2]; exact hk, ?_, ?_, by rw [e1, e2]⟩, e2, e3⟩
  · rw [e2]; exact (cd_congr k e3).symm
  · rw [e2]
    refine ⟨fun i hi => by rw [e3 i hi]; exact hp.1 i hi, fun h0 => by rw [e3 0 h0]; exact hp.2.1 h0, fun i hi => by rw [e3 i (by omega), e3 (i + 1) hi]; exact hp.2.2 i hi⟩
theorem rw_std {D : Nat → Nat → Int32} {S h : Nat} {X : List Nat} {xr xe : Nat → Int32} (hS : S ≤ 8) (hR : qRW D S h X xr xe) {e : Nat} (he : e < X.length) : qCo D S h (X.getD e 0) ∧ xe e = w (q_wy (X.getD e 0)) ∧ xr (6 * e) = w h ∧ ∀ i, i < q_wy (X.getD e 0) → xr (6 * e + 1 + i) = w (q_dg (X.getD e 0) i) := by
  obtain ⟨k, g, h0, h5, ec, hp, a1, a2, a3⟩ := hR e he
  obtain ⟨b1, b2, b3⟩ := co_of hS h0 h5 hp
  rw [ec, b2]
  exact ⟨b1, a1, a2, fun i hi => by rw [b3 i hi]; exact a3 i hi⟩
theorem all_co {D : Nat → Nat → Int32} {S h : Nat} (hS : S ≤ 8) {e : Nat} (he : e < (q_all D S h).length) : qCo D S h ((q_all D S h).getD e 0) := by
  have hm : (q_all D S h).getD e 0 ∈ q_all D S h := by
    rw [List.getD_eq_getElem?_getD, List.getElem?_eq_getElem he]
    exact List.getElem_mem he
  obtain ⟨k, g, h0, h5, ec, hp⟩ := all_rt hm
  rw [ec]
  exact (co_of hS h0 h5 hp).1
theorem co_stop {D : Nat → Nat → Int32} {S h c : Nat} (hS : S ≤ 8) (hc : qCo D S h c) {i : Nat} (hi : i < 5) : q_stop (w c) (w i) = if i < q_wy c then w (q_dg c i) else -1 := by
  have := stop_cd (g := q_dg c) (k := q_wy c) hc.2.1 (fun j hj => by have := hc.2.2.2.1.1 j hj; omega) hi
  rw [← hc.2.2.1] at this
  exact this
/-- where one is behind day d that sets out on day out by c from home h -/
def q_plc (h c out d : Nat) : Nat := if d < out then h else q_dg c (min (d - out) (q_wy c - 1))
theorem plc_lt {D : Nat → Nat → Int32} {S h c out d : Nat} (hc : qCo D S h c) (hh : h < S) : q_plc h c out d < S := by
  unfold q_plc
  split
  · exact hh
  · have := hc.1
    exact hc.2.2.2.1.1 _ (by omega)
def q_fp (D : Nat → Nat → Int32) (u h c out r : Nat) : Bool := !decide (D 10 r = w u) || decide (w (q_plc h c out (D 12 r).toNatClampNeg) = D 11 r)
def q_fitN (p : Nat → Bool) (R : Nat) : Nat → Bool
  | 0 => true
  | n + 1 => p (R - (n + 1)) && q_fitN p R n
def q_fset (c : Nat) : Int32 := q_it (fun i b => b ||| ((1 : Int32) <<< (w (q_dg c i) &&& 31))) (q_wy c) 0
def q_seen (h c out dn : Nat) (f : Nat → Int32) : Nat → Int32 := q_it (fun e f => q_set f (20 * q_plc h c out e + e) (f (20 * q_plc h c out e + e) + 1)) dn f
def q_ll (L : qL) (v : Int64) : qL := q_upl L 234 (q_setl (L 234) 2 v)
section LL
variable {L : qL} {v y : Int64}
theorem ll_g : q_ll L v 234 2 = v := by simp [q_ll, q_upl, q_setl]
theorem q_llf : q_upl L 234 (q_setl (L 234) 2 v) = q_ll L v := rfl
theorem ll_u : q_upl (q_ll L v) 234 (q_setl (q_ll L v 234) 2 y) = q_ll L y := by
  funext a
  unfold q_ll q_upl
  by_cases h : a = 234
  · rw [if_pos h, if_pos h]
    funext j
    unfold q_setl
    by_cases h2 : j = 2
    · rw [if_pos h2, if_pos h2]
    · rw [if_neg h2, if_neg h2]
      simp only [h2, if_false, if_true]
  · rw [if_neg h, if_neg h, if_neg h]
theorem ll_182 : q_ll L v 182 = L 182 := by
  unfold q_ll q_upl
  rw [if_neg (by decide)]
end LL
section CF
variable {I : qI} {L : qL} {s : qS} {t t' U S dn R O W : Nat} {D : Nat → Nat → Int32}
theorem placeOf_eq (hf : qFl s t) (hD : qd I t = D) (hS : S ≤ 8) {u h c out d : Nat} (hu : u < 6) (hh : D 6 u = w h) (hc : qCo D S h c) (hout : out < 20) (hd : d < 20) : jD 11 [.ref t, .int (w u), .int (w out), .int (w c), .int (w d)] (I, L, s) = some (some (.int (w (q_plc h c out d))), I, L, s) := by
  have r6 := fl_k hf (k := 6) (n := 6) (by omega) rfl
  have hh' : I (t + 1 + 2 * 6 + 1) u = w h := by rw [← hD] at hh; exact hh
  have h0 := hc.1
  have h5 := hc.2.1
  rw [D_11, E_11_0]
  unfold q_plc
  by_cases c1 : d < out
  · rw [if_pos c1, if_neg (w_nle c1 (by omega))]
    simp only [↓reduceIte, q_i, q_l, q_k, q_r, q_z, q_si, q_sl, jx_lt, jx_ri, jx_rl, jx_rv, if_true, if_false, Nat.reduceLeDiff, Nat.add_one_ne_zero, and_self, true_or, or_true, Nat.reduceEqDiff, or_self, or_false, false_or, hf.1, r6.1, r6.2.1, look_eq r6.2, q_at_w (n := 6) (k := u) (by omega) hu, hh']
  · rw [if_neg c1, if_pos (by rw [w_le (by omega) (by omega)]; omega), E_11_1]
    simp only [↓reduceIte, q_i, q_l, q_k, q_r, q_z, q_si, q_sl, jx_lt, jx_ri, jx_rl, jx_rv, if_true, if_false, Nat.reduceLeDiff, Nat.add_one_ne_zero, and_self, true_or, or_true, Nat.reduceEqDiff, or_self, or_false, false_or, ways_eq, hc.2.2.2.2, w_dec h0 (show q_wy c < 2147483648 by omega), w_sub (show out ≤ d by omega) (show d < 2147483648 by omega), stopAt_eq]
    have e : (if w (q_wy c - 1) < w (d - out) then w (q_wy c - 1) else w (d - out)) = w (min (d - out) (q_wy c - 1)) := by
      by_cases c2 : q_wy c - 1 < d - out
      · rw [if_pos (by rw [w_lt (by omega) (by omega)]; exact c2), Nat.min_eq_right (by omega)]
      · rw [if_neg (by rw [w_lt (by omega) (by omega)]; exact c2), Nat.min_eq_left (by omega)]
    rw [e, co_stop hS hc (by omega), if_pos (by omega)]
theorem isFit_eq (hf : qFl s t) (hD : qd I t = D) (hX : qXD D U S dn R O W) (hdn : dn ≤ 20) (hS : S ≤ 8) {u h c out : Nat} (hu : u < 6) (hh : D 6 u = w h) (hc : qCo D S h c) (hout : out < 20) : jD 10 [.ref t, .int (w u), .int (w out), .int (w c)] (I, L, s) = some (some (.int (if q_fitN (q_fp D u h c out) R R = true then 1 else 0)), I, L, s) := by
  obtain ⟨hR, hR9, hring⟩ := hX.1
  have q0 := fl_k hf (k := 0) (n := 12) (by omega) rfl
  have q10 := fl_k hf (k := 10) (n := 8) (by omega) rfl
  have q11 := fl_k hf (k := 11) (n := 8) (by omega) rfl
  have q12 := fl_k hf (k := 12) (n := 8) (by omega) rfl
  have hR' : I (t + 1 + 2 * 0 + 1) 6 = w R := by rw [← hD] at hR; exact hR
  have key : ∀ n i, i + n = R → jd 10 1 [some (.ref t), some (.int (w u)), some (.int (w out)), some (.int (w c)), some (.int (w i)), none] [] (I, L, s) = some (some (.int (if q_fitN (q_fp D u h c out) R n = true then 1 else 0)), I, L, s) := by
    intro n
    induction n with
    | zero =>
      intro i hi
      obtain rfl : i = R := by omega
      rw [E_10_1]
      simp only [↓reduceIte, q_i, q_l, q_k, q_r, q_z, q_si, q_sl, jx_lt, jx_ri, jx_rl, jx_rv, if_true, if_false, Nat.reduceLeDiff, Nat.add_one_ne_zero, and_self, true_or, or_true, Nat.reduceEqDiff, or_self, or_false, false_or, hf.1, q0.1, q0.2.1, look_eq q0.2, show (6 : Int32) = w 6 from rfl, q_at_w (n := 12) (k := 6) (by omega) (by omega), hR', Int32.le_refl, E_10_3, q_fitN]
    | succ n ih =>
      intro i hi
      obtain ⟨v, a, d, e1, hv, e2, ha, e3, hd1⟩ := hring i (by omega)
      have e9 : q_fitN (q_fp D u h c out) R (n + 1) = (q_fp D u h c out i && q_fitN (q_fp D u h c out) R n) := by
        show (q_fp D u h c out (R - (n + 1)) && _) = _
        rw [show R - (n + 1) = i by omega]
      have e10 : q_fp D u h c out i = (!decide (w v = w u) || decide (w (q_plc h c out d) = w a)) := by
        unfold q_fp
        rw [e1, e2, e3, w_tc (by omega)]
      have e1' : I (t + 1 + 2 * 10 + 1) i = w v := by rw [← hD] at e1; exact e1
      have e2' : I (t + 1 + 2 * 11 + 1) i = w a := by rw [← hD] at e2; exact e2
      have e3' : I (t + 1 + 2 * 12 + 1) i = w d := by rw [← hD] at e3; exact e3
      rw [E_10_1, e9, e10]
      simp only [↓reduceIte, q_i, q_l, q_k, q_r, q_z, q_si, q_sl, jx_lt, jx_ri, jx_rl, jx_rv, if_true, if_false, Nat.reduceLeDiff, Nat.add_one_ne_zero, and_self, true_or, or_true, Nat.reduceEqDiff, or_self, or_false, false_or, hf.1, q0.1, q0.2.1, look_eq q0.2, show (6 : Int32) = w 6 from rfl, q_at_w (n := 12) (k := 6) (by omega) (by omega), hR', w_nle (k := i) (n := R) (by omega) (by omega), q10.1, q10.2.1, look_eq q10.2, q11.1, q11.2.1, look_eq q11.2, q12.1, q12.2.1, look_eq q12.2, q_at_w (n := 8) (k := i) (by omega) (by omega), e1', e2', e3', placeOf_eq hf hD hS hu hh hc hout (show d < 20 by omega), E_10_2, w_inc]
      have ih' := ih (i + 1) (by omega)
      by_cases c1 : w v = w u
      · by_cases c2 : w (q_plc h c out d) = w a
        · rw [if_pos c1, if_pos c2, ih', decide_eq_true c1, decide_eq_true c2]
          simp only [Bool.not_true, Bool.false_or, Bool.true_and]
        · rw [if_pos c1, if_neg c2, decide_eq_true c1, decide_eq_false c2]
          simp only [Bool.not_true, Bool.false_or, Bool.false_and, ↓reduceIte, q_i, q_l, q_k, q_r, q_z, q_si, q_sl, jx_lt, jx_ri, jx_rl, jx_rv, if_true, if_false, Nat.reduceLeDiff, Nat.add_one_ne_zero, and_self, true_or, or_true, Nat.reduceEqDiff, or_self, or_false, false_or, Bool.false_eq_true]
      · rw [if_neg c1, ih', decide_eq_false c1]
        simp only [Bool.not_false, Bool.true_or, Bool.true_and]
  rw [D_10, E_10_0]
  exact key R 0 (by omega)
theorem cf_d (hx : qXo s t t') {xo xn xs xa xk xq xm : Int32} {xr : Nat → Int32} : qd (q_cf I xr xo xn xs xa xk xq xm) t = qd I t := by
  have := xo_tt hx
  exact qd_same fun a h1 h2 => q_cf_out (by omega)
theorem fadd_eq (hx : qXo s t t') (hD : qd I t = D) (hX : qXD D U S dn R O W) (hdd : D 0 0 = w dn) (hdn : dn ≤ 20) (hS : S ≤ 8) {u h c out e n : Nat} (hu : u < 6) (hh : D 6 u = w h) (hh8 : h < S) (hc : qCo D S h c) (hout : out < 20) {xo xs xa xk xq xm : Int32} {xr : Nat → Int32} {v : Int64} :
    jD 12 [.ref 234, .ref t, .int (w u), .int (w out), .int (w e), .int (w c)] (q_cf I xr xo (w n) xs xa xk xq xm, q_ll L v, s) =
      some (none, q_cf I (q_seen h c out dn xr) xo (w (n + 1)) (xs ||| q_fset c) (xa &&& q_fset c) (if wl (q_lot D u h (q_dg c) (q_wy c)) ≤ v then xk else 1000 * w out + w e) xq xm, q_ll L (if wl (q_lot D u h (q_dg c) (q_wy c)) ≤ v then v else wl (q_lot D u h (q_dg c) (q_wy c))), s) := by
  have hf := xo_ft hx
  have hDK : ∀ {xo xn xs xa xk xq xm : Int32} {xr : Nat → Int32}, qd (q_cf I xr xo xn xs xa xk xq xm) t = D := fun {xo xn xs xa xk xq xm xr} => (cf_d hx).trans hD
  have hlo : ∀ {xo xn xs xa xk xq xm : Int32} {xr : Nat → Int32} {L : qL}, jD 102 [.ref t, .int (w u), .int (w c)] (q_cf I xr xo xn xs xa xk xq xm, L, s) = some (some (.long (wl (q_lot D u h (q_dg c) (q_wy c)))), q_cf I xr xo xn xs xa xk xq xm, L, s) := fun {xo xn xs xa xk xq xm xr L} => by
    have := lotOf_eq (I := q_cf I xr xo xn xs xa xk xq xm) (L := L) hf (U := U) (S := S) (dn := dn) (R := R) (O := O) (W := W) (by rw [hDK]; exact hX) hS (u := u) (h := h) (k := q_wy c) (g := q_dg c) hu (by rw [hDK]; exact hh) (by omega) hc.2.1 (by rw [hDK]; exact hc.2.2.2.1)
    rw [hDK, ← hc.2.2.1] at this
    exact this
  have h5 := hc.2.1
  rw [D_12, E_12_0]
  refine (q_loop (F := fun i (b : Int32) => jd 12 1 [some (.ref 234), some (.ref t), some (.int (w u)), some (.int (w out)), some (.int (w e)), some (.int (w c)), some (.int b), some (.int (w i)), none, none] [] (q_cf I xr xo (w n) xs xa xk xq xm, q_ll L v, s)) (n := q_wy c) (g := fun i b => b ||| ((1 : Int32) <<< (w (q_dg c i) &&& 31))) (fun i b hi => ?_) 0).trans ?_
  · rw [E_12_1]
    simp only [↓reduceIte, q_i, q_l, q_k, q_r, q_z, q_si, q_sl, jx_lt, jx_ri, jx_rl, jx_rv, if_true, if_false, Nat.reduceLeDiff, Nat.add_one_ne_zero, and_self, true_or, or_true, Nat.reduceEqDiff, or_self, or_false, false_or, ways_eq, hc.2.2.2.2, w_nle hi (by omega), stopAt_eq, co_stop hS hc (show i < 5 by omega), hi, w_inc]
  · show jd 12 1 _ _ _ = _
    rw [E_12_1]
    simp only [↓reduceIte, q_i, q_l, q_k, q_r, q_z, q_si, q_sl, jx_lt, jx_ri, jx_rl, jx_rv, if_true, if_false, Nat.reduceLeDiff, Nat.add_one_ne_zero, and_self, true_or, or_true, Nat.reduceEqDiff, or_self, or_false, false_or, ways_eq, hc.2.2.2.2, Int32.le_refl]
    rw [show q_it (fun i b => b ||| ((1 : Int32) <<< (w (q_dg c i) &&& 31))) (q_wy c) 0 = q_fset c from rfl, E_12_2]
    have tail : ∀ (xk : Int32) (v : Int64), jd 12 3 [some (.ref 234), some (.ref t), some (.int (w u)), some (.int (w out)), none, some (.int (w c)), none, none, none, none] [] (q_cf I xr xo (w (n + 1)) (xs ||| q_fset c) (xa &&& q_fset c) xk xq xm, q_ll L v, s) = some (none, q_cf I (q_seen h c out dn xr) xo (w (n + 1)) (xs ||| q_fset c) (xa &&& q_fset c) xk xq xm, q_ll L v, s) := by
      intro xk v
      rw [E_12_3]
      refine (q_loop (F := fun i (f : Nat → Int32) => jd 12 4 [some (.ref 234), some (.ref t), some (.int (w u)), some (.int (w out)), none, some (.int (w c)), none, none, none, some (.int (w i))] [] (q_cf I f xo (w (n + 1)) (xs ||| q_fset c) (xa &&& q_fset c) xk xq xm, q_ll L v, s)) (n := dn) (g := fun e f => q_set f (20 * q_plc h c out e + e) (f (20 * q_plc h c out e + e) + 1)) (fun i f hi => ?_) xr).trans ?_
      · have hp := plc_lt (out := out) (d := i) hc hh8
        rw [E_12_4]
        simp only [↓reduceIte, q_i, q_l, q_k, q_r, q_z, q_si, q_sl, jx_lt, jx_ri, jx_rl, jx_rv, if_true, if_false, Nat.reduceLeDiff, Nat.add_one_ne_zero, and_self, true_or, or_true, Nat.reduceEqDiff, or_self, or_false, false_or, xo_k hx, xo_r0 hx, xo_r1 hx, xo_r2 hx, xo_r3 hx, xo_r4 hx, xo_r5 hx, xo_r6 hx, xo_r7 hx, xo_r8 hx, xo_r9 hx, xo_r10 hx, xo_r11 hx, xo_ka hx, xo_ra0 hx, xo_ra1 hx, xo_ko hx, xo_ro0 hx, xo_ro1 hx, xo_kf hx, xo_rf0 hx, xo_kh hx, xo_rh0 hx, xo_ke hx, xo_re0 hx, xo_re1 hx, xo_kn hx, xo_zn hx, xo_re2 hx, xo_re3 hx, xo_kt hx, xo_rt0 hx, xo_t0 hx, (xo_ft hx).1, (xo_now hx).1, (xo_now hx).2.1, (xo_now hx).2.2.1, (xo_try hx).1, (xo_yr hx).1.1, (xo_ty hx).1, days_eq hf, hDK, hdd, w_nle hi (by omega), placeOf_eq hf hDK hS hu hh hc hout (show i < 20 by omega), (xo_seen hx).1, add_eq (xo_seen hx), show (20 : Int32) = w 20 from rfl, w_mul, w_add, Nat.mul_comm (q_plc h c out i) 20, q_put_w (n := 160) (k := 20 * q_plc h c out i + i) (by omega) (by omega), q_at_w (n := 160) (k := 20 * q_plc h c out i + i) (by omega) (by omega), q_cf_o, q_cf_xr, q_cf_uxr, q_cf_uxo, q_cf_uxn, q_cf_uxs, q_cf_uxa, q_cf_uxk, q_cf_uxq, q_cf_uxm, q_cf_gxo, q_cf_gxn, q_cf_gxs, q_cf_gxa, q_cf_gxk, q_cf_gxq, q_cf_gxm, w_inc]
      · show jd 12 4 _ _ _ = _
        rw [E_12_4]
        simp only [↓reduceIte, q_i, q_l, q_k, q_r, q_z, q_si, q_sl, jx_lt, jx_ri, jx_rl, jx_rv, if_true, if_false, Nat.reduceLeDiff, Nat.add_one_ne_zero, and_self, true_or, or_true, Nat.reduceEqDiff, or_self, or_false, false_or, xo_k hx, xo_r0 hx, xo_r1 hx, xo_r2 hx, xo_r3 hx, xo_r4 hx, xo_r5 hx, xo_r6 hx, xo_r7 hx, xo_r8 hx, xo_r9 hx, xo_r10 hx, xo_r11 hx, xo_ka hx, xo_ra0 hx, xo_ra1 hx, xo_ko hx, xo_ro0 hx, xo_ro1 hx, xo_kf hx, xo_rf0 hx, xo_kh hx, xo_rh0 hx, xo_ke hx, xo_re0 hx, xo_re1 hx, xo_kn hx, xo_zn hx, xo_re2 hx, xo_re3 hx, xo_kt hx, xo_rt0 hx, xo_t0 hx, (xo_ft hx).1, (xo_now hx).1, (xo_now hx).2.1, (xo_now hx).2.2.1, (xo_try hx).1, (xo_yr hx).1.1, (xo_ty hx).1, days_eq hf, hDK, hdd, Int32.le_refl, E_12_5]
        rfl
    simp only [↓reduceIte, q_i, q_l, q_k, q_r, q_z, q_si, q_sl, jx_lt, jx_ri, jx_rl, jx_rv, if_true, if_false, Nat.reduceLeDiff, Nat.add_one_ne_zero, and_self, true_or, or_true, Nat.reduceEqDiff, or_self, or_false, false_or, xo_k hx, xo_r0 hx, xo_r1 hx, xo_r2 hx, xo_r3 hx, xo_r4 hx, xo_r5 hx, xo_r6 hx, xo_r7 hx, xo_r8 hx, xo_r9 hx, xo_r10 hx, xo_r11 hx, xo_ka hx, xo_ra0 hx, xo_ra1 hx, xo_ko hx, xo_ro0 hx, xo_ro1 hx, xo_kf hx, xo_rf0 hx, xo_kh hx, xo_rh0 hx, xo_ke hx, xo_re0 hx, xo_re1 hx, xo_kn hx, xo_zn hx, xo_re2 hx, xo_re3 hx, xo_kt hx, xo_rt0 hx, xo_t0 hx, (xo_ft hx).1, (xo_now hx).1, (xo_now hx).2.1, (xo_now hx).2.2.1, (xo_try hx).1, (xo_yr hx).1.1, (xo_ty hx).1, q_cf_o, q_cf_xr, q_cf_uxr, q_cf_uxo, q_cf_uxn, q_cf_uxs, q_cf_uxa, q_cf_uxk, q_cf_uxq, q_cf_uxm, q_cf_gxo, q_cf_gxn, q_cf_gxs, q_cf_gxa, q_cf_gxk, q_cf_gxq, q_cf_gxm, w_inc, hlo, ll_g, lg_cmp_le]
    by_cases c1 : wl (q_lot D u h (q_dg c) (q_wy c)) ≤ v
    · simp only [c1, ↓reduceIte, q_i, q_l, q_k, q_r, q_z, q_si, q_sl, jx_lt, jx_ri, jx_rl, jx_rv, if_true, if_false, Nat.reduceLeDiff, Nat.add_one_ne_zero, and_self, true_or, or_true, Nat.reduceEqDiff, or_self, or_false, false_or]
      exact tail xk v
    · simp only [c1, ↓reduceIte, q_i, q_l, q_k, q_r, q_z, q_si, q_sl, jx_lt, jx_ri, jx_rl, jx_rv, if_true, if_false, Nat.reduceLeDiff, Nat.add_one_ne_zero, and_self, true_or, or_true, Nat.reduceEqDiff, or_self, or_false, false_or, ll_u]
      exact tail _ _
end CF
/-! the class's weighing -/
/-- count, some, all, likeliest, its lot, its number -/
abbrev qF := Nat × Int32 × Int32 × Int32 × Int64 × Nat
def q_fs (D : Nat → Nat → Int32) (u h R : Nat) (X : List Nat) (d e : Nat) (x : qF) : qF :=
  if q_fitN (q_fp D u h (X.getD e 0) d) R R = true then
    (x.1 + 1, x.2.1 ||| q_fset (X.getD e 0), x.2.2.1 &&& q_fset (X.getD e 0), if wl (q_lot D u h (q_dg (X.getD e 0)) (q_wy (X.getD e 0))) ≤ x.2.2.2.2.1 then x.2.2.2.1 else 1000 * w d + w e,
      if wl (q_lot D u h (q_dg (X.getD e 0)) (q_wy (X.getD e 0))) ≤ x.2.2.2.2.1 then x.2.2.2.2.1 else wl (q_lot D u h (q_dg (X.getD e 0)) (q_wy (X.getD e 0))), if wl (q_lot D u h (q_dg (X.getD e 0)) (q_wy (X.getD e 0))) ≤ x.2.2.2.2.1 then x.2.2.2.2.2 else e)
  else x
def q_ss (D : Nat → Nat → Int32) (u h R dn : Nat) (X : List Nat) (d e : Nat) (f : Nat → Int32) : Nat → Int32 := if q_fitN (q_fp D u h (X.getD e 0) d) R R = true then q_seen h (X.getD e 0) d dn f else f
def q_fd (D : Nat → Nat → Int32) (u h R : Nat) (X : List Nat) (d : Nat) (x : qF) : qF := q_it (q_fs D u h R X d) X.length x
def q_sd (D : Nat → Nat → Int32) (u h R dn : Nat) (X : List Nat) (d : Nat) (f : Nat → Int32) : Nat → Int32 := q_it (q_ss D u h R dn X d) X.length f
def q_F (D : Nat → Nat → Int32) (u h R dn : Nat) (X : List Nat) : qF := q_it (q_fd D u h R X) dn (0, 0, 255, -1, -1, 0)
def q_S (D : Nat → Nat → Int32) (u h R dn : Nat) (X : List Nat) (f : Nat → Int32) : Nat → Int32 := q_it (q_sd D u h R dn X) dn f
theorem it_pair {σ τ : Type} {g : Nat → σ → σ} {k : Nat → τ → τ} {n : Nat} {a : σ} {b : τ} : q_it (fun i (p : σ × τ) => (g i p.1, k i p.2)) n (a, b) = (q_it g n a, q_it k n b) := by
  induction n with
  | zero => rfl
  | succ n ih =>
    show (g n (q_it (fun i (p : σ × τ) => (g i p.1, k i p.2)) n (a, b)).1, k n (q_it (fun i (p : σ × τ) => (g i p.1, k i p.2)) n (a, b)).2) = (g n (q_it g n a), k n (q_it k n b))
    rw [ih]
/-- where to look -/
def q_lk (tot : Int32) (S dn : Nat) (f : Nat → Int32) (p : Int32 × Int32) : Int32 × Int32 := q_it (fun a p => q_it (fun d (p : Int32 × Int32) => if p.2 ≤ (if f (20 * a + d) < tot - f (20 * a + d) then tot - f (20 * a + d) else f (20 * a + d)) then p else (100 * w a + w d, if f (20 * a + d) < tot - f (20 * a + d) then tot - f (20 * a + d) else f (20 * a + d))) dn p) S p
section CW
variable {I : qI} {L : qL} {s : qS} {t t' U S dn R O W : Nat} {D : Nat → Nat → Int32}
theorem choose_eq (hx : qXo s t t') (hD : qd I t = D) (hSS : D 0 3 = w S) (hS : S ≤ 8) (hdd : D 0 0 = w dn) (hdn : dn ≤ 20) {xo xn xs xa xk xq xm : Int32} {xr : Nat → Int32} :
    jD 13 [.ref 234, .ref t] (q_cf I xr xo xn xs xa xk xq xm, L, s) = some (none, q_cf I xr xo xn xs xa xk (q_lk xn S dn xr (-1, xn + 1)).1 (q_lk xn S dn xr (-1, xn + 1)).2, L, s) := by
  have hf := xo_ft hx
  have hDK : ∀ {xo xn xs xa xk xq xm : Int32} {xr : Nat → Int32}, qd (q_cf I xr xo xn xs xa xk xq xm) t = D := fun {xo xn xs xa xk xq xm xr} => (cf_d hx).trans hD
  rw [D_13, E_13_0]
  simp only [↓reduceIte, q_i, q_l, q_k, q_r, q_z, q_si, q_sl, jx_lt, jx_ri, jx_rl, jx_rv, if_true, if_false, Nat.reduceLeDiff, Nat.add_one_ne_zero, and_self, true_or, or_true, Nat.reduceEqDiff, or_self, or_false, false_or, xo_k hx, xo_r0 hx, xo_r1 hx, xo_r2 hx, xo_r3 hx, xo_r4 hx, xo_r5 hx, xo_r6 hx, xo_r7 hx, xo_r8 hx, xo_r9 hx, xo_r10 hx, xo_r11 hx, xo_ka hx, xo_ra0 hx, xo_ra1 hx, xo_ko hx, xo_ro0 hx, xo_ro1 hx, xo_kf hx, xo_rf0 hx, xo_kh hx, xo_rh0 hx, xo_ke hx, xo_re0 hx, xo_re1 hx, xo_kn hx, xo_zn hx, xo_re2 hx, xo_re3 hx, xo_kt hx, xo_rt0 hx, xo_t0 hx, (xo_ft hx).1, (xo_now hx).1, (xo_now hx).2.1, (xo_now hx).2.2.1, (xo_try hx).1, (xo_yr hx).1.1, (xo_ty hx).1, q_cf_o, q_cf_xr, q_cf_uxr, q_cf_uxo, q_cf_uxn, q_cf_uxs, q_cf_uxa, q_cf_uxk, q_cf_uxq, q_cf_uxm, q_cf_gxo, q_cf_gxn, q_cf_gxs, q_cf_gxa, q_cf_gxk, q_cf_gxq, q_cf_gxm]
  refine (q_loop (F := fun a (p : Int32 × Int32) => jd 13 1 [some (.ref 234), some (.ref t), some (.int (w a)), none, none, none] [] (q_cf I xr xo xn xs xa xk p.1 p.2, L, s)) (n := S) (g := fun a p => q_it (fun d (p : Int32 × Int32) => if p.2 ≤ (if xr (20 * a + d) < xn - xr (20 * a + d) then xn - xr (20 * a + d) else xr (20 * a + d)) then p else (100 * w a + w d, if xr (20 * a + d) < xn - xr (20 * a + d) then xn - xr (20 * a + d) else xr (20 * a + d))) dn p) (fun a p ha => ?_) ((-1 : Int32), xn + 1)).trans ?_
  · rw [E_13_1]
    simp only [↓reduceIte, q_i, q_l, q_k, q_r, q_z, q_si, q_sl, jx_lt, jx_ri, jx_rl, jx_rv, if_true, if_false, Nat.reduceLeDiff, Nat.add_one_ne_zero, and_self, true_or, or_true, Nat.reduceEqDiff, or_self, or_false, false_or, stops_eq hf, hf.1, hDK, hSS, w_nle ha (by omega)]
    refine (q_loop (F := fun d (p : Int32 × Int32) => jd 13 2 [some (.ref 234), some (.ref t), some (.int (w a)), some (.int (w d)), none, none] [] (q_cf I xr xo xn xs xa xk p.1 p.2, L, s)) (n := dn) (g := fun d p => if p.2 ≤ (if xr (20 * a + d) < xn - xr (20 * a + d) then xn - xr (20 * a + d) else xr (20 * a + d)) then p else (100 * w a + w d, if xr (20 * a + d) < xn - xr (20 * a + d) then xn - xr (20 * a + d) else xr (20 * a + d))) (fun d p hd => ?_) p).trans ?_
    · rw [E_13_2]
      simp only [↓reduceIte, q_i, q_l, q_k, q_r, q_z, q_si, q_sl, jx_lt, jx_ri, jx_rl, jx_rv, if_true, if_false, Nat.reduceLeDiff, Nat.add_one_ne_zero, and_self, true_or, or_true, Nat.reduceEqDiff, or_self, or_false, false_or, xo_k hx, xo_r0 hx, xo_r1 hx, xo_r2 hx, xo_r3 hx, xo_r4 hx, xo_r5 hx, xo_r6 hx, xo_r7 hx, xo_r8 hx, xo_r9 hx, xo_r10 hx, xo_r11 hx, xo_ka hx, xo_ra0 hx, xo_ra1 hx, xo_ko hx, xo_ro0 hx, xo_ro1 hx, xo_kf hx, xo_rf0 hx, xo_kh hx, xo_rh0 hx, xo_ke hx, xo_re0 hx, xo_re1 hx, xo_kn hx, xo_zn hx, xo_re2 hx, xo_re3 hx, xo_kt hx, xo_rt0 hx, xo_t0 hx, (xo_ft hx).1, (xo_now hx).1, (xo_now hx).2.1, (xo_now hx).2.2.1, (xo_try hx).1, (xo_yr hx).1.1, (xo_ty hx).1, hf.1, days_eq hf, hDK, hdd, w_nle hd (by omega), (xo_seen hx).1, look_eq (xo_seen hx), show (20 : Int32) = w 20 from rfl, w_mul, w_add, Nat.mul_comm a 20, q_at_w (n := 160) (k := 20 * a + d) (by omega) (by omega), q_cf_o, q_cf_xr, q_cf_uxr, q_cf_uxo, q_cf_uxn, q_cf_uxs, q_cf_uxa, q_cf_uxk, q_cf_uxq, q_cf_uxm, q_cf_gxo, q_cf_gxn, q_cf_gxs, q_cf_gxa, q_cf_gxk, q_cf_gxq, q_cf_gxm, E_13_3, w_inc]
      by_cases c : p.2 ≤ (if xr (20 * a + d) < xn - xr (20 * a + d) then xn - xr (20 * a + d) else xr (20 * a + d))
      · rw [if_pos c, if_pos c]
      · rw [if_neg c, if_neg c]
    · show jd 13 2 _ _ _ = _
      rw [E_13_2]
      simp only [↓reduceIte, q_i, q_l, q_k, q_r, q_z, q_si, q_sl, jx_lt, jx_ri, jx_rl, jx_rv, if_true, if_false, Nat.reduceLeDiff, Nat.add_one_ne_zero, and_self, true_or, or_true, Nat.reduceEqDiff, or_self, or_false, false_or, xo_k hx, xo_r0 hx, xo_r1 hx, xo_r2 hx, xo_r3 hx, xo_r4 hx, xo_r5 hx, xo_r6 hx, xo_r7 hx, xo_r8 hx, xo_r9 hx, xo_r10 hx, xo_r11 hx, xo_ka hx, xo_ra0 hx, xo_ra1 hx, xo_ko hx, xo_ro0 hx, xo_ro1 hx, xo_kf hx, xo_rf0 hx, xo_kh hx, xo_rh0 hx, xo_ke hx, xo_re0 hx, xo_re1 hx, xo_kn hx, xo_zn hx, xo_re2 hx, xo_re3 hx, xo_kt hx, xo_rt0 hx, xo_t0 hx, (xo_ft hx).1, (xo_now hx).1, (xo_now hx).2.1, (xo_now hx).2.2.1, (xo_try hx).1, (xo_yr hx).1.1, (xo_ty hx).1, hf.1, days_eq hf, hDK, hdd, Int32.le_refl, E_13_4, w_inc]
  · show jd 13 1 _ _ _ = _
    rw [E_13_1]
    simp only [↓reduceIte, q_i, q_l, q_k, q_r, q_z, q_si, q_sl, jx_lt, jx_ri, jx_rl, jx_rv, if_true, if_false, Nat.reduceLeDiff, Nat.add_one_ne_zero, and_self, true_or, or_true, Nat.reduceEqDiff, or_self, or_false, false_or, stops_eq hf, hf.1, hDK, hSS, Int32.le_refl, E_13_5]
    rfl
theorem weigh_eq (hx : qXo s t t') (hD : qd I t = D) (hX : qXD D U S dn R O W) (hdd : D 0 0 = w dn) (hdn : dn ≤ 20) (hSS : D 0 3 = w S) (hS : S ≤ 8) {u h : Nat} (hu : u < 6) (hh : D 6 u = w h) (hh8 : h < S)
    (b1 : I (232 + 1) u = w (q_all D S h).length) (hl : (q_all D S h).length ≤ 300) (b2 : ∀ k, k < (q_all D S h).length → I (230 + 1) (300 * u + k) = w ((q_all D S h).getD k 0)) (hno : ¬ I 234 1 = w u) :
    ∃ fr v, jD 9 [.ref 234, .ref t, .ref 229, .int (w u)] (I, L, s) = some (none, q_cf I fr (w u) (w (q_F D u h R dn (q_all D S h)).1) (q_F D u h R dn (q_all D S h)).2.1 (q_F D u h R dn (q_all D S h)).2.2.1 (q_F D u h R dn (q_all D S h)).2.2.2.1
        (q_lk (w (q_F D u h R dn (q_all D S h)).1) S dn fr (-1, w (q_F D u h R dn (q_all D S h)).1 + 1)).1 (q_lk (w (q_F D u h R dn (q_all D S h)).1) S dn fr (-1, w (q_F D u h R dn (q_all D S h)).1 + 1)).2, q_ll L v, s) ∧
      ∃ f0, (∀ k, k < 160 → f0 k = 0) ∧ fr = q_S D u h R dn (q_all D S h) f0 := by
  have hf := xo_ft hx
  generalize hXX : q_all D S h = X at b1 hl b2
  have hco : ∀ e, e < X.length → qCo D S h (X.getD e 0) := fun e he => by rw [← hXX] at he ⊢; exact all_co hS he
  have hDK : ∀ {xo xn xs xa xk xq xm : Int32} {xr : Nat → Int32}, qd (q_cf I xr xo xn xs xa xk xq xm) t = D := fun {xo xn xs xa xk xq xm xr} => (cf_d hx).trans hD
  have hfo : ∀ {xo xn xs xa xk xq xm : Int32} {xr : Nat → Int32} {L : qL}, jD 93 [.ref 229, .int (w u)] (q_cf I xr xo xn xs xa xk xq xm, L, s) = some (some (.int (w X.length)), q_cf I xr xo xn xs xa xk xq xm, L, s) := fun {xo xn xs xa xk xq xm xr L} => found_eq hx hu (by rw [q_cf_out (by omega)]; exact b1)
  have hro : ∀ {xo xn xs xa xk xq xm : Int32} {xr : Nat → Int32} {L : qL} {e : Nat}, e < X.length → jD 94 [.ref 229, .int (w u), .int (w e)] (q_cf I xr xo xn xs xa xk xq xm, L, s) = some (some (.int (w (X.getD e 0))), q_cf I xr xo xn xs xa xk xq xm, L, s) := fun {xo xn xs xa xk xq xm xr L e} he => route_eq hx hu (by omega) (by rw [q_cf_out (by omega)]; exact b2 e he)
  have inner : ∀ d, d < dn → ∀ (x : qF) (f : Nat → Int32) (xq xm : Int32), jd 9 3 [some (.ref 234), some (.ref t), some (.ref 229), some (.int (w u)), some (.int (w d)), some (.int (w 0))] [] (q_cf I f (w u) (w x.1) x.2.1 x.2.2.1 x.2.2.2.1 xq xm, q_ll L x.2.2.2.2.1, s) =
      jd 9 5 [some (.ref 234), some (.ref t), some (.ref 229), some (.int (w u)), some (.int (w d)), none] [] (q_cf I (q_sd D u h R dn X d f) (w u) (w (q_fd D u h R X d x).1) (q_fd D u h R X d x).2.1 (q_fd D u h R X d x).2.2.1 (q_fd D u h R X d x).2.2.2.1 xq xm, q_ll L (q_fd D u h R X d x).2.2.2.2.1, s) := by
    intro d hd x f xq xm
    refine (q_loop (F := fun e (p : qF × (Nat → Int32)) => jd 9 3 [some (.ref 234), some (.ref t), some (.ref 229), some (.int (w u)), some (.int (w d)), some (.int (w e))] [] (q_cf I p.2 (w u) (w p.1.1) p.1.2.1 p.1.2.2.1 p.1.2.2.2.1 xq xm, q_ll L p.1.2.2.2.2.1, s)) (n := X.length) (g := fun e p => (q_fs D u h R X d e p.1, q_ss D u h R dn X d e p.2)) (fun e p he => ?_) (x, f)).trans ?_
    · have hfit := fun {xo xn xs xa xk xq xm : Int32} {xr : Nat → Int32} {L : qL} => isFit_eq (I := q_cf I xr xo xn xs xa xk xq xm) (L := L) hf hDK hX hdn hS hu hh (hco e he) (show d < 20 by omega)
      have hadd := fun {n : Nat} {xo xs xa xk xq xm : Int32} {xr : Nat → Int32} {v : Int64} => fadd_eq (L := L) (n := n) (xo := xo) (xs := xs) (xa := xa) (xk := xk) (xq := xq) (xm := xm) (xr := xr) (v := v) (e := e) hx hD hX hdd hdn hS hu hh hh8 (hco e he) (show d < 20 by omega)
      rw [E_9_3]
      simp only [↓reduceIte, q_i, q_l, q_k, q_r, q_z, q_si, q_sl, jx_lt, jx_ri, jx_rl, jx_rv, if_true, if_false, Nat.reduceLeDiff, Nat.add_one_ne_zero, and_self, true_or, or_true, Nat.reduceEqDiff, or_self, or_false, false_or, xo_k hx, xo_r0 hx, xo_r1 hx, xo_r2 hx, xo_r3 hx, xo_r4 hx, xo_r5 hx, xo_r6 hx, xo_r7 hx, xo_r8 hx, xo_r9 hx, xo_r10 hx, xo_r11 hx, xo_ka hx, xo_ra0 hx, xo_ra1 hx, xo_ko hx, xo_ro0 hx, xo_ro1 hx, xo_kf hx, xo_rf0 hx, xo_kh hx, xo_rh0 hx, xo_ke hx, xo_re0 hx, xo_re1 hx, xo_kn hx, xo_zn hx, xo_re2 hx, xo_re3 hx, xo_kt hx, xo_rt0 hx, xo_t0 hx, (xo_ft hx).1, (xo_now hx).1, (xo_now hx).2.1, (xo_now hx).2.2.1, (xo_try hx).1, (xo_yr hx).1.1, (xo_ty hx).1, hf.1, hfo, hro he, w_nle he (by omega), hfit]
      by_cases c : q_fitN (q_fp D u h (X.getD e 0) d) R R = true
      · simp only [c, ↓reduceIte, q_i, q_l, q_k, q_r, q_z, q_si, q_sl, jx_lt, jx_ri, jx_rl, jx_rv, if_true, if_false, Nat.reduceLeDiff, Nat.add_one_ne_zero, and_self, true_or, or_true, Nat.reduceEqDiff, or_self, or_false, false_or, show ¬ (1 : Int32) = 0 by decide, hro he, xo_k hx, xo_r0 hx, xo_r1 hx, xo_r2 hx, xo_r3 hx, xo_r4 hx, xo_r5 hx, xo_r6 hx, xo_r7 hx, xo_r8 hx, xo_r9 hx, xo_r10 hx, xo_r11 hx, xo_ka hx, xo_ra0 hx, xo_ra1 hx, xo_ko hx, xo_ro0 hx, xo_ro1 hx, xo_kf hx, xo_rf0 hx, xo_kh hx, xo_rh0 hx, xo_ke hx, xo_re0 hx, xo_re1 hx, xo_kn hx, xo_zn hx, xo_re2 hx, xo_re3 hx, xo_kt hx, xo_rt0 hx, xo_t0 hx, (xo_ft hx).1, (xo_now hx).1, (xo_now hx).2.1, (xo_now hx).2.2.1, (xo_try hx).1, (xo_yr hx).1.1, (xo_ty hx).1, hadd, E_9_4, w_inc, q_fs, q_ss]
      · simp only [c, ↓reduceIte, q_i, q_l, q_k, q_r, q_z, q_si, q_sl, jx_lt, jx_ri, jx_rl, jx_rv, if_true, if_false, Nat.reduceLeDiff, Nat.add_one_ne_zero, and_self, true_or, or_true, Nat.reduceEqDiff, or_self, or_false, false_or, E_9_4, w_inc, q_fs, q_ss, Bool.false_eq_true]
    · show jd 9 3 _ _ _ = _
      rw [it_pair, E_9_3]
      simp only [↓reduceIte, q_i, q_l, q_k, q_r, q_z, q_si, q_sl, jx_lt, jx_ri, jx_rl, jx_rv, if_true, if_false, Nat.reduceLeDiff, Nat.add_one_ne_zero, and_self, true_or, or_true, Nat.reduceEqDiff, or_self, or_false, false_or, xo_k hx, xo_r0 hx, xo_r1 hx, xo_r2 hx, xo_r3 hx, xo_r4 hx, xo_r5 hx, xo_r6 hx, xo_r7 hx, xo_r8 hx, xo_r9 hx, xo_r10 hx, xo_r11 hx, xo_ka hx, xo_ra0 hx, xo_ra1 hx, xo_ko hx, xo_ro0 hx, xo_ro1 hx, xo_kf hx, xo_rf0 hx, xo_kh hx, xo_rh0 hx, xo_ke hx, xo_re0 hx, xo_re1 hx, xo_kn hx, xo_zn hx, xo_re2 hx, xo_re3 hx, xo_kt hx, xo_rt0 hx, xo_t0 hx, (xo_ft hx).1, (xo_now hx).1, (xo_now hx).2.1, (xo_now hx).2.2.1, (xo_try hx).1, (xo_yr hx).1.1, (xo_ty hx).1, hf.1, hfo, Int32.le_refl]
      rfl
  rw [D_9, E_9_0]
  have e0 : (I, L, s) = (q_cf I (I (235 + 1)) (I 234 1) (I 234 3) (I 234 4) (I 234 5) (I 234 6) (I 234 7) (I 234 8), L, s) := by rw [q_cf_self]
  simp only [↓reduceIte, q_i, q_l, q_k, q_r, q_z, q_si, q_sl, jx_lt, jx_ri, jx_rl, jx_rv, if_true, if_false, Nat.reduceLeDiff, Nat.add_one_ne_zero, and_self, true_or, or_true, Nat.reduceEqDiff, or_self, or_false, false_or, xo_k hx, xo_r0 hx, xo_r1 hx, xo_r2 hx, xo_r3 hx, xo_r4 hx, xo_r5 hx, xo_r6 hx, xo_r7 hx, xo_r8 hx, xo_r9 hx, xo_r10 hx, xo_r11 hx, xo_ka hx, xo_ra0 hx, xo_ra1 hx, xo_ko hx, xo_ro0 hx, xo_ro1 hx, xo_kf hx, xo_rf0 hx, xo_kh hx, xo_rh0 hx, xo_ke hx, xo_re0 hx, xo_re1 hx, xo_kn hx, xo_zn hx, xo_re2 hx, xo_re3 hx, xo_kt hx, xo_rt0 hx, xo_t0 hx, (xo_ft hx).1, (xo_now hx).1, (xo_now hx).2.1, (xo_now hx).2.2.1, (xo_try hx).1, (xo_yr hx).1.1, (xo_ty hx).1, hno]
  rw [e0, E_9_1]
  simp only [q_llf, ↓reduceIte, q_i, q_l, q_k, q_r, q_z, q_si, q_sl, jx_lt, jx_ri, jx_rl, jx_rv, if_true, if_false, Nat.reduceLeDiff, Nat.add_one_ne_zero, and_self, true_or, or_true, Nat.reduceEqDiff, or_self, or_false, false_or, xo_k hx, xo_r0 hx, xo_r1 hx, xo_r2 hx, xo_r3 hx, xo_r4 hx, xo_r5 hx, xo_r6 hx, xo_r7 hx, xo_r8 hx, xo_r9 hx, xo_r10 hx, xo_r11 hx, xo_ka hx, xo_ra0 hx, xo_ra1 hx, xo_ko hx, xo_ro0 hx, xo_ro1 hx, xo_kf hx, xo_rf0 hx, xo_kh hx, xo_rh0 hx, xo_ke hx, xo_re0 hx, xo_re1 hx, xo_kn hx, xo_zn hx, xo_re2 hx, xo_re3 hx, xo_kt hx, xo_rt0 hx, xo_t0 hx, (xo_ft hx).1, (xo_now hx).1, (xo_now hx).2.1, (xo_now hx).2.2.1, (xo_try hx).1, (xo_yr hx).1.1, (xo_ty hx).1, q_cf_o, q_cf_xr, q_cf_uxr, q_cf_uxo, q_cf_uxn, q_cf_uxs, q_cf_uxa, q_cf_uxk, q_cf_uxq, q_cf_uxm, q_cf_gxo, q_cf_gxn, q_cf_gxs, q_cf_gxa, q_cf_gxk, q_cf_gxq, q_cf_gxm, (xo_seen hx).1, fill_eq (xo_seen hx)]
  generalize hf0 : (fun k => if k < 160 then (0 : Int32) else I (235 + 1) k) = f0
  refine ⟨q_S D u h R dn X f0, (q_F D u h R dn X).2.2.2.2.1, ?_, f0, fun k hk => by rw [← hf0]; exact if_pos hk, rfl⟩
  refine (q_loop (F := fun d (p : qF × (Nat → Int32)) => jd 9 2 [some (.ref 234), some (.ref t), some (.ref 229), some (.int (w u)), some (.int (w d)), none] [] (q_cf I p.2 (w u) (w p.1.1) p.1.2.1 p.1.2.2.1 p.1.2.2.2.1 (I 234 7) (I 234 8), q_ll L p.1.2.2.2.2.1, s)) (n := dn) (g := fun d p => (q_fd D u h R X d p.1, q_sd D u h R dn X d p.2)) (fun d p hd => ?_) (((0 : Nat), (0 : Int32), (255 : Int32), (-1 : Int32), (-1 : Int64), (0 : Nat)), f0)).trans ?_
  · rw [E_9_2]
    simp only [↓reduceIte, q_i, q_l, q_k, q_r, q_z, q_si, q_sl, jx_lt, jx_ri, jx_rl, jx_rv, if_true, if_false, Nat.reduceLeDiff, Nat.add_one_ne_zero, and_self, true_or, or_true, Nat.reduceEqDiff, or_self, or_false, false_or, hf.1, days_eq hf, hDK, hdd, w_nle hd (by omega)]
    rw [show (0 : Int32) = w 0 from rfl, inner d hd, E_9_5, w_inc]
  · show jd 9 2 _ _ _ = _
    rw [it_pair, E_9_2]
    simp only [↓reduceIte, q_i, q_l, q_k, q_r, q_z, q_si, q_sl, jx_lt, jx_ri, jx_rl, jx_rv, if_true, if_false, Nat.reduceLeDiff, Nat.add_one_ne_zero, and_self, true_or, or_true, Nat.reduceEqDiff, or_self, or_false, false_or, hf.1, days_eq hf, hDK, hdd, Int32.le_refl, E_9_6, xo_k hx, xo_r0 hx, xo_r1 hx, xo_r2 hx, xo_r3 hx, xo_r4 hx, xo_r5 hx, xo_r6 hx, xo_r7 hx, xo_r8 hx, xo_r9 hx, xo_r10 hx, xo_r11 hx, xo_ka hx, xo_ra0 hx, xo_ra1 hx, xo_ko hx, xo_ro0 hx, xo_ro1 hx, xo_kf hx, xo_rf0 hx, xo_kh hx, xo_rh0 hx, xo_ke hx, xo_re0 hx, xo_re1 hx, xo_kn hx, xo_zn hx, xo_re2 hx, xo_re3 hx, xo_kt hx, xo_rt0 hx, xo_t0 hx, (xo_ft hx).1, (xo_now hx).1, (xo_now hx).2.1, (xo_now hx).2.2.1, (xo_try hx).1, (xo_yr hx).1.1, (xo_ty hx).1, choose_eq hx hD hSS hS hdd hdn]
    rfl
end CW
