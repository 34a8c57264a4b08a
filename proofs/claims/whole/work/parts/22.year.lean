/-! A YEAR -/
def q_ptr (s : qS) (a k v : Nat) : qS := (jm_up (qr s) a k v, s.2)
theorem q_sr {I : qI} {L : qL} {s : qS} {a k v : Nat} : jm_sr (I, L, s) a k v = (I, L, q_ptr s a k v) := rfl
theorem ptr_k {s : qS} {a k v : Nat} : qk (q_ptr s a k v) = qk s := rfl
theorem ptr_z {s : qS} {a k v : Nat} : qz (q_ptr s a k v) = qz s := rfl
theorem ptr_r_eq {s : qS} {a k v : Nat} : qr (q_ptr s a k v) a k = v := if_pos ⟨rfl, rfl⟩
theorem ptr_r_ne {s : qS} {a k v b j : Nat} (h : b ≠ a ∨ j ≠ k) : qr (q_ptr s a k v) b j = qr s b j := if_neg (fun z => h.elim (fun q => q z.1) (fun q => q z.2))
theorem ptr_row {s : qS} {a k v r n : Nat} (hk : k ≠ 0) (h : qRow s r n) : qRow (q_ptr s a k v) r n := ⟨h.1, (ptr_r_ne (Or.inr (Ne.symm hk))).trans h.2.1, h.2.2⟩
theorem ptr_pl {s : qS} {a k v q : Nat} (hk : k ≠ 0) (h : qPl s q) : qPl (q_ptr s a k v) q := ⟨h.1, (ptr_r_ne (Or.inr (Ne.symm hk))).trans h.2.1, ptr_row hk h.2.2⟩
theorem ptr_fl {s : qS} {a k v t : Nat} (hk : k ≠ 0) (ha : qk s a ≠ 3) (h : qFl s t) : qFl (q_ptr s a k v) t := ⟨h.1, fun j hj => ⟨(ptr_r_ne (Or.inl (fun e : t = a => ha (by rw [← e]; exact h.1)))).trans (h.2 j hj).1, ptr_row hk (h.2 j hj).2⟩⟩
def q_yl (k : Nat) : Nat := [120, 120, 120, 6, 6, 6, 6].getD k 0
/-- a Year at y -/
def qYr0 (s : qS) (y : Nat) : Prop := qk s y = 10 ∧ ∀ k, k < 7 → qr s y k = y + 1 + 2 * k ∧ qRow s (y + 1 + 2 * k) (q_yl k)
def qYr (s : qS) (y t q : Nat) : Prop := qYr0 s y ∧ qr s y 7 = t ∧ qr s y 8 = q
theorem ptr_yr {s : qS} {a k v y : Nat} (hk : 7 ≤ k) (h : qYr0 s y) : qYr0 (q_ptr s a k v) y := ⟨h.1, fun j hj => ⟨(ptr_r_ne (Or.inr (by omega))).trans (h.2 j hj).1, ptr_row (by omega) (h.2 j hj).2⟩⟩
theorem yr_k {s : qS} {y : Nat} (h : qYr0 s y) {k n : Nat} (hk : k < 7) (hn : q_yl k = n) : qr s y k = y + 1 + 2 * k ∧ qRow s (y + 1 + 2 * k) n := hn ▸ h.2 k hk
def q_rem (x m : Int32) : Int32 := x - x / m * m
def q_aim (D : Nat → Nat → Int32) (P sp : Nat → Int32) (u : Nat) (d : Int32) : Int32 := if D 4 u = 4 ∨ (P 18 >>> (w u &&& 31)) &&& 1 = 1 ∨ sp u < 0 ∨ P (6 + u) < 0 then -1 else q_stop (P (12 + u)) (d - P (6 + u))
def q_flock (ai sp : Nat → Int32) (u U : Nat) : Int32 := if ai u < 0 then 0 else q_it (fun v b => b ||| (if ai v = ai u ∧ sp v = sp u then (1 : Int32) <<< (w v &&& 31) else 0)) U 0
def q_less (D : Nat → Nat → Int32) (others : Int32) : Int32 := q_it (fun v b => if (others >>> (w v &&& 31)) &&& 1 = 1 ∧ D 4 v = 1 then 2 else b) 6 (if others = 0 then 0 else 1)
def q_cost (D : Nat → Nat → Int32) (u : Nat) (others wind : Int32) : Int32 := if 0 < wind - q_less D others + (if D 4 u = 3 then 1 else 0) then wind - q_less D others + (if D 4 u = 3 then 1 else 0) else 0
/-- stops, strengths left, days of falls, the seed -/
abbrev qY : Type := (Nat → Int32) × (Nat → Int32) × (Nat → Int32) × Int32
def q_move (D : Nat → Nat → Int32) (ai fl : Nat → Int32) (d : Nat) (u : Nat) (x : qY) : qY :=
  if ai u < 0 then x
  else if q_cost D u (fl (6 * d + u) &&& (((1 : Int32) <<< (w u &&& 31)) ^^^ (-1))) (q_at 64 (D 2) (x.1 u * 8 + ai u)) ≤ x.2.1 u then
    (q_set x.1 u (if x.2.2.2 < 0 then ai u else if q_rem (q_rem (75 * x.2.2.2 + 74) 65537) 100 < q_loss D (w u) (x.1 u) (ai u) then -2 else ai u),
      q_set x.2.1 u (x.2.1 u + -(q_cost D u (fl (6 * d + u) &&& (((1 : Int32) <<< (w u &&& 31)) ^^^ (-1))) (q_at 64 (D 2) (x.1 u * 8 + ai u)))), x.2.2.1, if x.2.2.2 < 0 then x.2.2.2 else q_rem (75 * x.2.2.2 + 74) 65537)
  else (q_set x.1 u (-2), x.2.1, q_set x.2.2.1 u (w d), x.2.2.2)
section YR
variable {I : qI} {L : qL} {s : qS} {t q y : Nat}
theorem cell_eq (u d : Int32) : jD 104 [.int u, .int d] (I, L, s) = some (some (.int (d * 6 + u)), I, L, s) := by rw [D_104, E_104_0]
theorem w_cell {u d : Nat} : w d * 6 + w u = w (6 * d + u) := by
  rw [show (6 : Int32) = w 6 from rfl, w_mul, w_add, Nat.mul_comm]
theorem i_ge {x : Int32} : (0 ≤ x) ↔ ¬ x < 0 := Int32.not_lt.symm
theorem aimOf_eq (hY : qYr s y t q) (hF : qFl s t) (hP : qPl s q) (ht : t ≠ 0) (hq : q ≠ 0) {u : Nat} (hu : u < 6) (d : Int32) : jD 108 [.ref y, .int (w u), .int d] (I, L, s) = some (some (.int (q_aim (qd I t) (I (q + 2)) (qd I y 4) u d)), I, L, s) := by
  have r := fl_k hF (k := 4) (n := 6) (by omega) rfl
  have ry := yr_k hY.1 (k := 4) (n := 6) (by omega) rfl
  rw [D_108, E_108_0]
  simp only [q_i, q_l, q_k, q_r, q_z, q_si, q_sl, jx_lt, jx_ri, jx_rl, jx_rv, if_true, if_false, Nat.reduceLeDiff, Nat.add_one_ne_zero, and_self, true_or, or_true, Nat.reduceEqDiff, or_self, or_false, false_or, hY.1.1, hY.2.1, hY.2.2, ht, hq, hF.1, hP.1, r.1, r.2.1, ry.1, ry.2.1, look_eq r.2, look_eq ry.2, isKept_eq hP, setsOutOf_eq hP, routeOf_eq hP, stopAt_eq, q_at_w (n := 6) (by omega) hu, show (6 : Int32) = w 6 from rfl, show (12 : Int32) = w 12 from rfl, w_add, q_at_w (n := 19) (k := 6 + u) (by omega) (by omega), q_at_w (n := 19) (k := 12 + u) (by omega) (by omega), E_108_1, E_108_2, E_108_3, E_108_4, E_108_5, E_108_6, i_ge, q_aim, qd, Nat.reduceLT]
  by_cases c1 : I (t + 1 + 2 * 4 + 1) u = 4
  · simp [c1]
  · by_cases c2 : (I (q + 2) 18 >>> (w u &&& 31)) &&& 1 = 1
    · simp [c1, c2]
    · by_cases c3 : I (y + 1 + 2 * 4 + 1) u < 0
      · simp [c1, c2, c3]
      · by_cases c4 : I (q + 2) (6 + u) < 0
        · simp [c1, c2, c3, c4]
        · simp [c1, c2, c3, c4]
theorem flockOf_eq (hY : qYr s y t q) {u U : Nat} (hu : u < 6) (hU : U ≤ 6) : jD 109 [.ref y, .int (w u), .int (w U)] (I, L, s) = some (some (.int (q_flock (qd I y 5) (qd I y 4) u U)), I, L, s) := by
  have r4 := yr_k hY.1 (k := 4) (n := 6) (by omega) rfl
  have r5 := yr_k hY.1 (k := 5) (n := 6) (by omega) rfl
  have hU9 : U < 2147483648 := by omega
  rw [D_109, E_109_0]
  unfold q_flock
  by_cases c : qd I y 5 u < 0
  · rw [if_pos c, E_109_1]
    have c' : I (y + 1 + 2 * 5 + 1) u < 0 := c
    simp only [q_i, q_l, q_k, q_r, q_z, q_si, q_sl, jx_lt, jx_ri, jx_rl, jx_rv, if_true, if_false, Nat.reduceLeDiff, Nat.add_one_ne_zero, and_self, true_or, or_true, Nat.reduceEqDiff, or_self, or_false, false_or, hY.1.1, r5.1, r5.2.1, look_eq r5.2, q_at_w (n := 6) (by omega) hu, E_109_4, c']
    by_cases c2 : w U ≤ 0
    · rw [if_pos c2]
    · rw [if_neg c2]
  · rw [if_neg c]
    have c' : ¬ I (y + 1 + 2 * 5 + 1) u < 0 := c
    refine (q_loop (F := fun i b => jd 109 1 [some (.ref y), some (.int (w u)), some (.int (w U)), some (.int b), some (.int (w i))] [] (I, L, s)) (n := U) (g := fun v b => b ||| (if qd I y 5 v = qd I y 5 u ∧ qd I y 4 v = qd I y 4 u then (1 : Int32) <<< (w v &&& 31) else 0)) (fun i b hi => ?_) 0).trans ?_
    · rw [E_109_1, if_neg (by rw [w_le (by omega) (by omega)]; omega)]
      simp only [q_i, q_l, q_k, q_r, q_z, q_si, q_sl, jx_lt, jx_ri, jx_rl, jx_rv, if_true, if_false, Nat.reduceLeDiff, Nat.add_one_ne_zero, and_self, true_or, or_true, Nat.reduceEqDiff, or_self, or_false, false_or, hY.1.1, r4.1, r4.2.1, r5.1, r5.2.1, look_eq r4.2, look_eq r5.2, q_at_w (n := 6) (by omega) hu, q_at_w (n := 6) (k := i) (by omega) (by omega), E_109_2, E_109_3, w_inc, c', qd, Nat.reduceLT]
      by_cases c1 : I (y + 1 + 2 * 5 + 1) i = I (y + 1 + 2 * 5 + 1) u
      · by_cases c2 : I (y + 1 + 2 * 4 + 1) i = I (y + 1 + 2 * 4 + 1) u
        · simp only [c1, c2, if_true, and_self]
        · simp only [c1, c2, if_true, if_false, and_false]
      · simp only [c1, if_false, false_and]
    · show jd 109 1 [some (.ref y), some (.int (w u)), some (.int (w U)), _, some (.int (w U))] [] (I, L, s) = _
      rw [E_109_1, if_pos (Int32.le_refl _), E_109_4]
theorem costOf_eq (hY : qYr s y t q) (hF : qFl s t) (ht : t ≠ 0) {u : Nat} (hu : u < 6) (o x : Int32) : jD 111 [.ref y, .int (w u), .int o, .int x] (I, L, s) = some (some (.int (q_cost (qd I t) u o x)), I, L, s) := by
  have r := fl_k hF (k := 4) (n := 6) (by omega) rfl
  have key : ∀ b : Int32, jd 111 3 [some (.ref y), some (.int (w u)), some (.int o), some (.int x), some (.int b), some (.int (w 0))] [] (I, L, s) = some (some (.int (if 0 < x - q_it (fun v b => if (o >>> (w v &&& 31)) &&& 1 = 1 ∧ qd I t 4 v = 1 then 2 else b) 6 b + (if qd I t 4 u = 3 then 1 else 0) then x - q_it (fun v b => if (o >>> (w v &&& 31)) &&& 1 = 1 ∧ qd I t 4 v = 1 then 2 else b) 6 b + (if qd I t 4 u = 3 then 1 else 0) else 0)), I, L, s) := by
    intro b
    refine (q_loop (F := fun i b => jd 111 3 [some (.ref y), some (.int (w u)), some (.int o), some (.int x), some (.int b), some (.int (w i))] [] (I, L, s)) (n := 6) (g := fun v b => if (o >>> (w v &&& 31)) &&& 1 = 1 ∧ qd I t 4 v = 1 then 2 else b) (fun i b hi => ?_) b).trans ?_
    · rw [E_111_3, if_neg (by rw [show (6 : Int32) = w 6 from rfl, w_le (by omega) (by omega)]; omega)]
      simp only [q_i, q_l, q_k, q_r, q_z, q_si, q_sl, jx_lt, jx_ri, jx_rl, jx_rv, if_true, if_false, Nat.reduceLeDiff, Nat.add_one_ne_zero, and_self, true_or, or_true, Nat.reduceEqDiff, or_self, or_false, false_or, hY.1.1, hY.2.1, ht, hF.1, r.1, r.2.1, look_eq r.2, q_at_w (n := 6) (k := i) (by omega) (by omega), E_111_4, w_inc, qd, Nat.reduceLT]
      by_cases c1 : (o >>> (w i &&& 31)) &&& 1 = 1
      · by_cases c2 : I (t + 1 + 2 * 4 + 1) i = 1
        · simp only [c1, c2, if_true, and_self]
        · simp only [c1, c2, if_true, if_false, and_false]
      · simp only [c1, if_false, false_and]
    · rw [E_111_3, if_pos (show (6 : Int32) ≤ w 6 by decide), E_111_5]
      simp only [q_i, q_l, q_k, q_r, q_z, q_si, q_sl, jx_lt, jx_ri, jx_rl, jx_rv, if_true, if_false, Nat.reduceLeDiff, Nat.add_one_ne_zero, and_self, true_or, or_true, Nat.reduceEqDiff, or_self, or_false, false_or, hY.1.1, hY.2.1, ht, hF.1, r.1, r.2.1, look_eq r.2, q_at_w (n := 6) (k := u) (by omega) hu, E_111_6, E_111_7, qd, Nat.reduceLT]
      by_cases c1 : I (t + 1 + 2 * 4 + 1) u = 3
      · simp only [c1, if_true]
      · simp only [c1, if_false]
  rw [D_111, E_111_0]
  unfold q_cost q_less
  by_cases c : o = 0
  · rw [if_pos c, if_pos c, E_111_2]; exact key 0
  · rw [if_neg c, if_neg c, E_111_1, E_111_2]; exact key 1
theorem isLost_eq (hY : qYr0 s y) (x : Int32) : jD 112 [.ref y, .int x] (I, L, s) = some (some (.int (if q_rem (q_rem (75 * I y 9 + 74) 65537) 100 < x then 1 else 0)), q_up I y (q_set (I y) 9 (q_rem (75 * I y 9 + 74) 65537)), L, s) := by
  rw [D_112, E_112_0]
  simp only [q_i, q_l, q_k, q_r, q_z, q_si, q_sl, jx_lt, jx_ri, jx_rl, jx_rv, if_true, if_false, Nat.reduceLeDiff, Nat.add_one_ne_zero, and_self, true_or, or_true, Nat.reduceEqDiff, or_self, or_false, false_or, hY.1, E_112_1, E_112_2, q_up_eq, q_set_eq, show ¬ (65537 : Int32) = 0 by decide, show ¬ (100 : Int32) = 0 by decide]
  show (if x ≤ q_rem (q_rem (75 * I y 9 + 74) 65537) 100 then _ else _) = _
  by_cases c : x ≤ q_rem (q_rem (75 * I y 9 + 74) 65537) 100
  · rw [if_pos c, if_neg (Int32.not_lt.mpr c)]; rfl
  · rw [if_neg c, if_pos (Int32.not_le.mp c)]; rfl
end YR
def q_ym (I : qI) (y : Nat) (pl st fk fa sp ai le : Nat → Int32) (sd : Int32) : qI := fun a => if a = y then q_set (I y) 9 sd else if a = y + 1 + 2 * 0 + 1 then pl else if a = y + 1 + 2 * 1 + 1 then st else if a = y + 1 + 2 * 2 + 1 then fk else if a = y + 1 + 2 * 3 + 1 then fa else if a = y + 1 + 2 * 4 + 1 then sp else if a = y + 1 + 2 * 5 + 1 then ai else if a = y + 1 + 2 * 6 + 1 then le else I a
section YM
variable {I : qI} {y : Nat} {pl st fk fa sp ai le f : Nat → Int32} {sd v : Int32}
theorem ym_y : q_ym I y pl st fk fa sp ai le sd y = q_set (I y) 9 sd := if_pos rfl
theorem ym_0 : q_ym I y pl st fk fa sp ai le sd (y + 1 + 2 * 0 + 1) = pl := by
  unfold q_ym
  rw [if_neg (by omega), if_pos rfl]
theorem ym_u0 : q_up (q_ym I y pl st fk fa sp ai le sd) (y + 1 + 2 * 0 + 1) f = q_ym I y f st fk fa sp ai le sd := by
  funext a
  unfold q_up q_ym
  by_cases h : a = y + 1 + 2 * 0 + 1
  · subst h
    rw [if_pos rfl, if_neg (by omega), if_pos rfl]
  · rw [if_neg h]
    by_cases h0 : a = y
    · rw [if_pos h0, if_pos h0]
    · rw [if_neg h0, if_neg h0]
      simp only [h, if_false]
theorem ym_1 : q_ym I y pl st fk fa sp ai le sd (y + 1 + 2 * 1 + 1) = st := by
  unfold q_ym
  rw [if_neg (by omega), if_neg (by omega), if_pos rfl]
theorem ym_u1 : q_up (q_ym I y pl st fk fa sp ai le sd) (y + 1 + 2 * 1 + 1) f = q_ym I y pl f fk fa sp ai le sd := by
  funext a
  unfold q_up q_ym
  by_cases h : a = y + 1 + 2 * 1 + 1
  · subst h
    rw [if_pos rfl, if_neg (by omega), if_neg (by omega), if_pos rfl]
  · rw [if_neg h]
    by_cases h0 : a = y
    · rw [if_pos h0, if_pos h0]
    · rw [if_neg h0, if_neg h0]
      simp only [h, if_false]
theorem ym_2 : q_ym I y pl st fk fa sp ai le sd (y + 1 + 2 * 2 + 1) = fk := by
  unfold q_ym
  rw [if_neg (by omega), if_neg (by omega), if_neg (by omega), if_pos rfl]
theorem ym_u2 : q_up (q_ym I y pl st fk fa sp ai le sd) (y + 1 + 2 * 2 + 1) f = q_ym I y pl st f fa sp ai le sd := by
  funext a
  unfold q_up q_ym
  by_cases h : a = y + 1 + 2 * 2 + 1
  · subst h
    rw [if_pos rfl, if_neg (by omega), if_neg (by omega), if_neg (by omega), if_pos rfl]
  · rw [if_neg h]
    by_cases h0 : a = y
    · rw [if_pos h0, if_pos h0]
    · rw [if_neg h0, if_neg h0]
      simp only [h, if_false]
theorem ym_3 : q_ym I y pl st fk fa sp ai le sd (y + 1 + 2 * 3 + 1) = fa := by
  unfold q_ym
  rw [if_neg (by omega), if_neg (by omega), if_neg (by omega), if_neg (by omega), if_pos rfl]
theorem ym_u3 : q_up (q_ym I y pl st fk fa sp ai le sd) (y + 1 + 2 * 3 + 1) f = q_ym I y pl st fk f sp ai le sd := by
  funext a
  unfold q_up q_ym
  by_cases h : a = y + 1 + 2 * 3 + 1
  · subst h
    rw [if_pos rfl, if_neg (by omega), if_neg (by omega), if_neg (by omega), if_neg (by omega), if_pos rfl]
  · rw [if_neg h]
    by_cases h0 : a = y
    · rw [if_pos h0, if_pos h0]
    · rw [if_neg h0, if_neg h0]
      simp only [h, if_false]
theorem ym_4 : q_ym I y pl st fk fa sp ai le sd (y + 1 + 2 * 4 + 1) = sp := by
  unfold q_ym
  rw [if_neg (by omega), if_neg (by omega), if_neg (by omega), if_neg (by omega), if_neg (by omega), if_pos rfl]
theorem ym_u4 : q_up (q_ym I y pl st fk fa sp ai le sd) (y + 1 + 2 * 4 + 1) f = q_ym I y pl st fk fa f ai le sd := by
  funext a
  unfold q_up q_ym
  by_cases h : a = y + 1 + 2 * 4 + 1
  · subst h
    rw [if_pos rfl, if_neg (by omega), if_neg (by omega), if_neg (by omega), if_neg (by omega), if_neg (by omega), if_pos rfl]
  · rw [if_neg h]
    by_cases h0 : a = y
    · rw [if_pos h0, if_pos h0]
    · rw [if_neg h0, if_neg h0]
      simp only [h, if_false]
theorem ym_5 : q_ym I y pl st fk fa sp ai le sd (y + 1 + 2 * 5 + 1) = ai := by
  unfold q_ym
  rw [if_neg (by omega), if_neg (by omega), if_neg (by omega), if_neg (by omega), if_neg (by omega), if_neg (by omega), if_pos rfl]
theorem ym_u5 : q_up (q_ym I y pl st fk fa sp ai le sd) (y + 1 + 2 * 5 + 1) f = q_ym I y pl st fk fa sp f le sd := by
  funext a
  unfold q_up q_ym
  by_cases h : a = y + 1 + 2 * 5 + 1
  · subst h
    rw [if_pos rfl, if_neg (by omega), if_neg (by omega), if_neg (by omega), if_neg (by omega), if_neg (by omega), if_neg (by omega), if_pos rfl]
  · rw [if_neg h]
    by_cases h0 : a = y
    · rw [if_pos h0, if_pos h0]
    · rw [if_neg h0, if_neg h0]
      simp only [h, if_false]
theorem ym_6 : q_ym I y pl st fk fa sp ai le sd (y + 1 + 2 * 6 + 1) = le := by
  unfold q_ym
  rw [if_neg (by omega), if_neg (by omega), if_neg (by omega), if_neg (by omega), if_neg (by omega), if_neg (by omega), if_neg (by omega), if_pos rfl]
theorem ym_u6 : q_up (q_ym I y pl st fk fa sp ai le sd) (y + 1 + 2 * 6 + 1) f = q_ym I y pl st fk fa sp ai f sd := by
  funext a
  unfold q_up q_ym
  by_cases h : a = y + 1 + 2 * 6 + 1
  · subst h
    rw [if_pos rfl, if_neg (by omega), if_neg (by omega), if_neg (by omega), if_neg (by omega), if_neg (by omega), if_neg (by omega), if_neg (by omega), if_pos rfl]
  · rw [if_neg h]
    by_cases h0 : a = y
    · rw [if_pos h0, if_pos h0]
    · rw [if_neg h0, if_neg h0]
      simp only [h, if_false]
theorem ym_uy : q_up (q_ym I y pl st fk fa sp ai le sd) y (q_set (q_set (I y) 9 sd) 9 v) = q_ym I y pl st fk fa sp ai le v := by
  funext a
  unfold q_up q_ym
  by_cases h : a = y
  · rw [if_pos h, if_pos h]
    funext j
    unfold q_set
    by_cases h9 : j = 9
    · rw [if_pos h9, if_pos h9]
    · rw [if_neg h9, if_neg h9, if_neg h9]
  · rw [if_neg h, if_neg h, if_neg h]
theorem ym_out {a : Nat} (h : a < y ∨ y + 15 ≤ a) : q_ym I y pl st fk fa sp ai le sd a = I a := by
  unfold q_ym
  rw [if_neg (by omega), if_neg (by omega), if_neg (by omega), if_neg (by omega), if_neg (by omega), if_neg (by omega), if_neg (by omega), if_neg (by omega)]
theorem ym_fl {t : Nat} (h : t + 39 ≤ y ∨ y + 15 ≤ t) : qd (q_ym I y pl st fk fa sp ai le sd) t = qd I t := qd_same fun a _ _ => ym_out (by omega)
theorem ym_self : q_ym I y (I (y + 1 + 2 * 0 + 1)) (I (y + 1 + 2 * 1 + 1)) (I (y + 1 + 2 * 2 + 1)) (I (y + 1 + 2 * 3 + 1)) (I (y + 1 + 2 * 4 + 1)) (I (y + 1 + 2 * 5 + 1)) (I (y + 1 + 2 * 6 + 1)) (I y 9) = I := by
  funext a
  unfold q_ym
  by_cases h : a = y
  · rw [if_pos h]
    subst h
    funext j
    unfold q_set
    by_cases h9 : j = 9
    · rw [if_pos h9, h9]
    · rw [if_neg h9]
  · rw [if_neg h]
    repeat (split; · rename_i e; rw [e])
    rfl
end YM
section YR2
variable {I : qI} {L : qL} {s : qS} {t q y : Nat} {pl st fk fa sp ai le : Nat → Int32} {sd : Int32}
theorem move_eq (hY : qYr s y t q) (hF : qFl s t) (ht : t ≠ 0) (hd : t + 39 ≤ y ∨ y + 15 ≤ t) {u d : Nat} (hu : u < 6) (hd9 : d < 20) (ha : ¬ ai u < 0) :
    jD 110 [.ref y, .int (w u), .int (w d)] (q_ym I y pl st fk fa sp ai le sd, L, s) = some (none, q_ym I y pl st fk (q_move (qd I t) ai fk d u (sp, le, fa, sd)).2.2.1 (q_move (qd I t) ai fk d u (sp, le, fa, sd)).1 ai (q_move (qd I t) ai fk d u (sp, le, fa, sd)).2.1 (q_move (qd I t) ai fk d u (sp, le, fa, sd)).2.2.2, L, s) := by
  have r2 := yr_k hY.1 (k := 2) (n := 120) (by omega) rfl
  have r3 := yr_k hY.1 (k := 3) (n := 6) (by omega) rfl
  have r4 := yr_k hY.1 (k := 4) (n := 6) (by omega) rfl
  have r5 := yr_k hY.1 (k := 5) (n := 6) (by omega) rfl
  have r6 := yr_k hY.1 (k := 6) (n := 6) (by omega) rfl
  rw [D_110, E_110_0]
  simp only [q_i, q_l, q_k, q_r, q_z, q_si, q_sl, jx_lt, jx_ri, jx_rl, jx_rv, if_true, if_false, Nat.reduceLeDiff, Nat.add_one_ne_zero, and_self, true_or, or_true, Nat.reduceEqDiff, or_self, or_false, false_or, hY.1.1, hY.2.1, ht, hF.1, r2.1, r2.2.1, r3.1, r3.2.1, r4.1, r4.2.1, r5.1, r5.2.1, r6.1, r6.2.1, look_eq r2.2, look_eq r4.2, look_eq r5.2, look_eq r6.2, put_eq r3.2, put_eq r4.2, add_eq r6.2, cell_eq, windOf_eq hF, costOf_eq hY hF ht hu, lossFor_eq hF, isLost_eq hY.1,
    ym_y, ym_0, ym_1, ym_2, ym_3, ym_4, ym_5, ym_6, ym_u0, ym_u1, ym_u2, ym_u3, ym_u4, ym_u5, ym_u6, ym_uy, q_set_eq, ym_fl hd, w_cell, q_at_w (n := 6) (k := u) (by omega) hu, q_put_w (n := 6) (k := u) (by omega) hu, q_at_w (n := 120) (k := 6 * d + u) (by omega) (by omega), E_110_1, E_110_2, E_110_3]
  unfold q_move
  simp only [ha, if_false]
  by_cases c1 : q_cost (qd I t) u (fk (6 * d + u) &&& (((1 : Int32) <<< (w u &&& 31)) ^^^ (-1))) (q_at 64 (qd I t 2) (sp u * 8 + ai u)) ≤ le u
  · simp only [c1, if_true]
    by_cases c2 : sd < 0
    · simp only [c2, if_true]
    · simp only [c2, if_false]
      by_cases c3 : q_rem (q_rem (75 * sd + 74) 65537) 100 < q_loss (qd I t) (w u) (sp u) (ai u)
      · simp only [c3, if_true, show ¬ (1 : Int32) = 0 by decide, if_false]
      · simp only [c3, if_false, if_true]
  · simp only [c1, if_false]
end YR2
