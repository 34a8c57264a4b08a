/-! FLIGHT, ROUTE, PLAN: the readers -/
def q_len (k : Nat) : Nat := [12, 8, 64, 64, 6, 6, 6, 6, 6, 6, 8, 8, 8, 6, 6, 20, 6, 6, 6].getD k 0
/-- a Flight at t: its rows one behind another, each with its array behind it -/
def qFl (s : qS) (t : Nat) : Prop := qk s t = 3 ∧ ∀ k, k < 19 → qr s t k = t + 1 + 2 * k ∧ qRow s (t + 1 + 2 * k) (q_len k)
/-- what its row k holds -/
def qd (I : qI) (t : Nat) : Nat → Nat → Int32 := fun k => if k < 19 then I (t + 1 + 2 * k + 1) else fun _ => 0
theorem qd_same {I J : qI} {t : Nat} (h : ∀ a, t ≤ a → a < t + 39 → J a = I a) : qd J t = qd I t := by
  funext k
  unfold qd
  by_cases hk : k < 19
  · rw [if_pos hk, if_pos hk, h _ (by omega) (by omega)]
  · rw [if_neg hk, if_neg hk]
/-- a Plan at q -/
def qPl (s : qS) (q : Nat) : Prop := qk s q = 5 ∧ qr s q 0 = q + 1 ∧ qRow s (q + 1) 19
section FL
variable {I : qI} {L : qL} {s : qS} {t q : Nat}
theorem fl_k (h : qFl s t) {k n : Nat} (hk : k < 19) (hn : q_len k = n) : qr s t k = t + 1 + 2 * k ∧ qRow s (t + 1 + 2 * k) n := hn ▸ h.2 k hk
theorem days_eq (h : qFl s t) : jD 16 [.ref t] (I, L, s) = some (some (.int (qd I t 0 0)), I, L, s) := by
  have r := fl_k h (k := 0) (n := 12) (by omega) rfl
  rw [D_16, E_16_0]
  simp only [q_i, q_l, q_k, q_r, q_z, q_si, q_sl, jx_lt, jx_ri, jx_rl, jx_rv, if_true, if_false, Nat.reduceLeDiff, Nat.add_one_ne_zero, and_self, true_or, or_true, Nat.reduceEqDiff, or_self, or_false, false_or, h.1, r.1, r.2.1, look_eq r.2]
  rw [show (0 : Int32) = w 0 from rfl, q_at_w (by omega) (by omega)]; rfl
theorem lastDay_eq (h : qFl s t) : jD 17 [.ref t] (I, L, s) = some (some (.int (qd I t 0 0 - 1)), I, L, s) := by
  rw [D_17, E_17_0]
  simp only [q_i, q_l, q_k, q_r, q_z, q_si, q_sl, jx_lt, jx_ri, jx_rl, jx_rv, if_true, if_false, Nat.reduceLeDiff, Nat.add_one_ne_zero, and_self, true_or, or_true, Nat.reduceEqDiff, or_self, or_false, false_or, h.1, days_eq h]
theorem stops_eq (h : qFl s t) : jD 18 [.ref t] (I, L, s) = some (some (.int (qd I t 0 3)), I, L, s) := by
  have r := fl_k h (k := 0) (n := 12) (by omega) rfl
  rw [D_18, E_18_0]
  simp only [q_i, q_l, q_k, q_r, q_z, q_si, q_sl, jx_lt, jx_ri, jx_rl, jx_rv, if_true, if_false, Nat.reduceLeDiff, Nat.add_one_ne_zero, and_self, true_or, or_true, Nat.reduceEqDiff, or_self, or_false, false_or, h.1, r.1, r.2.1, look_eq r.2]
  rw [show (3 : Int32) = w 3 from rfl, q_at_w (by omega) (by omega)]; rfl
theorem umbs_eq (h : qFl s t) : jD 19 [.ref t] (I, L, s) = some (some (.int (qd I t 0 5)), I, L, s) := by
  have r := fl_k h (k := 0) (n := 12) (by omega) rfl
  rw [D_19, E_19_0]
  simp only [q_i, q_l, q_k, q_r, q_z, q_si, q_sl, jx_lt, jx_ri, jx_rl, jx_rv, if_true, if_false, Nat.reduceLeDiff, Nat.add_one_ne_zero, and_self, true_or, or_true, Nat.reduceEqDiff, or_self, or_false, false_or, h.1, r.1, r.2.1, look_eq r.2]
  rw [show (5 : Int32) = w 5 from rfl, q_at_w (by omega) (by omega)]; rfl
theorem owners_eq (h : qFl s t) : jD 20 [.ref t] (I, L, s) = some (some (.int (qd I t 0 8)), I, L, s) := by
  have r := fl_k h (k := 0) (n := 12) (by omega) rfl
  rw [D_20, E_20_0]
  simp only [q_i, q_l, q_k, q_r, q_z, q_si, q_sl, jx_lt, jx_ri, jx_rl, jx_rv, if_true, if_false, Nat.reduceLeDiff, Nat.add_one_ne_zero, and_self, true_or, or_true, Nat.reduceEqDiff, or_self, or_false, false_or, h.1, r.1, r.2.1, look_eq r.2]
  rw [show (8 : Int32) = w 8 from rfl, q_at_w (by omega) (by omega)]; rfl
theorem winds_eq (h : qFl s t) : jD 21 [.ref t] (I, L, s) = some (some (.int (qd I t 0 11)), I, L, s) := by
  have r := fl_k h (k := 0) (n := 12) (by omega) rfl
  rw [D_21, E_21_0]
  simp only [q_i, q_l, q_k, q_r, q_z, q_si, q_sl, jx_lt, jx_ri, jx_rl, jx_rv, if_true, if_false, Nat.reduceLeDiff, Nat.add_one_ne_zero, and_self, true_or, or_true, Nat.reduceEqDiff, or_self, or_false, false_or, h.1, r.1, r.2.1, look_eq r.2]
  rw [show (11 : Int32) = w 11 from rfl, q_at_w (by omega) (by omega)]; rfl
theorem windOf_eq (h : qFl s t) (a b : Int32) : jD 22 [.ref t, .int a, .int b] (I, L, s) = some (some (.int (q_at 64 (qd I t 2) (a * 8 + b))), I, L, s) := by
  have r := fl_k h (k := 2) (n := 64) (by omega) rfl
  rw [D_22, E_22_0]
  simp only [q_i, q_l, q_k, q_r, q_z, q_si, q_sl, jx_lt, jx_ri, jx_rl, jx_rv, if_true, if_false, Nat.reduceLeDiff, Nat.add_one_ne_zero, and_self, true_or, or_true, Nat.reduceEqDiff, or_self, or_false, false_or, h.1, r.1, r.2.1, look_eq r.2, qd, Nat.reduceLT, if_true]
theorem lossOf_eq (h : qFl s t) (a b : Int32) : jD 23 [.ref t, .int a, .int b] (I, L, s) = some (some (.int (q_at 64 (qd I t 3) (a * 8 + b))), I, L, s) := by
  have r := fl_k h (k := 3) (n := 64) (by omega) rfl
  rw [D_23, E_23_0]
  simp only [q_i, q_l, q_k, q_r, q_z, q_si, q_sl, jx_lt, jx_ri, jx_rl, jx_rv, if_true, if_false, Nat.reduceLeDiff, Nat.add_one_ne_zero, and_self, true_or, or_true, Nat.reduceEqDiff, or_self, or_false, false_or, h.1, r.1, r.2.1, look_eq r.2, qd, Nat.reduceLT, if_true]
def q_loss (D : Nat → Nat → Int32) (u a b : Int32) : Int32 := if q_at 6 (D 4) u = 2 then 2 * q_at 64 (D 3) (a * 8 + b) else q_at 64 (D 3) (a * 8 + b)
theorem lossFor_eq (h : qFl s t) (u a b : Int32) : jD 24 [.ref t, .int u, .int a, .int b] (I, L, s) = some (some (.int (q_loss (qd I t) u a b)), I, L, s) := by
  have r := fl_k h (k := 3) (n := 64) (by omega) rfl
  have r4 := fl_k h (k := 4) (n := 6) (by omega) rfl
  rw [D_24, E_24_0]
  simp only [q_i, q_l, q_k, q_r, q_z, q_si, q_sl, jx_lt, jx_ri, jx_rl, jx_rv, if_true, if_false, Nat.reduceLeDiff, Nat.add_one_ne_zero, and_self, true_or, or_true, Nat.reduceEqDiff, or_self, or_false, false_or, h.1, r.1, r4.1, r.2.1, r4.2.1, look_eq r.2, look_eq r4.2, E_24_1, E_24_2, q_loss, qd, Nat.reduceLT, if_true]
  split <;> rename_i c <;> simp only [c, if_true, if_false]
theorem setWay_eq (h : qFl s t) (a b x y : Int32) : jD 25 [.ref t, .int a, .int b, .int x, .int y] (I, L, s) = some (none, q_up (q_up I (t + 6) (q_put 64 (qd I t 2) (a * 8 + b) x)) (t + 8) (q_put 64 (qd I t 3) (a * 8 + b) y), L, s) := by
  have r := fl_k h (k := 2) (n := 64) (by omega) rfl
  have r3 := fl_k h (k := 3) (n := 64) (by omega) rfl
  rw [D_25, E_25_0]
  simp only [q_i, q_l, q_k, q_r, q_z, q_si, q_sl, jx_lt, jx_ri, jx_rl, jx_rv, if_true, if_false, Nat.reduceLeDiff, Nat.add_one_ne_zero, and_self, true_or, or_true, Nat.reduceEqDiff, or_self, or_false, false_or, h.1, r.1, r3.1, r.2.1, r3.2.1, put_eq r.2, put_eq r3.2]
  rw [q_up_ne (by omega)]
  rfl
theorem isRainy_eq (h : qFl s t) (d : Int32) : jD 26 [.ref t, .int d] (I, L, s) = some (some (.int (if q_at 20 (qd I t 15) d = 1 then 1 else 0)), I, L, s) := by
  have r := fl_k h (k := 15) (n := 20) (by omega) rfl
  rw [D_26, E_26_0]
  simp only [q_i, q_l, q_k, q_r, q_z, q_si, q_sl, jx_lt, jx_ri, jx_rl, jx_rv, if_true, if_false, Nat.reduceLeDiff, Nat.add_one_ne_zero, and_self, true_or, or_true, Nat.reduceEqDiff, or_self, or_false, false_or, h.1, r.1, r.2.1, look_eq r.2, E_26_1, E_26_2, qd, Nat.reduceLT, if_true]
  split <;> rename_i c <;> simp only [c, if_true, if_false]
theorem setRain_eq (h : qFl s t) (d : Int32) : jD 27 [.ref t, .int d] (I, L, s) = some (none, q_up I (t + 32) (q_put 20 (qd I t 15) d 1), L, s) := by
  have r := fl_k h (k := 15) (n := 20) (by omega) rfl
  rw [D_27, E_27_0]
  simp only [q_i, q_l, q_k, q_r, q_z, q_si, q_sl, jx_lt, jx_ri, jx_rl, jx_rv, if_true, if_false, Nat.reduceLeDiff, Nat.add_one_ne_zero, and_self, true_or, or_true, Nat.reduceEqDiff, or_self, or_false, false_or, h.1, r.1, r.2.1, put_eq r.2]
  rfl
theorem isOut_eq (h : qFl s t) (o d : Int32) : jD 28 [.ref t, .int o, .int d] (I, L, s) = some (some (.int (if (q_at 6 (qd I t 14) o >>> (d &&& 31)) &&& 1 = 1 then 1 else 0)), I, L, s) := by
  have r := fl_k h (k := 14) (n := 6) (by omega) rfl
  rw [D_28, E_28_0]
  simp only [q_i, q_l, q_k, q_r, q_z, q_si, q_sl, jx_lt, jx_ri, jx_rl, jx_rv, if_true, if_false, Nat.reduceLeDiff, Nat.add_one_ne_zero, and_self, true_or, or_true, Nat.reduceEqDiff, or_self, or_false, false_or, h.1, r.1, r.2.1, look_eq r.2, E_28_1, E_28_2, qd, Nat.reduceLT, if_true]
  split <;> rename_i c <;> simp only [c, if_true, if_false]
/-! routes -/
def q_stop (x i : Int32) : Int32 := if i < 0 then -1 else if i < 5 then ((x >>> ((4 * i) &&& 31)) &&& 15) - 1 else -1
theorem stopAt_eq (x i : Int32) : jD 75 [.int x, .int i] (I, L, s) = some (some (.int (q_stop x i)), I, L, s) := by
  rw [D_75, E_75_0]
  simp only [E_75_1, E_75_2, E_75_3, q_stop]
  split
  · rfl
  · split <;> rfl
def q_with (x i p : Int32) : Int32 := if i < 0 then x else if i < 5 then x ||| ((p + 1) <<< ((4 * i) &&& 31)) else x
theorem with_eq (x i p : Int32) : jD 76 [.int x, .int i, .int p] (I, L, s) = some (some (.int (q_with x i p)), I, L, s) := by
  rw [D_76, E_76_0]
  simp only [E_76_1, E_76_2, E_76_3, q_with]
  split
  · rfl
  · split <;> rfl
def q_ways (x : Int32) : Int32 := q_it (fun i a => a + (if q_stop x (w i) < 0 then 0 else 1)) 5 0
theorem ways_eq (x : Int32) : jD 77 [.int x] (I, L, s) = some (some (.int (q_ways x)), I, L, s) := by
  have step : ∀ (i : Nat) (a : Int32), i < 5 → jd 77 1 [some (.int x), some (.int a), some (.int (w i))] [] (I, L, s) = jd 77 1 [some (.int x), some (.int (a + (if q_stop x (w i) < 0 then 0 else 1))), some (.int (w (i + 1)))] [] (I, L, s) := by
    intro i a hi
    rw [E_77_1, if_neg (by rw [show (5 : Int32) = w 5 from rfl, w_le (by omega) (by omega)]; omega)]
    simp only [q_i, q_l, q_k, q_r, q_z, q_si, q_sl, jx_lt, jx_ri, jx_rl, jx_rv, if_true, if_false, Nat.reduceLeDiff, Nat.add_one_ne_zero, and_self, true_or, or_true, Nat.reduceEqDiff, or_self, or_false, false_or, stopAt_eq, E_77_2, E_77_3, w_inc]
    split <;> rename_i c <;> simp only [c, if_true, if_false]
  rw [D_77, E_77_0]
  refine (q_loop (F := fun i a => jd 77 1 [some (.int x), some (.int a), some (.int (w i))] [] (I, L, s)) step 0).trans ?_
  rw [E_77_1, if_pos (show (5 : Int32) ≤ w 5 by decide), E_77_4]
  rfl
/-! plans -/
theorem strongOf_eq (h : qPl s q) (u : Int32) : jD 42 [.ref q, .int u] (I, L, s) = some (some (.int (q_at 19 (I (q + 2)) u)), I, L, s) := by
  rw [D_42, E_42_0]
  simp only [q_i, q_l, q_k, q_r, q_z, q_si, q_sl, jx_lt, jx_ri, jx_rl, jx_rv, if_true, if_false, Nat.reduceLeDiff, Nat.add_one_ne_zero, and_self, true_or, or_true, Nat.reduceEqDiff, or_self, or_false, false_or, h.1, h.2.1, h.2.2.1, look_eq h.2.2]
theorem setsOutOf_eq (h : qPl s q) (u : Int32) : jD 43 [.ref q, .int u] (I, L, s) = some (some (.int (q_at 19 (I (q + 2)) (6 + u))), I, L, s) := by
  rw [D_43, E_43_0]
  simp only [q_i, q_l, q_k, q_r, q_z, q_si, q_sl, jx_lt, jx_ri, jx_rl, jx_rv, if_true, if_false, Nat.reduceLeDiff, Nat.add_one_ne_zero, and_self, true_or, or_true, Nat.reduceEqDiff, or_self, or_false, false_or, h.1, h.2.1, h.2.2.1, look_eq h.2.2]
theorem routeOf_eq (h : qPl s q) (u : Int32) : jD 44 [.ref q, .int u] (I, L, s) = some (some (.int (q_at 19 (I (q + 2)) (12 + u))), I, L, s) := by
  rw [D_44, E_44_0]
  simp only [q_i, q_l, q_k, q_r, q_z, q_si, q_sl, jx_lt, jx_ri, jx_rl, jx_rv, if_true, if_false, Nat.reduceLeDiff, Nat.add_one_ne_zero, and_self, true_or, or_true, Nat.reduceEqDiff, or_self, or_false, false_or, h.1, h.2.1, h.2.2.1, look_eq h.2.2]
theorem isKept_eq (h : qPl s q) (u : Int32) : jD 45 [.ref q, .int u] (I, L, s) = some (some (.int (if (I (q + 2) 18 >>> (u &&& 31)) &&& 1 = 1 then 1 else 0)), I, L, s) := by
  rw [D_45, E_45_0]
  simp only [q_i, q_l, q_k, q_r, q_z, q_si, q_sl, jx_lt, jx_ri, jx_rl, jx_rv, if_true, if_false, Nat.reduceLeDiff, Nat.add_one_ne_zero, and_self, true_or, or_true, Nat.reduceEqDiff, or_self, or_false, false_or, h.1, h.2.1, h.2.2.1, look_eq h.2.2, E_45_1, E_45_2]
  rw [show (18 : Int32) = w 18 from rfl, q_at_w (by omega) (by omega)]
  split <;> rename_i c <;> simp only [c, if_true, if_false]
end FL
