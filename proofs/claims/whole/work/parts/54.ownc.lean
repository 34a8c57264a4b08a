/-! OWNERS: who is wet, pins -/
def q_cnt (c : Nat → Bool) (n : Nat) : Nat := q_it (fun o k => k + (if c o = true then 1 else 0)) n 0
theorem cnt_le {c : Nat → Bool} : ∀ n, q_cnt c n ≤ n := by
  intro n
  induction n with
  | zero => exact Nat.le_refl _
  | succ n ih =>
    show q_cnt c n + (if c n = true then 1 else 0) ≤ n + 1
    split <;> omega
theorem cnt_succ {c : Nat → Bool} {n : Nat} : q_cnt c (n + 1) = q_cnt c n + (if c n = true then 1 else 0) := rfl
def q_rn (D : Nat → Nat → Int32) (d : Nat) : Bool := decide (D 15 d = 1)
def q_ot (D : Nat → Nat → Int32) (o d : Nat) : Bool := decide ((D 14 o >>> (w d &&& 31)) &&& 1 = 1)
def q_oin (D : Nat → Nat → Int32) (a d n : Nat) : Nat := q_cnt (fun o => decide (D 13 o = w a) && q_ot D o d) n
def q_kin (D : Nat → Nat → Int32) (P : Nat → Int32) (a U : Nat) : Nat := q_cnt (fun u => decide ((P 18 >>> (w u &&& 31)) &&& 1 = 1 ∨ D 4 u = 4) && decide (D 6 u = w a)) U
def q_hom (D : Nat → Nat → Int32) (a U : Nat) : Nat := q_cnt (fun u => decide (D 6 u = w a)) U
def q_pin (D : Nat → Nat → Int32) (a dn O : Nat) : Nat := q_it (fun d m => if q_rn D d = true then (if m < q_oin D a d O then q_oin D a d O else m) else m) dn 0
theorem pin_le {D : Nat → Nat → Int32} {a O : Nat} : ∀ dn, q_pin D a dn O ≤ O := by
  intro dn
  induction dn with
  | zero => exact Nat.zero_le _
  | succ d ih =>
    show (if q_rn D d = true then (if q_pin D a d O < q_oin D a d O then q_oin D a d O else q_pin D a d O) else q_pin D a d O) ≤ O
    have := cnt_le (c := fun o => decide (D 13 o = w a) && q_ot D o d) O
    split
    · split
      · exact this
      · exact ih
    · exact ih
/-- owner o is wet on day d -/
def q_wet (D : Nat → Nat → Int32) (P : Nat → Int32) (U o d : Nat) : Bool := q_rn D d && q_ot D o d && decide (q_kin D P (D 13 o).toNatClampNeg U ≤ q_oin D (D 13 o).toNatClampNeg d o)
section OWC
variable {I : qI} {L : qL} {s : qS} {t t' U S dn R O W : Nat} {D : Nat → Nat → Int32}
theorem rain_eq (hf : qFl s t) (hD : qd I t = D) {d : Nat} (hd : d < 20) : jD 26 [.ref t, .int (w d)] (I, L, s) = some (some (.int (if q_rn D d = true then 1 else 0)), I, L, s) := by
  subst hD
  rw [isRainy_eq hf, q_at_w (by omega) hd]
  unfold q_rn
  by_cases c : qd I t 15 d = 1
  · rw [if_pos c, decide_eq_true c, if_pos rfl]
  · rw [if_neg c, decide_eq_false c, if_neg (by decide)]
theorem out_eq (hf : qFl s t) (hD : qd I t = D) {o d : Nat} (ho : o < 6) : jD 28 [.ref t, .int (w o), .int (w d)] (I, L, s) = some (some (.int (if q_ot D o d = true then 1 else 0)), I, L, s) := by
  subst hD
  rw [isOut_eq hf, q_at_w (by omega) ho]
  unfold q_ot
  by_cases c : (qd I t 14 o >>> (w d &&& 31)) &&& 1 = 1
  · rw [if_pos c, decide_eq_true c, if_pos rfl]
  · rw [if_neg c, decide_eq_false c, if_neg (by decide)]
theorem w_add0 {k : Nat} : w k + 0 = w k := Int32.add_zero _
theorem outIn_eq (hf : qFl s t) (hD : qd I t = D) {a d n : Nat} (hn : n ≤ 6) : jD 35 [.ref t, .int (w a), .int (w d), .int (w n)] (I, L, s) = some (some (.int (w (q_oin D a d n))), I, L, s) := by
  have r13 := fl_k hf (k := 13) (n := 6) (by omega) rfl
  rw [D_35, E_35_0]
  refine (q_loop (F := fun i (k : Nat) => jd 35 1 [some (.ref t), some (.int (w a)), some (.int (w d)), some (.int (w n)), some (.int (w k)), some (.int (w i))] [] (I, L, s)) (n := n) (g := fun o k => k + (if (decide (D 13 o = w a) && q_ot D o d) = true then 1 else 0)) (fun i k hi => ?_) 0).trans ?_
  · have e : I (t + 1 + 2 * 13 + 1) i = D 13 i := by rw [← hD]; rfl
    rw [E_35_1]
    simp only [↓reduceIte, q_i, q_l, q_k, q_r, q_z, q_si, q_sl, jx_lt, jx_ri, jx_rl, jx_rv, if_true, if_false, Nat.reduceLeDiff, Nat.add_one_ne_zero, and_self, true_or, or_true, Nat.reduceEqDiff, or_self, or_false, false_or, hf.1, w_nle hi (by omega), r13.1, r13.2.1, look_eq r13.2, q_at_w (n := 6) (k := i) (by omega) (by omega), e, out_eq hf hD (show i < 6 by omega)]
    by_cases c1 : D 13 i = w a
    · by_cases c2 : q_ot D i d = true
      · simp only [c1, c2, ↓reduceIte, q_i, q_l, q_k, q_r, q_z, q_si, q_sl, jx_lt, jx_ri, jx_rl, jx_rv, if_true, if_false, Nat.reduceLeDiff, Nat.add_one_ne_zero, and_self, true_or, or_true, Nat.reduceEqDiff, or_self, or_false, false_or, show ¬ (1 : Int32) = 0 by decide, E_35_3, w_inc, decide_true, Bool.and_self]
      · simp only [c1, c2, ↓reduceIte, q_i, q_l, q_k, q_r, q_z, q_si, q_sl, jx_lt, jx_ri, jx_rl, jx_rv, if_true, if_false, Nat.reduceLeDiff, Nat.add_one_ne_zero, and_self, true_or, or_true, Nat.reduceEqDiff, or_self, or_false, false_or, E_35_2, E_35_3, w_inc, w_add0, decide_true, Bool.true_and, Bool.false_eq_true, Nat.add_zero]
    · simp only [c1, ↓reduceIte, q_i, q_l, q_k, q_r, q_z, q_si, q_sl, jx_lt, jx_ri, jx_rl, jx_rv, if_true, if_false, Nat.reduceLeDiff, Nat.add_one_ne_zero, and_self, true_or, or_true, Nat.reduceEqDiff, or_self, or_false, false_or, E_35_2, E_35_3, w_inc, w_add0, decide_false, Bool.false_and, Bool.false_eq_true, Nat.add_zero]
  · show jd 35 1 _ _ _ = _
    rw [E_35_1, if_pos (Int32.le_refl _), E_35_4]
    rfl
theorem keptIn_eq (hf : qFl s t) (hD : qd I t = D) {q : Nat} (hP : qPl s q) {P : Nat → Int32} (hPP : I (q + 2) = P) {a : Nat} (hU : D 0 5 = w U) (hU9 : U ≤ 6) : jD 34 [.ref t, .ref q, .int (w a)] (I, L, s) = some (some (.int (w (q_kin D P a U))), I, L, s) := by
  have r4 := fl_k hf (k := 4) (n := 6) (by omega) rfl
  have r6 := fl_k hf (k := 6) (n := 6) (by omega) rfl
  rw [D_34, E_34_0]
  refine (q_loop (F := fun i (k : Nat) => jd 34 1 [some (.ref t), some (.ref q), some (.int (w a)), some (.int (w k)), some (.int (w i)), none] [] (I, L, s)) (n := U) (g := fun u k => k + (if (decide ((P 18 >>> (w u &&& 31)) &&& 1 = 1 ∨ D 4 u = 4) && decide (D 6 u = w a)) = true then 1 else 0)) (fun i k hi => ?_) 0).trans ?_
  · have e4 : I (t + 1 + 2 * 4 + 1) i = D 4 i := by rw [← hD]; rfl
    have e6 : I (t + 1 + 2 * 6 + 1) i = D 6 i := by rw [← hD]; rfl
    have t2 : jd 34 2 [some (.ref t), some (.ref q), some (.int (w a)), some (.int (w k)), some (.int (w i)), none] [] (I, L, s) = jd 34 1 [some (.ref t), some (.ref q), some (.int (w a)), some (.int (w (k + (if decide (D 6 i = w a) = true then 1 else 0)))), some (.int (w (i + 1))), none] [] (I, L, s) := by
      rw [E_34_2, E_34_4]
      simp only [↓reduceIte, q_i, q_l, q_k, q_r, q_z, q_si, q_sl, jx_lt, jx_ri, jx_rl, jx_rv, if_true, if_false, Nat.reduceLeDiff, Nat.add_one_ne_zero, and_self, true_or, or_true, Nat.reduceEqDiff, or_self, or_false, false_or, show ¬ (1 : Int32) = 0 by decide, hf.1, r6.1, r6.2.1, look_eq r6.2, q_at_w (n := 6) (k := i) (by omega) (by omega), e6]
      by_cases c : D 6 i = w a
      · simp only [c, ↓reduceIte, q_i, q_l, q_k, q_r, q_z, q_si, q_sl, jx_lt, jx_ri, jx_rl, jx_rv, if_true, if_false, Nat.reduceLeDiff, Nat.add_one_ne_zero, and_self, true_or, or_true, Nat.reduceEqDiff, or_self, or_false, false_or, E_34_6, w_inc, decide_true]
      · simp only [c, ↓reduceIte, q_i, q_l, q_k, q_r, q_z, q_si, q_sl, jx_lt, jx_ri, jx_rl, jx_rv, if_true, if_false, Nat.reduceLeDiff, Nat.add_one_ne_zero, and_self, true_or, or_true, Nat.reduceEqDiff, or_self, or_false, false_or, E_34_5, E_34_6, w_inc, w_add0, decide_false, Bool.false_eq_true, Nat.add_zero]
    rw [E_34_1]
    simp only [↓reduceIte, q_i, q_l, q_k, q_r, q_z, q_si, q_sl, jx_lt, jx_ri, jx_rl, jx_rv, if_true, if_false, Nat.reduceLeDiff, Nat.add_one_ne_zero, and_self, true_or, or_true, Nat.reduceEqDiff, or_self, or_false, false_or, hf.1, hP.1, umbs_eq hf, hD, hU, w_nle hi (by omega), isKept_eq hP, hPP]
    by_cases c1 : (P 18 >>> (w i &&& 31)) &&& 1 = 1
    · simp only [c1, ↓reduceIte, q_i, q_l, q_k, q_r, q_z, q_si, q_sl, jx_lt, jx_ri, jx_rl, jx_rv, if_true, if_false, Nat.reduceLeDiff, Nat.add_one_ne_zero, and_self, true_or, or_true, Nat.reduceEqDiff, or_self, or_false, false_or, show ¬ (1 : Int32) = 0 by decide, t2, decide_true, Bool.true_and]
    · simp only [c1, ↓reduceIte, q_i, q_l, q_k, q_r, q_z, q_si, q_sl, jx_lt, jx_ri, jx_rl, jx_rv, if_true, if_false, Nat.reduceLeDiff, Nat.add_one_ne_zero, and_self, true_or, or_true, Nat.reduceEqDiff, or_self, or_false, false_or, hf.1, r4.1, r4.2.1, look_eq r4.2, q_at_w (n := 6) (k := i) (by omega) (by omega), e4]
      by_cases c2 : D 4 i = 4
      · simp only [c2, ↓reduceIte, q_i, q_l, q_k, q_r, q_z, q_si, q_sl, jx_lt, jx_ri, jx_rl, jx_rv, if_true, if_false, Nat.reduceLeDiff, Nat.add_one_ne_zero, and_self, true_or, or_true, Nat.reduceEqDiff, or_self, or_false, false_or, t2, decide_true, Bool.true_and]
      · simp only [c2, ↓reduceIte, q_i, q_l, q_k, q_r, q_z, q_si, q_sl, jx_lt, jx_ri, jx_rl, jx_rv, if_true, if_false, Nat.reduceLeDiff, Nat.add_one_ne_zero, and_self, true_or, or_true, Nat.reduceEqDiff, or_self, or_false, false_or, E_34_3, E_34_4, E_34_5, E_34_6, w_inc, w_add0, decide_false, Bool.false_and, Bool.false_eq_true, Nat.add_zero]
  · show jd 34 1 _ _ _ = _
    rw [E_34_1]
    simp only [↓reduceIte, q_i, q_l, q_k, q_r, q_z, q_si, q_sl, jx_lt, jx_ri, jx_rl, jx_rv, if_true, if_false, Nat.reduceLeDiff, Nat.add_one_ne_zero, and_self, true_or, or_true, Nat.reduceEqDiff, or_self, or_false, false_or, hf.1, umbs_eq hf, hD, hU, Int32.le_refl, E_34_7]
    rfl
theorem isWet_eq (hf : qFl s t) (hD : qd I t = D) {q : Nat} (hP : qPl s q) {P : Nat → Int32} (hPP : I (q + 2) = P) (hU : D 0 5 = w U) (hU9 : U ≤ 6) (hX : qXD D U S dn R O W) (hS : S ≤ 8) {o d : Nat} (ho : o < O) (hd : d < 20) : jD 31 [.ref t, .ref q, .int (w o), .int (w d)] (I, L, s) = some (some (.int (if q_wet D P U o d = true then 1 else 0)), I, L, s) := by
  have r13 := fl_k hf (k := 13) (n := 6) (by omega) rfl
  obtain ⟨-, hO9, hha⟩ := hX.2.2.1
  obtain ⟨a, ea, ha⟩ := hha o ho
  have e13 : I (t + 1 + 2 * 13 + 1) o = D 13 o := by rw [← hD]; rfl
  have hk6 : q_kin D P (D 13 o).toNatClampNeg U ≤ U := cnt_le _
  have ho6 : q_oin D (D 13 o).toNatClampNeg d o ≤ o := cnt_le _
  have ew : w (D 13 o).toNatClampNeg = D 13 o := by rw [ea, w_tc (by omega)]
  rw [D_31, E_31_0]
  unfold q_wet
  simp only [↓reduceIte, q_i, q_l, q_k, q_r, q_z, q_si, q_sl, jx_lt, jx_ri, jx_rl, jx_rv, if_true, if_false, Nat.reduceLeDiff, Nat.add_one_ne_zero, and_self, true_or, or_true, Nat.reduceEqDiff, or_self, or_false, false_or, hf.1, rain_eq hf hD hd, out_eq hf hD (show o < 6 by omega)]
  by_cases c1 : q_rn D d = true
  · by_cases c2 : q_ot D o d = true
    · simp only [c1, c2, ↓reduceIte, q_i, q_l, q_k, q_r, q_z, q_si, q_sl, jx_lt, jx_ri, jx_rl, jx_rv, if_true, if_false, Nat.reduceLeDiff, Nat.add_one_ne_zero, and_self, true_or, or_true, Nat.reduceEqDiff, or_self, or_false, false_or, show ¬ (1 : Int32) = 0 by decide, E_31_2, hf.1, r13.1, r13.2.1, look_eq r13.2, q_at_w (n := 6) (k := o) (by omega) (by omega), e13]
      rw [← ew]
      simp only [↓reduceIte, q_i, q_l, q_k, q_r, q_z, q_si, q_sl, jx_lt, jx_ri, jx_rl, jx_rv, if_true, if_false, Nat.reduceLeDiff, Nat.add_one_ne_zero, and_self, true_or, or_true, Nat.reduceEqDiff, or_self, or_false, false_or, outIn_eq hf hD (show o ≤ 6 by omega), keptIn_eq hf hD hP hPP hU hU9]
      have ew2 : (w (D 13 o).toNatClampNeg).toNatClampNeg = (D 13 o).toNatClampNeg := by rw [ew]
      rw [ew2]
      by_cases c3 : q_kin D P (D 13 o).toNatClampNeg U ≤ q_oin D (D 13 o).toNatClampNeg d o
      · rw [if_neg (by rw [w_lt (by omega) (by omega)]; omega), E_31_4, decide_eq_true c3]
        simp only [↓reduceIte, q_i, q_l, q_k, q_r, q_z, q_si, q_sl, jx_lt, jx_ri, jx_rl, jx_rv, if_true, if_false, Nat.reduceLeDiff, Nat.add_one_ne_zero, and_self, true_or, or_true, Nat.reduceEqDiff, or_self, or_false, false_or, Bool.and_self]
      · rw [if_pos (by rw [w_lt (by omega) (by omega)]; omega), E_31_3, E_31_4, decide_eq_false c3]
        simp only [↓reduceIte, q_i, q_l, q_k, q_r, q_z, q_si, q_sl, jx_lt, jx_ri, jx_rl, jx_rv, if_true, if_false, Nat.reduceLeDiff, Nat.add_one_ne_zero, and_self, true_or, or_true, Nat.reduceEqDiff, or_self, or_false, false_or, Bool.and_false, Bool.false_eq_true]
    · simp only [c1, c2, ↓reduceIte, q_i, q_l, q_k, q_r, q_z, q_si, q_sl, jx_lt, jx_ri, jx_rl, jx_rv, if_true, if_false, Nat.reduceLeDiff, Nat.add_one_ne_zero, and_self, true_or, or_true, Nat.reduceEqDiff, or_self, or_false, false_or, show ¬ (1 : Int32) = 0 by decide, E_31_1, Bool.true_and, Bool.false_and, Bool.false_eq_true]
  · simp only [c1, ↓reduceIte, q_i, q_l, q_k, q_r, q_z, q_si, q_sl, jx_lt, jx_ri, jx_rl, jx_rv, if_true, if_false, Nat.reduceLeDiff, Nat.add_one_ne_zero, and_self, true_or, or_true, Nat.reduceEqDiff, or_self, or_false, false_or, E_31_1, Bool.false_and, Bool.false_eq_true]
theorem pinsOf_eq (hf : qFl s t) (hD : qd I t = D) (hdd : D 0 0 = w dn) (hdn : dn ≤ 20) (hO : D 0 8 = w O) (hO9 : O ≤ 6) {a : Nat} : jD 32 [.ref t, .int (w a)] (I, L, s) = some (some (.int (w (q_pin D a dn O))), I, L, s) := by
  rw [D_32, E_32_0]
  refine (q_loopP (F := fun i (k : Nat) => jd 32 1 [some (.ref t), some (.int (w a)), some (.int (w k)), some (.int (w i))] [] (I, L, s)) (n := dn) (g := fun d m => if q_rn D d = true then (if m < q_oin D a d O then q_oin D a d O else m) else m) (P := fun _ m => m ≤ 6) (fun i k hi hk => ⟨?_, ?_⟩) 0 (by omega)).1.trans ?_
  · have ho6 : q_oin D a i O ≤ O := cnt_le _
    show jd 32 1 _ _ _ = jd 32 1 _ _ _
    rw [E_32_1]
    simp only [↓reduceIte, q_i, q_l, q_k, q_r, q_z, q_si, q_sl, jx_lt, jx_ri, jx_rl, jx_rv, if_true, if_false, Nat.reduceLeDiff, Nat.add_one_ne_zero, and_self, true_or, or_true, Nat.reduceEqDiff, or_self, or_false, false_or, hf.1, days_eq hf, hD, hdd, w_nle hi (by omega), rain_eq hf hD (show i < 20 by omega)]
    by_cases c : q_rn D i = true
    · simp only [c, ↓reduceIte, q_i, q_l, q_k, q_r, q_z, q_si, q_sl, jx_lt, jx_ri, jx_rl, jx_rv, if_true, if_false, Nat.reduceLeDiff, Nat.add_one_ne_zero, and_self, true_or, or_true, Nat.reduceEqDiff, or_self, or_false, false_or, show ¬ (1 : Int32) = 0 by decide, owners_eq hf, hD, hO, hf.1, outIn_eq hf hD hO9, E_32_2, w_inc, w_lt (a := k) (b := q_oin D a i O) (by omega) (by omega)]
      by_cases c2 : k < q_oin D a i O
      · rw [if_pos c2, if_pos c2]
      · rw [if_neg c2, if_neg c2]
    · simp only [c, ↓reduceIte, q_i, q_l, q_k, q_r, q_z, q_si, q_sl, jx_lt, jx_ri, jx_rl, jx_rv, if_true, if_false, Nat.reduceLeDiff, Nat.add_one_ne_zero, and_self, true_or, or_true, Nat.reduceEqDiff, or_self, or_false, false_or, E_32_2, w_inc, Bool.false_eq_true]
  · have ho6 : q_oin D a i O ≤ O := cnt_le _
    show (if q_rn D i = true then (if k < q_oin D a i O then q_oin D a i O else k) else k) ≤ 6
    split
    · split <;> omega
    · omega
  · show jd 32 1 _ _ _ = _
    rw [E_32_1]
    simp only [↓reduceIte, q_i, q_l, q_k, q_r, q_z, q_si, q_sl, jx_lt, jx_ri, jx_rl, jx_rv, if_true, if_false, Nat.reduceLeDiff, Nat.add_one_ne_zero, and_self, true_or, or_true, Nat.reduceEqDiff, or_self, or_false, false_or, hf.1, days_eq hf, hD, hdd, Int32.le_refl, E_32_3]
    rfl
theorem atHome_eq (hf : qFl s t) (hD : qd I t = D) (hU : D 0 5 = w U) (hU9 : U ≤ 6) {a : Nat} : jD 33 [.ref t, .int (w a)] (I, L, s) = some (some (.int (w (q_hom D a U))), I, L, s) := by
  have r6 := fl_k hf (k := 6) (n := 6) (by omega) rfl
  rw [D_33, E_33_0]
  refine (q_loop (F := fun i (k : Nat) => jd 33 1 [some (.ref t), some (.int (w a)), some (.int (w k)), some (.int (w i))] [] (I, L, s)) (n := U) (g := fun u k => k + (if decide (D 6 u = w a) = true then 1 else 0)) (fun i k hi => ?_) 0).trans ?_
  · have e6 : I (t + 1 + 2 * 6 + 1) i = D 6 i := by rw [← hD]; rfl
    rw [E_33_1]
    simp only [↓reduceIte, q_i, q_l, q_k, q_r, q_z, q_si, q_sl, jx_lt, jx_ri, jx_rl, jx_rv, if_true, if_false, Nat.reduceLeDiff, Nat.add_one_ne_zero, and_self, true_or, or_true, Nat.reduceEqDiff, or_self, or_false, false_or, hf.1, umbs_eq hf, hD, hU, w_nle hi (by omega), r6.1, r6.2.1, look_eq r6.2, q_at_w (n := 6) (k := i) (by omega) (by omega), e6]
    by_cases c : D 6 i = w a
    · simp only [c, ↓reduceIte, q_i, q_l, q_k, q_r, q_z, q_si, q_sl, jx_lt, jx_ri, jx_rl, jx_rv, if_true, if_false, Nat.reduceLeDiff, Nat.add_one_ne_zero, and_self, true_or, or_true, Nat.reduceEqDiff, or_self, or_false, false_or, E_33_3, w_inc, decide_true]
    · simp only [c, ↓reduceIte, q_i, q_l, q_k, q_r, q_z, q_si, q_sl, jx_lt, jx_ri, jx_rl, jx_rv, if_true, if_false, Nat.reduceLeDiff, Nat.add_one_ne_zero, and_self, true_or, or_true, Nat.reduceEqDiff, or_self, or_false, false_or, E_33_2, E_33_3, w_inc, w_add0, decide_false, Bool.false_eq_true, Nat.add_zero]
  · show jd 33 1 _ _ _ = _
    rw [E_33_1]
    simp only [↓reduceIte, q_i, q_l, q_k, q_r, q_z, q_si, q_sl, jx_lt, jx_ri, jx_rl, jx_rv, if_true, if_false, Nat.reduceLeDiff, Nat.add_one_ne_zero, and_self, true_or, or_true, Nat.reduceEqDiff, or_self, or_false, false_or, hf.1, umbs_eq hf, hD, hU, Int32.le_refl, E_33_4]
    rfl
end OWC
