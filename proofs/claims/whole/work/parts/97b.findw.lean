/-! WAYS OUT, of a flight that is not yet the one told -/
def qXw (s : qS) (t : Nat) : Prop := (t = 101 ∨ t = 140) ∧ qFl s t ∧ qk s 229 = 9 ∧ qr s 229 0 = 230 ∧ qr s 229 1 = 232 ∧ qRow s 230 1800 ∧ qRow s 232 6
section FIw
variable {I : qI} {L : qL} {s : qS} {t S U u dn : Nat}
theorem oM_dw (hx : qXw s t) {X : List Nat} : qd (oM I u X) t = qd I t := by
  have := hx.1
  exact qd_same fun a h1 h2 => oM_out (by omega) (by omega)
theorem out_addw (hx : qXw s t) (hu : u < 6) {X : List Nat} (hX : X.length < 300) {c : Nat} : jD 101 [.ref 229, .int (w u), .int (w c)] (oM I u X, L, s) = some (none, oM I u (X ++ [c]), L, s) := by
  have a1 : q_at 6 (oM I u X (232 + 1)) (w u) = w X.length := by rw [q_at_w (by omega) hu, oM_f, q_set_eq]
  rw [D_101, E_101_0]
  simp only [E_101_1, ↓reduceIte, q_i, q_l, q_k, q_r, q_z, q_si, q_sl, jx_lt, jx_ri, jx_rl, jx_rv, if_true, if_false, Nat.reduceLeDiff, Nat.add_one_ne_zero, and_self, true_or, or_true, Nat.reduceEqDiff, or_self, or_false, false_or, hx.2.1.1, hx.2.2.1, hx.2.2.2.1, hx.2.2.2.2.1, hx.2.2.2.2.2.1.1, hx.2.2.2.2.2.2.1, look_eq hx.2.2.2.2.2.2, put_eq hx.2.2.2.2.2.1, put_eq hx.2.2.2.2.2.2, a1, show ¬ (300 : Int32) ≤ w X.length by rw [show (300 : Int32) = w 300 from rfl, w_le (by omega) (by omega)]; omega]
  rw [show (300 : Int32) = w 300 from rfl, w_mul, w_add, Nat.mul_comm u 300, q_put_w (by omega) (by omega), w_inc, q_up_ne (by omega), oM_f, q_put_w (by omega) hu, oM_add]

theorem goOn_1w (hx : qXw s t) (hS : qd I t 0 3 = w S) (hS9 : S ≤ 8) (hu : u < 6) {X : List Nat} {a ms p : Nat} (ha : a < 8) (hms : ms < 256) (hp : p < 16 ^ 4) (hX : X.length + (q_outs (qd I t) S 1 a ms p).length ≤ 300) :
    jD 99 [.ref t, .ref 229, .int (w u), .int (w a), .int (w p), .int (w ms), .int (w 4)] (oM I u X, L, s) = some (none, oM I u (X ++ q_outs (qd I t) S 1 a ms p), L, s) := by
  have hf := hx.2.1
  have r1 := fl_k hf (k := 1) (n := 8) (by omega) rfl
  have hst : ∀ {Z : List Nat}, jD 18 [.ref t] (oM I u Z, L, s) = some (some (.int (w S)), oM I u Z, L, s) := fun {Z} => by rw [stops_eq hf, oM_dw hx, hS]
  rw [outs_succ] at hX ⊢
  obtain ⟨J, e, hJ⟩ := q_loopE (P := fun i (J : qI) => J = oM I u (X ++ (List.range i).flatMap (q_br (qd I t) S 0 a ms p))) (F := fun i J => jd 99 2 [some (.ref t), some (.ref 229), some (.int (w u)), some (.int (w a)), some (.int (w p)), some (.int (w ms)), some (.int (w 4)), some (.int (w i)), none] [] (J, L, s)) (n := S) (fun i J hi hJ => by
    refine ⟨_, ?_, rfl⟩
    subst hJ
    show jd 99 2 _ _ _ = jd 99 2 _ _ _
    have hl := fm_len (f := q_br (qd I t) S 0 a ms p) (show i + 1 ≤ S by omega)
    rw [fm_succ, List.length_append] at hl
    rw [fm_succ, ← List.append_assoc]
    have hXl : (X ++ (List.range i).flatMap (q_br (qd I t) S 0 a ms p)).length + (q_br (qd I t) S 0 a ms p i).length ≤ 300 := by rw [List.length_append]; omega
    generalize X ++ (List.range i).flatMap (q_br (qd I t) S 0 a ms p) = Y at hXl
    have hi8 : i < 8 := by omega
    have hq : q_at 64 (qd (oM I u Y) t 2) (w a * 8 + w i) = qd I t 2 (8 * a + i) := by rw [oM_dw hx, show (8 : Int32) = w 8 from rfl, w_mul, w_add, q_at_w (by omega) (by omega), Nat.mul_comm]
    have hs1 : oM I u Y (t + 1 + 2 * 1 + 1) i = qd I t 1 i := by
      have h9 : qd (oM I u Y) t 1 = qd I t 1 := by rw [oM_dw hx]
      exact congrFun h9 i
    rw [E_99_2]
    simp only [E_99_4, ↓reduceIte, q_i, q_l, q_k, q_r, q_z, q_si, q_sl, jx_lt, jx_ri, jx_rl, jx_rv, if_true, if_false, Nat.reduceLeDiff, Nat.add_one_ne_zero, and_self, true_or, or_true, Nat.reduceEqDiff, or_self, or_false, false_or, hx.2.1.1, hx.2.2.1, hx.2.2.2.1, hx.2.2.2.2.1, hst, w_nle hi (by omega), windOf_eq hf, hq, with_eq, with_w hp (show 4 < 5 by omega) hi8, r1.1, r1.2.1, look_eq r1.2, q_at_w (n := 8) (k := i) (by omega) hi8, hs1, w_inc, bit_w0 ms hms i hi8]
    by_cases c1 : ms / 2 ^ i % 2 = 0
    · by_cases c2 : qd I t 2 (8 * a + i) < 0
      · have e0 : q_br (qd I t) S 0 a ms p i = [] := by unfold q_br; rw [if_neg (fun z => z.2 c2)]
        rw [e0, List.append_nil]
        simp only [c1, c2, ↓reduceIte, q_i, q_l, q_k, q_r, q_z, q_si, q_sl, jx_lt, jx_ri, jx_rl, jx_rv, if_true, if_false, Nat.reduceLeDiff, Nat.add_one_ne_zero, and_self, true_or, or_true, Nat.reduceEqDiff, or_self, or_false, false_or]
      · have e0 : q_br (qd I t) S 0 a ms p i = (if qd I t 1 i = 2 then [p + (i + 1) * 16 ^ 4] else []) ++ q_outs (qd I t) S 0 i (ms + 2 ^ i) (p + (i + 1) * 16 ^ 4) := by unfold q_br; rw [if_pos ⟨c1, c2⟩]
        rw [e0, List.length_append] at hXl
        rw [e0]
        have hms2 : ms + 2 ^ i < 256 := (add_bit hms hi8 hi8 c1).1
        have hp2 : p + (i + 1) * 16 ^ 4 < 16 ^ 5 := by
          have h3 : (i + 1) * 16 ^ 4 ≤ 8 * 16 ^ 4 := Nat.mul_le_mul_right _ (by omega)
          rw [Nat.pow_succ]
          omega
        have tail : ∀ Z : List Nat, Z.length + (q_outs (qd I t) S 0 i (ms + 2 ^ i) (p + (i + 1) * 16 ^ 4)).length ≤ 300 → jd 99 3 [some (.ref t), some (.ref 229), some (.int (w u)), some (.int (w a)), some (.int (w p)), some (.int (w ms)), some (.int (w 4)), some (.int (w i)), some (.int (w (p + (i + 1) * 16 ^ 4)))] [] (oM I u Z, L, s) = jd 99 2 [some (.ref t), some (.ref 229), some (.int (w u)), some (.int (w a)), some (.int (w p)), some (.int (w ms)), some (.int (w 4)), some (.int (w (i + 1))), none] [] (oM I u (Z ++ q_outs (qd I t) S 0 i (ms + 2 ^ i) (p + (i + 1) * 16 ^ 4)), L, s) := by
          intro Z hZ
          rw [E_99_3, or_bit i hi8 ms hms c1, w_inc]
          have hr : jD 100 [.ref t, .ref 229, .int (w u), .int (w i), .int (w (p + (i + 1) * 16 ^ 4)), .int (w (ms + 2 ^ i)), .int (w (4 + 1))] (oM I u Z, L, s) = some (none, oM I u (Z ++ q_outs (qd I t) S 0 i (ms + 2 ^ i) (p + (i + 1) * 16 ^ 4)), L, s) := by
            rw [show q_outs (qd I t) S 0 i (ms + 2 ^ i) (p + (i + 1) * 16 ^ 4) = [] from rfl, List.append_nil]
            exact goOn_0
          simp only [hr, ↓reduceIte, q_i, q_l, q_k, q_r, q_z, q_si, q_sl, jx_lt, jx_ri, jx_rl, jx_rv, if_true, if_false, Nat.reduceLeDiff, Nat.add_one_ne_zero, and_self, true_or, or_true, Nat.reduceEqDiff, or_self, or_false, false_or, E_99_4, w_inc]
        by_cases c3 : qd I t 1 i = 2
        · rw [if_pos c3] at hXl ⊢
          simp only [c1, c2, c3, ↓reduceIte, q_i, q_l, q_k, q_r, q_z, q_si, q_sl, jx_lt, jx_ri, jx_rl, jx_rv, if_true, if_false, Nat.reduceLeDiff, Nat.add_one_ne_zero, and_self, true_or, or_true, Nat.reduceEqDiff, or_self, or_false, false_or]
          have hY : Y.length < 300 := by
            simp only [List.length_singleton] at hXl
            omega
          rw [out_addw hx hu hY]
          simp only [↓reduceIte, q_i, q_l, q_k, q_r, q_z, q_si, q_sl, jx_lt, jx_ri, jx_rl, jx_rv, if_true, if_false, Nat.reduceLeDiff, Nat.add_one_ne_zero, and_self, true_or, or_true, Nat.reduceEqDiff, or_self, or_false, false_or]
          rw [tail (Y ++ [p + (i + 1) * 16 ^ 4]) (by rw [List.length_append, List.length_singleton]; simp only [List.length_singleton] at hXl; have := hXl; omega), List.append_assoc]
        · rw [if_neg c3] at hXl ⊢
          simp only [c1, c2, c3, ↓reduceIte, q_i, q_l, q_k, q_r, q_z, q_si, q_sl, jx_lt, jx_ri, jx_rl, jx_rv, if_true, if_false, Nat.reduceLeDiff, Nat.add_one_ne_zero, and_self, true_or, or_true, Nat.reduceEqDiff, or_self, or_false, false_or]
          rw [List.nil_append]
          exact tail Y (by simp only [List.length_nil] at hXl; have := hXl; omega)
    · have e0 : q_br (qd I t) S 0 a ms p i = [] := by unfold q_br; rw [if_neg (fun z => c1 z.1)]
      rw [e0, List.append_nil]
      simp only [c1, ↓reduceIte, q_i, q_l, q_k, q_r, q_z, q_si, q_sl, jx_lt, jx_ri, jx_rl, jx_rv, if_true, if_false, Nat.reduceLeDiff, Nat.add_one_ne_zero, and_self, true_or, or_true, Nat.reduceEqDiff, or_self, or_false, false_or]) (oM I u X) (by show oM I u X = oM I u (X ++ []); rw [List.append_nil])
  rw [D_99, E_99_0, if_pos (by decide), E_99_1]
  refine Eq.trans e ?_
  subst hJ
  show jd 99 2 _ _ _ = _
  rw [E_99_2]
  simp only [E_99_5, ↓reduceIte, q_i, q_l, q_k, q_r, q_z, q_si, q_sl, jx_lt, jx_ri, jx_rl, jx_rv, if_true, if_false, Nat.reduceLeDiff, Nat.add_one_ne_zero, and_self, true_or, or_true, Nat.reduceEqDiff, or_self, or_false, false_or, hx.2.1.1, hx.2.2.1, hx.2.2.2.1, hx.2.2.2.2.1, hst, Int32.le_refl]
theorem goOn_2w (hx : qXw s t) (hS : qd I t 0 3 = w S) (hS9 : S ≤ 8) (hu : u < 6) {X : List Nat} {a ms p : Nat} (ha : a < 8) (hms : ms < 256) (hp : p < 16 ^ 3) (hX : X.length + (q_outs (qd I t) S 2 a ms p).length ≤ 300) :
    jD 98 [.ref t, .ref 229, .int (w u), .int (w a), .int (w p), .int (w ms), .int (w 3)] (oM I u X, L, s) = some (none, oM I u (X ++ q_outs (qd I t) S 2 a ms p), L, s) := by
  have hf := hx.2.1
  have r1 := fl_k hf (k := 1) (n := 8) (by omega) rfl
  have hst : ∀ {Z : List Nat}, jD 18 [.ref t] (oM I u Z, L, s) = some (some (.int (w S)), oM I u Z, L, s) := fun {Z} => by rw [stops_eq hf, oM_dw hx, hS]
  rw [outs_succ] at hX ⊢
  obtain ⟨J, e, hJ⟩ := q_loopE (P := fun i (J : qI) => J = oM I u (X ++ (List.range i).flatMap (q_br (qd I t) S 1 a ms p))) (F := fun i J => jd 98 2 [some (.ref t), some (.ref 229), some (.int (w u)), some (.int (w a)), some (.int (w p)), some (.int (w ms)), some (.int (w 3)), some (.int (w i)), none] [] (J, L, s)) (n := S) (fun i J hi hJ => by
    refine ⟨_, ?_, rfl⟩
    subst hJ
    show jd 98 2 _ _ _ = jd 98 2 _ _ _
    have hl := fm_len (f := q_br (qd I t) S 1 a ms p) (show i + 1 ≤ S by omega)
    rw [fm_succ, List.length_append] at hl
    rw [fm_succ, ← List.append_assoc]
    have hXl : (X ++ (List.range i).flatMap (q_br (qd I t) S 1 a ms p)).length + (q_br (qd I t) S 1 a ms p i).length ≤ 300 := by rw [List.length_append]; omega
    generalize X ++ (List.range i).flatMap (q_br (qd I t) S 1 a ms p) = Y at hXl
    have hi8 : i < 8 := by omega
    have hq : q_at 64 (qd (oM I u Y) t 2) (w a * 8 + w i) = qd I t 2 (8 * a + i) := by rw [oM_dw hx, show (8 : Int32) = w 8 from rfl, w_mul, w_add, q_at_w (by omega) (by omega), Nat.mul_comm]
    have hs1 : oM I u Y (t + 1 + 2 * 1 + 1) i = qd I t 1 i := by
      have h9 : qd (oM I u Y) t 1 = qd I t 1 := by rw [oM_dw hx]
      exact congrFun h9 i
    rw [E_98_2]
    simp only [E_98_4, ↓reduceIte, q_i, q_l, q_k, q_r, q_z, q_si, q_sl, jx_lt, jx_ri, jx_rl, jx_rv, if_true, if_false, Nat.reduceLeDiff, Nat.add_one_ne_zero, and_self, true_or, or_true, Nat.reduceEqDiff, or_self, or_false, false_or, hx.2.1.1, hx.2.2.1, hx.2.2.2.1, hx.2.2.2.2.1, hst, w_nle hi (by omega), windOf_eq hf, hq, with_eq, with_w hp (show 3 < 5 by omega) hi8, r1.1, r1.2.1, look_eq r1.2, q_at_w (n := 8) (k := i) (by omega) hi8, hs1, w_inc, bit_w0 ms hms i hi8]
    by_cases c1 : ms / 2 ^ i % 2 = 0
    · by_cases c2 : qd I t 2 (8 * a + i) < 0
      · have e0 : q_br (qd I t) S 1 a ms p i = [] := by unfold q_br; rw [if_neg (fun z => z.2 c2)]
        rw [e0, List.append_nil]
        simp only [c1, c2, ↓reduceIte, q_i, q_l, q_k, q_r, q_z, q_si, q_sl, jx_lt, jx_ri, jx_rl, jx_rv, if_true, if_false, Nat.reduceLeDiff, Nat.add_one_ne_zero, and_self, true_or, or_true, Nat.reduceEqDiff, or_self, or_false, false_or]
      · have e0 : q_br (qd I t) S 1 a ms p i = (if qd I t 1 i = 2 then [p + (i + 1) * 16 ^ 3] else []) ++ q_outs (qd I t) S 1 i (ms + 2 ^ i) (p + (i + 1) * 16 ^ 3) := by unfold q_br; rw [if_pos ⟨c1, c2⟩]
        rw [e0, List.length_append] at hXl
        rw [e0]
        have hms2 : ms + 2 ^ i < 256 := (add_bit hms hi8 hi8 c1).1
        have hp2 : p + (i + 1) * 16 ^ 3 < 16 ^ 4 := by
          have h3 : (i + 1) * 16 ^ 3 ≤ 8 * 16 ^ 3 := Nat.mul_le_mul_right _ (by omega)
          rw [Nat.pow_succ]
          omega
        have tail : ∀ Z : List Nat, Z.length + (q_outs (qd I t) S 1 i (ms + 2 ^ i) (p + (i + 1) * 16 ^ 3)).length ≤ 300 → jd 98 3 [some (.ref t), some (.ref 229), some (.int (w u)), some (.int (w a)), some (.int (w p)), some (.int (w ms)), some (.int (w 3)), some (.int (w i)), some (.int (w (p + (i + 1) * 16 ^ 3)))] [] (oM I u Z, L, s) = jd 98 2 [some (.ref t), some (.ref 229), some (.int (w u)), some (.int (w a)), some (.int (w p)), some (.int (w ms)), some (.int (w 3)), some (.int (w (i + 1))), none] [] (oM I u (Z ++ q_outs (qd I t) S 1 i (ms + 2 ^ i) (p + (i + 1) * 16 ^ 3)), L, s) := by
          intro Z hZ
          rw [E_98_3, or_bit i hi8 ms hms c1, w_inc]
          have hr : jD 99 [.ref t, .ref 229, .int (w u), .int (w i), .int (w (p + (i + 1) * 16 ^ 3)), .int (w (ms + 2 ^ i)), .int (w (3 + 1))] (oM I u Z, L, s) = some (none, oM I u (Z ++ q_outs (qd I t) S 1 i (ms + 2 ^ i) (p + (i + 1) * 16 ^ 3)), L, s) := by
            exact goOn_1w hx hS hS9 hu hi8 hms2 hp2 hZ
          simp only [hr, ↓reduceIte, q_i, q_l, q_k, q_r, q_z, q_si, q_sl, jx_lt, jx_ri, jx_rl, jx_rv, if_true, if_false, Nat.reduceLeDiff, Nat.add_one_ne_zero, and_self, true_or, or_true, Nat.reduceEqDiff, or_self, or_false, false_or, E_98_4, w_inc]
        by_cases c3 : qd I t 1 i = 2
        · rw [if_pos c3] at hXl ⊢
          simp only [c1, c2, c3, ↓reduceIte, q_i, q_l, q_k, q_r, q_z, q_si, q_sl, jx_lt, jx_ri, jx_rl, jx_rv, if_true, if_false, Nat.reduceLeDiff, Nat.add_one_ne_zero, and_self, true_or, or_true, Nat.reduceEqDiff, or_self, or_false, false_or]
          have hY : Y.length < 300 := by
            simp only [List.length_singleton] at hXl
            omega
          rw [out_addw hx hu hY]
          simp only [↓reduceIte, q_i, q_l, q_k, q_r, q_z, q_si, q_sl, jx_lt, jx_ri, jx_rl, jx_rv, if_true, if_false, Nat.reduceLeDiff, Nat.add_one_ne_zero, and_self, true_or, or_true, Nat.reduceEqDiff, or_self, or_false, false_or]
          rw [tail (Y ++ [p + (i + 1) * 16 ^ 3]) (by rw [List.length_append, List.length_singleton]; simp only [List.length_singleton] at hXl; have := hXl; omega), List.append_assoc]
        · rw [if_neg c3] at hXl ⊢
          simp only [c1, c2, c3, ↓reduceIte, q_i, q_l, q_k, q_r, q_z, q_si, q_sl, jx_lt, jx_ri, jx_rl, jx_rv, if_true, if_false, Nat.reduceLeDiff, Nat.add_one_ne_zero, and_self, true_or, or_true, Nat.reduceEqDiff, or_self, or_false, false_or]
          rw [List.nil_append]
          exact tail Y (by simp only [List.length_nil] at hXl; have := hXl; omega)
    · have e0 : q_br (qd I t) S 1 a ms p i = [] := by unfold q_br; rw [if_neg (fun z => c1 z.1)]
      rw [e0, List.append_nil]
      simp only [c1, ↓reduceIte, q_i, q_l, q_k, q_r, q_z, q_si, q_sl, jx_lt, jx_ri, jx_rl, jx_rv, if_true, if_false, Nat.reduceLeDiff, Nat.add_one_ne_zero, and_self, true_or, or_true, Nat.reduceEqDiff, or_self, or_false, false_or]) (oM I u X) (by show oM I u X = oM I u (X ++ []); rw [List.append_nil])
  rw [D_98, E_98_0, if_pos (by decide), E_98_1]
  refine Eq.trans e ?_
  subst hJ
  show jd 98 2 _ _ _ = _
  rw [E_98_2]
  simp only [E_98_5, ↓reduceIte, q_i, q_l, q_k, q_r, q_z, q_si, q_sl, jx_lt, jx_ri, jx_rl, jx_rv, if_true, if_false, Nat.reduceLeDiff, Nat.add_one_ne_zero, and_self, true_or, or_true, Nat.reduceEqDiff, or_self, or_false, false_or, hx.2.1.1, hx.2.2.1, hx.2.2.2.1, hx.2.2.2.2.1, hst, Int32.le_refl]
theorem goOn_3w (hx : qXw s t) (hS : qd I t 0 3 = w S) (hS9 : S ≤ 8) (hu : u < 6) {X : List Nat} {a ms p : Nat} (ha : a < 8) (hms : ms < 256) (hp : p < 16 ^ 2) (hX : X.length + (q_outs (qd I t) S 3 a ms p).length ≤ 300) :
    jD 97 [.ref t, .ref 229, .int (w u), .int (w a), .int (w p), .int (w ms), .int (w 2)] (oM I u X, L, s) = some (none, oM I u (X ++ q_outs (qd I t) S 3 a ms p), L, s) := by
  have hf := hx.2.1
  have r1 := fl_k hf (k := 1) (n := 8) (by omega) rfl
  have hst : ∀ {Z : List Nat}, jD 18 [.ref t] (oM I u Z, L, s) = some (some (.int (w S)), oM I u Z, L, s) := fun {Z} => by rw [stops_eq hf, oM_dw hx, hS]
  rw [outs_succ] at hX ⊢
  obtain ⟨J, e, hJ⟩ := q_loopE (P := fun i (J : qI) => J = oM I u (X ++ (List.range i).flatMap (q_br (qd I t) S 2 a ms p))) (F := fun i J => jd 97 2 [some (.ref t), some (.ref 229), some (.int (w u)), some (.int (w a)), some (.int (w p)), some (.int (w ms)), some (.int (w 2)), some (.int (w i)), none] [] (J, L, s)) (n := S) (fun i J hi hJ => by
    refine ⟨_, ?_, rfl⟩
    subst hJ
    show jd 97 2 _ _ _ = jd 97 2 _ _ _
    have hl := fm_len (f := q_br (qd I t) S 2 a ms p) (show i + 1 ≤ S by omega)
    rw [fm_succ, List.length_append] at hl
    rw [fm_succ, ← List.append_assoc]
    have hXl : (X ++ (List.range i).flatMap (q_br (qd I t) S 2 a ms p)).length + (q_br (qd I t) S 2 a ms p i).length ≤ 300 := by rw [List.length_append]; omega
    generalize X ++ (List.range i).flatMap (q_br (qd I t) S 2 a ms p) = Y at hXl
    have hi8 : i < 8 := by omega
    have hq : q_at 64 (qd (oM I u Y) t 2) (w a * 8 + w i) = qd I t 2 (8 * a + i) := by rw [oM_dw hx, show (8 : Int32) = w 8 from rfl, w_mul, w_add, q_at_w (by omega) (by omega), Nat.mul_comm]
    have hs1 : oM I u Y (t + 1 + 2 * 1 + 1) i = qd I t 1 i := by
      have h9 : qd (oM I u Y) t 1 = qd I t 1 := by rw [oM_dw hx]
      exact congrFun h9 i
    rw [E_97_2]
    simp only [E_97_4, ↓reduceIte, q_i, q_l, q_k, q_r, q_z, q_si, q_sl, jx_lt, jx_ri, jx_rl, jx_rv, if_true, if_false, Nat.reduceLeDiff, Nat.add_one_ne_zero, and_self, true_or, or_true, Nat.reduceEqDiff, or_self, or_false, false_or, hx.2.1.1, hx.2.2.1, hx.2.2.2.1, hx.2.2.2.2.1, hst, w_nle hi (by omega), windOf_eq hf, hq, with_eq, with_w hp (show 2 < 5 by omega) hi8, r1.1, r1.2.1, look_eq r1.2, q_at_w (n := 8) (k := i) (by omega) hi8, hs1, w_inc, bit_w0 ms hms i hi8]
    by_cases c1 : ms / 2 ^ i % 2 = 0
    · by_cases c2 : qd I t 2 (8 * a + i) < 0
      · have e0 : q_br (qd I t) S 2 a ms p i = [] := by unfold q_br; rw [if_neg (fun z => z.2 c2)]
        rw [e0, List.append_nil]
        simp only [c1, c2, ↓reduceIte, q_i, q_l, q_k, q_r, q_z, q_si, q_sl, jx_lt, jx_ri, jx_rl, jx_rv, if_true, if_false, Nat.reduceLeDiff, Nat.add_one_ne_zero, and_self, true_or, or_true, Nat.reduceEqDiff, or_self, or_false, false_or]
      · have e0 : q_br (qd I t) S 2 a ms p i = (if qd I t 1 i = 2 then [p + (i + 1) * 16 ^ 2] else []) ++ q_outs (qd I t) S 2 i (ms + 2 ^ i) (p + (i + 1) * 16 ^ 2) := by unfold q_br; rw [if_pos ⟨c1, c2⟩]
        rw [e0, List.length_append] at hXl
        rw [e0]
        have hms2 : ms + 2 ^ i < 256 := (add_bit hms hi8 hi8 c1).1
        have hp2 : p + (i + 1) * 16 ^ 2 < 16 ^ 3 := by
          have h3 : (i + 1) * 16 ^ 2 ≤ 8 * 16 ^ 2 := Nat.mul_le_mul_right _ (by omega)
          rw [Nat.pow_succ]
          omega
        have tail : ∀ Z : List Nat, Z.length + (q_outs (qd I t) S 2 i (ms + 2 ^ i) (p + (i + 1) * 16 ^ 2)).length ≤ 300 → jd 97 3 [some (.ref t), some (.ref 229), some (.int (w u)), some (.int (w a)), some (.int (w p)), some (.int (w ms)), some (.int (w 2)), some (.int (w i)), some (.int (w (p + (i + 1) * 16 ^ 2)))] [] (oM I u Z, L, s) = jd 97 2 [some (.ref t), some (.ref 229), some (.int (w u)), some (.int (w a)), some (.int (w p)), some (.int (w ms)), some (.int (w 2)), some (.int (w (i + 1))), none] [] (oM I u (Z ++ q_outs (qd I t) S 2 i (ms + 2 ^ i) (p + (i + 1) * 16 ^ 2)), L, s) := by
          intro Z hZ
          rw [E_97_3, or_bit i hi8 ms hms c1, w_inc]
          have hr : jD 98 [.ref t, .ref 229, .int (w u), .int (w i), .int (w (p + (i + 1) * 16 ^ 2)), .int (w (ms + 2 ^ i)), .int (w (2 + 1))] (oM I u Z, L, s) = some (none, oM I u (Z ++ q_outs (qd I t) S 2 i (ms + 2 ^ i) (p + (i + 1) * 16 ^ 2)), L, s) := by
            exact goOn_2w hx hS hS9 hu hi8 hms2 hp2 hZ
          simp only [hr, ↓reduceIte, q_i, q_l, q_k, q_r, q_z, q_si, q_sl, jx_lt, jx_ri, jx_rl, jx_rv, if_true, if_false, Nat.reduceLeDiff, Nat.add_one_ne_zero, and_self, true_or, or_true, Nat.reduceEqDiff, or_self, or_false, false_or, E_97_4, w_inc]
        by_cases c3 : qd I t 1 i = 2
        · rw [if_pos c3] at hXl ⊢
          simp only [c1, c2, c3, ↓reduceIte, q_i, q_l, q_k, q_r, q_z, q_si, q_sl, jx_lt, jx_ri, jx_rl, jx_rv, if_true, if_false, Nat.reduceLeDiff, Nat.add_one_ne_zero, and_self, true_or, or_true, Nat.reduceEqDiff, or_self, or_false, false_or]
          have hY : Y.length < 300 := by
            simp only [List.length_singleton] at hXl
            omega
          rw [out_addw hx hu hY]
          simp only [↓reduceIte, q_i, q_l, q_k, q_r, q_z, q_si, q_sl, jx_lt, jx_ri, jx_rl, jx_rv, if_true, if_false, Nat.reduceLeDiff, Nat.add_one_ne_zero, and_self, true_or, or_true, Nat.reduceEqDiff, or_self, or_false, false_or]
          rw [tail (Y ++ [p + (i + 1) * 16 ^ 2]) (by rw [List.length_append, List.length_singleton]; simp only [List.length_singleton] at hXl; have := hXl; omega), List.append_assoc]
        · rw [if_neg c3] at hXl ⊢
          simp only [c1, c2, c3, ↓reduceIte, q_i, q_l, q_k, q_r, q_z, q_si, q_sl, jx_lt, jx_ri, jx_rl, jx_rv, if_true, if_false, Nat.reduceLeDiff, Nat.add_one_ne_zero, and_self, true_or, or_true, Nat.reduceEqDiff, or_self, or_false, false_or]
          rw [List.nil_append]
          exact tail Y (by simp only [List.length_nil] at hXl; have := hXl; omega)
    · have e0 : q_br (qd I t) S 2 a ms p i = [] := by unfold q_br; rw [if_neg (fun z => c1 z.1)]
      rw [e0, List.append_nil]
      simp only [c1, ↓reduceIte, q_i, q_l, q_k, q_r, q_z, q_si, q_sl, jx_lt, jx_ri, jx_rl, jx_rv, if_true, if_false, Nat.reduceLeDiff, Nat.add_one_ne_zero, and_self, true_or, or_true, Nat.reduceEqDiff, or_self, or_false, false_or]) (oM I u X) (by show oM I u X = oM I u (X ++ []); rw [List.append_nil])
  rw [D_97, E_97_0, if_pos (by decide), E_97_1]
  refine Eq.trans e ?_
  subst hJ
  show jd 97 2 _ _ _ = _
  rw [E_97_2]
  simp only [E_97_5, ↓reduceIte, q_i, q_l, q_k, q_r, q_z, q_si, q_sl, jx_lt, jx_ri, jx_rl, jx_rv, if_true, if_false, Nat.reduceLeDiff, Nat.add_one_ne_zero, and_self, true_or, or_true, Nat.reduceEqDiff, or_self, or_false, false_or, hx.2.1.1, hx.2.2.1, hx.2.2.2.1, hx.2.2.2.2.1, hst, Int32.le_refl]
theorem goOn_4w (hx : qXw s t) (hS : qd I t 0 3 = w S) (hS9 : S ≤ 8) (hu : u < 6) {X : List Nat} {a ms p : Nat} (ha : a < 8) (hms : ms < 256) (hp : p < 16 ^ 1) (hX : X.length + (q_outs (qd I t) S 4 a ms p).length ≤ 300) :
    jD 96 [.ref t, .ref 229, .int (w u), .int (w a), .int (w p), .int (w ms), .int (w 1)] (oM I u X, L, s) = some (none, oM I u (X ++ q_outs (qd I t) S 4 a ms p), L, s) := by
  have hf := hx.2.1
  have r1 := fl_k hf (k := 1) (n := 8) (by omega) rfl
  have hst : ∀ {Z : List Nat}, jD 18 [.ref t] (oM I u Z, L, s) = some (some (.int (w S)), oM I u Z, L, s) := fun {Z} => by rw [stops_eq hf, oM_dw hx, hS]
  rw [outs_succ] at hX ⊢
  obtain ⟨J, e, hJ⟩ := q_loopE (P := fun i (J : qI) => J = oM I u (X ++ (List.range i).flatMap (q_br (qd I t) S 3 a ms p))) (F := fun i J => jd 96 2 [some (.ref t), some (.ref 229), some (.int (w u)), some (.int (w a)), some (.int (w p)), some (.int (w ms)), some (.int (w 1)), some (.int (w i)), none] [] (J, L, s)) (n := S) (fun i J hi hJ => by
    refine ⟨_, ?_, rfl⟩
    subst hJ
    show jd 96 2 _ _ _ = jd 96 2 _ _ _
    have hl := fm_len (f := q_br (qd I t) S 3 a ms p) (show i + 1 ≤ S by omega)
    rw [fm_succ, List.length_append] at hl
    rw [fm_succ, ← List.append_assoc]
    have hXl : (X ++ (List.range i).flatMap (q_br (qd I t) S 3 a ms p)).length + (q_br (qd I t) S 3 a ms p i).length ≤ 300 := by rw [List.length_append]; omega
    generalize X ++ (List.range i).flatMap (q_br (qd I t) S 3 a ms p) = Y at hXl
    have hi8 : i < 8 := by omega
    have hq : q_at 64 (qd (oM I u Y) t 2) (w a * 8 + w i) = qd I t 2 (8 * a + i) := by rw [oM_dw hx, show (8 : Int32) = w 8 from rfl, w_mul, w_add, q_at_w (by omega) (by omega), Nat.mul_comm]
    have hs1 : oM I u Y (t + 1 + 2 * 1 + 1) i = qd I t 1 i := by
      have h9 : qd (oM I u Y) t 1 = qd I t 1 := by rw [oM_dw hx]
      exact congrFun h9 i
    rw [E_96_2]
    simp only [E_96_4, ↓reduceIte, q_i, q_l, q_k, q_r, q_z, q_si, q_sl, jx_lt, jx_ri, jx_rl, jx_rv, if_true, if_false, Nat.reduceLeDiff, Nat.add_one_ne_zero, and_self, true_or, or_true, Nat.reduceEqDiff, or_self, or_false, false_or, hx.2.1.1, hx.2.2.1, hx.2.2.2.1, hx.2.2.2.2.1, hst, w_nle hi (by omega), windOf_eq hf, hq, with_eq, with_w hp (show 1 < 5 by omega) hi8, r1.1, r1.2.1, look_eq r1.2, q_at_w (n := 8) (k := i) (by omega) hi8, hs1, w_inc, bit_w0 ms hms i hi8]
    by_cases c1 : ms / 2 ^ i % 2 = 0
    · by_cases c2 : qd I t 2 (8 * a + i) < 0
      · have e0 : q_br (qd I t) S 3 a ms p i = [] := by unfold q_br; rw [if_neg (fun z => z.2 c2)]
        rw [e0, List.append_nil]
        simp only [c1, c2, ↓reduceIte, q_i, q_l, q_k, q_r, q_z, q_si, q_sl, jx_lt, jx_ri, jx_rl, jx_rv, if_true, if_false, Nat.reduceLeDiff, Nat.add_one_ne_zero, and_self, true_or, or_true, Nat.reduceEqDiff, or_self, or_false, false_or]
      · have e0 : q_br (qd I t) S 3 a ms p i = (if qd I t 1 i = 2 then [p + (i + 1) * 16 ^ 1] else []) ++ q_outs (qd I t) S 3 i (ms + 2 ^ i) (p + (i + 1) * 16 ^ 1) := by unfold q_br; rw [if_pos ⟨c1, c2⟩]
        rw [e0, List.length_append] at hXl
        rw [e0]
        have hms2 : ms + 2 ^ i < 256 := (add_bit hms hi8 hi8 c1).1
        have hp2 : p + (i + 1) * 16 ^ 1 < 16 ^ 2 := by
          have h3 : (i + 1) * 16 ^ 1 ≤ 8 * 16 ^ 1 := Nat.mul_le_mul_right _ (by omega)
          rw [Nat.pow_succ]
          omega
        have tail : ∀ Z : List Nat, Z.length + (q_outs (qd I t) S 3 i (ms + 2 ^ i) (p + (i + 1) * 16 ^ 1)).length ≤ 300 → jd 96 3 [some (.ref t), some (.ref 229), some (.int (w u)), some (.int (w a)), some (.int (w p)), some (.int (w ms)), some (.int (w 1)), some (.int (w i)), some (.int (w (p + (i + 1) * 16 ^ 1)))] [] (oM I u Z, L, s) = jd 96 2 [some (.ref t), some (.ref 229), some (.int (w u)), some (.int (w a)), some (.int (w p)), some (.int (w ms)), some (.int (w 1)), some (.int (w (i + 1))), none] [] (oM I u (Z ++ q_outs (qd I t) S 3 i (ms + 2 ^ i) (p + (i + 1) * 16 ^ 1)), L, s) := by
          intro Z hZ
          rw [E_96_3, or_bit i hi8 ms hms c1, w_inc]
          have hr : jD 97 [.ref t, .ref 229, .int (w u), .int (w i), .int (w (p + (i + 1) * 16 ^ 1)), .int (w (ms + 2 ^ i)), .int (w (1 + 1))] (oM I u Z, L, s) = some (none, oM I u (Z ++ q_outs (qd I t) S 3 i (ms + 2 ^ i) (p + (i + 1) * 16 ^ 1)), L, s) := by
            exact goOn_3w hx hS hS9 hu hi8 hms2 hp2 hZ
          simp only [hr, ↓reduceIte, q_i, q_l, q_k, q_r, q_z, q_si, q_sl, jx_lt, jx_ri, jx_rl, jx_rv, if_true, if_false, Nat.reduceLeDiff, Nat.add_one_ne_zero, and_self, true_or, or_true, Nat.reduceEqDiff, or_self, or_false, false_or, E_96_4, w_inc]
        by_cases c3 : qd I t 1 i = 2
        · rw [if_pos c3] at hXl ⊢
          simp only [c1, c2, c3, ↓reduceIte, q_i, q_l, q_k, q_r, q_z, q_si, q_sl, jx_lt, jx_ri, jx_rl, jx_rv, if_true, if_false, Nat.reduceLeDiff, Nat.add_one_ne_zero, and_self, true_or, or_true, Nat.reduceEqDiff, or_self, or_false, false_or]
          have hY : Y.length < 300 := by
            simp only [List.length_singleton] at hXl
            omega
          rw [out_addw hx hu hY]
          simp only [↓reduceIte, q_i, q_l, q_k, q_r, q_z, q_si, q_sl, jx_lt, jx_ri, jx_rl, jx_rv, if_true, if_false, Nat.reduceLeDiff, Nat.add_one_ne_zero, and_self, true_or, or_true, Nat.reduceEqDiff, or_self, or_false, false_or]
          rw [tail (Y ++ [p + (i + 1) * 16 ^ 1]) (by rw [List.length_append, List.length_singleton]; simp only [List.length_singleton] at hXl; have := hXl; omega), List.append_assoc]
        · rw [if_neg c3] at hXl ⊢
          simp only [c1, c2, c3, ↓reduceIte, q_i, q_l, q_k, q_r, q_z, q_si, q_sl, jx_lt, jx_ri, jx_rl, jx_rv, if_true, if_false, Nat.reduceLeDiff, Nat.add_one_ne_zero, and_self, true_or, or_true, Nat.reduceEqDiff, or_self, or_false, false_or]
          rw [List.nil_append]
          exact tail Y (by simp only [List.length_nil] at hXl; have := hXl; omega)
    · have e0 : q_br (qd I t) S 3 a ms p i = [] := by unfold q_br; rw [if_neg (fun z => c1 z.1)]
      rw [e0, List.append_nil]
      simp only [c1, ↓reduceIte, q_i, q_l, q_k, q_r, q_z, q_si, q_sl, jx_lt, jx_ri, jx_rl, jx_rv, if_true, if_false, Nat.reduceLeDiff, Nat.add_one_ne_zero, and_self, true_or, or_true, Nat.reduceEqDiff, or_self, or_false, false_or]) (oM I u X) (by show oM I u X = oM I u (X ++ []); rw [List.append_nil])
  rw [D_96, E_96_0, if_pos (by decide), E_96_1]
  refine Eq.trans e ?_
  subst hJ
  show jd 96 2 _ _ _ = _
  rw [E_96_2]
  simp only [E_96_5, ↓reduceIte, q_i, q_l, q_k, q_r, q_z, q_si, q_sl, jx_lt, jx_ri, jx_rl, jx_rv, if_true, if_false, Nat.reduceLeDiff, Nat.add_one_ne_zero, and_self, true_or, or_true, Nat.reduceEqDiff, or_self, or_false, false_or, hx.2.1.1, hx.2.2.1, hx.2.2.2.1, hx.2.2.2.2.1, hst, Int32.le_refl]
theorem goOn_5w (hx : qXw s t) (hS : qd I t 0 3 = w S) (hS9 : S ≤ 8) (hu : u < 6) {X : List Nat} {a ms p : Nat} (ha : a < 8) (hms : ms < 256) (hp : p < 16 ^ 0) (hX : X.length + (q_outs (qd I t) S 5 a ms p).length ≤ 300) :
    jD 95 [.ref t, .ref 229, .int (w u), .int (w a), .int (w p), .int (w ms), .int (w 0)] (oM I u X, L, s) = some (none, oM I u (X ++ q_outs (qd I t) S 5 a ms p), L, s) := by
  have hf := hx.2.1
  have r1 := fl_k hf (k := 1) (n := 8) (by omega) rfl
  have hst : ∀ {Z : List Nat}, jD 18 [.ref t] (oM I u Z, L, s) = some (some (.int (w S)), oM I u Z, L, s) := fun {Z} => by rw [stops_eq hf, oM_dw hx, hS]
  rw [outs_succ] at hX ⊢
  obtain ⟨J, e, hJ⟩ := q_loopE (P := fun i (J : qI) => J = oM I u (X ++ (List.range i).flatMap (q_br (qd I t) S 4 a ms p))) (F := fun i J => jd 95 2 [some (.ref t), some (.ref 229), some (.int (w u)), some (.int (w a)), some (.int (w p)), some (.int (w ms)), some (.int (w 0)), some (.int (w i)), none] [] (J, L, s)) (n := S) (fun i J hi hJ => by
    refine ⟨_, ?_, rfl⟩
    subst hJ
    show jd 95 2 _ _ _ = jd 95 2 _ _ _
    have hl := fm_len (f := q_br (qd I t) S 4 a ms p) (show i + 1 ≤ S by omega)
    rw [fm_succ, List.length_append] at hl
    rw [fm_succ, ← List.append_assoc]
    have hXl : (X ++ (List.range i).flatMap (q_br (qd I t) S 4 a ms p)).length + (q_br (qd I t) S 4 a ms p i).length ≤ 300 := by rw [List.length_append]; omega
    generalize X ++ (List.range i).flatMap (q_br (qd I t) S 4 a ms p) = Y at hXl
    have hi8 : i < 8 := by omega
    have hq : q_at 64 (qd (oM I u Y) t 2) (w a * 8 + w i) = qd I t 2 (8 * a + i) := by rw [oM_dw hx, show (8 : Int32) = w 8 from rfl, w_mul, w_add, q_at_w (by omega) (by omega), Nat.mul_comm]
    have hs1 : oM I u Y (t + 1 + 2 * 1 + 1) i = qd I t 1 i := by
      have h9 : qd (oM I u Y) t 1 = qd I t 1 := by rw [oM_dw hx]
      exact congrFun h9 i
    rw [E_95_2]
    simp only [E_95_4, ↓reduceIte, q_i, q_l, q_k, q_r, q_z, q_si, q_sl, jx_lt, jx_ri, jx_rl, jx_rv, if_true, if_false, Nat.reduceLeDiff, Nat.add_one_ne_zero, and_self, true_or, or_true, Nat.reduceEqDiff, or_self, or_false, false_or, hx.2.1.1, hx.2.2.1, hx.2.2.2.1, hx.2.2.2.2.1, hst, w_nle hi (by omega), windOf_eq hf, hq, with_eq, with_w hp (show 0 < 5 by omega) hi8, r1.1, r1.2.1, look_eq r1.2, q_at_w (n := 8) (k := i) (by omega) hi8, hs1, w_inc, bit_w0 ms hms i hi8]
    by_cases c1 : ms / 2 ^ i % 2 = 0
    · by_cases c2 : qd I t 2 (8 * a + i) < 0
      · have e0 : q_br (qd I t) S 4 a ms p i = [] := by unfold q_br; rw [if_neg (fun z => z.2 c2)]
        rw [e0, List.append_nil]
        simp only [c1, c2, ↓reduceIte, q_i, q_l, q_k, q_r, q_z, q_si, q_sl, jx_lt, jx_ri, jx_rl, jx_rv, if_true, if_false, Nat.reduceLeDiff, Nat.add_one_ne_zero, and_self, true_or, or_true, Nat.reduceEqDiff, or_self, or_false, false_or]
      · have e0 : q_br (qd I t) S 4 a ms p i = (if qd I t 1 i = 2 then [p + (i + 1) * 16 ^ 0] else []) ++ q_outs (qd I t) S 4 i (ms + 2 ^ i) (p + (i + 1) * 16 ^ 0) := by unfold q_br; rw [if_pos ⟨c1, c2⟩]
        rw [e0, List.length_append] at hXl
        rw [e0]
        have hms2 : ms + 2 ^ i < 256 := (add_bit hms hi8 hi8 c1).1
        have hp2 : p + (i + 1) * 16 ^ 0 < 16 ^ 1 := by
          have h3 : (i + 1) * 16 ^ 0 ≤ 8 * 16 ^ 0 := Nat.mul_le_mul_right _ (by omega)
          rw [Nat.pow_succ]
          omega
        have tail : ∀ Z : List Nat, Z.length + (q_outs (qd I t) S 4 i (ms + 2 ^ i) (p + (i + 1) * 16 ^ 0)).length ≤ 300 → jd 95 3 [some (.ref t), some (.ref 229), some (.int (w u)), some (.int (w a)), some (.int (w p)), some (.int (w ms)), some (.int (w 0)), some (.int (w i)), some (.int (w (p + (i + 1) * 16 ^ 0)))] [] (oM I u Z, L, s) = jd 95 2 [some (.ref t), some (.ref 229), some (.int (w u)), some (.int (w a)), some (.int (w p)), some (.int (w ms)), some (.int (w 0)), some (.int (w (i + 1))), none] [] (oM I u (Z ++ q_outs (qd I t) S 4 i (ms + 2 ^ i) (p + (i + 1) * 16 ^ 0)), L, s) := by
          intro Z hZ
          rw [E_95_3, or_bit i hi8 ms hms c1, w_inc]
          have hr : jD 96 [.ref t, .ref 229, .int (w u), .int (w i), .int (w (p + (i + 1) * 16 ^ 0)), .int (w (ms + 2 ^ i)), .int (w (0 + 1))] (oM I u Z, L, s) = some (none, oM I u (Z ++ q_outs (qd I t) S 4 i (ms + 2 ^ i) (p + (i + 1) * 16 ^ 0)), L, s) := by
            exact goOn_4w hx hS hS9 hu hi8 hms2 hp2 hZ
          simp only [hr, ↓reduceIte, q_i, q_l, q_k, q_r, q_z, q_si, q_sl, jx_lt, jx_ri, jx_rl, jx_rv, if_true, if_false, Nat.reduceLeDiff, Nat.add_one_ne_zero, and_self, true_or, or_true, Nat.reduceEqDiff, or_self, or_false, false_or, E_95_4, w_inc]
        by_cases c3 : qd I t 1 i = 2
        · rw [if_pos c3] at hXl ⊢
          simp only [c1, c2, c3, ↓reduceIte, q_i, q_l, q_k, q_r, q_z, q_si, q_sl, jx_lt, jx_ri, jx_rl, jx_rv, if_true, if_false, Nat.reduceLeDiff, Nat.add_one_ne_zero, and_self, true_or, or_true, Nat.reduceEqDiff, or_self, or_false, false_or]
          have hY : Y.length < 300 := by
            simp only [List.length_singleton] at hXl
            omega
          rw [out_addw hx hu hY]
          simp only [↓reduceIte, q_i, q_l, q_k, q_r, q_z, q_si, q_sl, jx_lt, jx_ri, jx_rl, jx_rv, if_true, if_false, Nat.reduceLeDiff, Nat.add_one_ne_zero, and_self, true_or, or_true, Nat.reduceEqDiff, or_self, or_false, false_or]
          rw [tail (Y ++ [p + (i + 1) * 16 ^ 0]) (by rw [List.length_append, List.length_singleton]; simp only [List.length_singleton] at hXl; have := hXl; omega), List.append_assoc]
        · rw [if_neg c3] at hXl ⊢
          simp only [c1, c2, c3, ↓reduceIte, q_i, q_l, q_k, q_r, q_z, q_si, q_sl, jx_lt, jx_ri, jx_rl, jx_rv, if_true, if_false, Nat.reduceLeDiff, Nat.add_one_ne_zero, and_self, true_or, or_true, Nat.reduceEqDiff, or_self, or_false, false_or]
          rw [List.nil_append]
          exact tail Y (by simp only [List.length_nil] at hXl; have := hXl; omega)
    · have e0 : q_br (qd I t) S 4 a ms p i = [] := by unfold q_br; rw [if_neg (fun z => c1 z.1)]
      rw [e0, List.append_nil]
      simp only [c1, ↓reduceIte, q_i, q_l, q_k, q_r, q_z, q_si, q_sl, jx_lt, jx_ri, jx_rl, jx_rv, if_true, if_false, Nat.reduceLeDiff, Nat.add_one_ne_zero, and_self, true_or, or_true, Nat.reduceEqDiff, or_self, or_false, false_or]) (oM I u X) (by show oM I u X = oM I u (X ++ []); rw [List.append_nil])
  rw [D_95, E_95_0, if_pos (by decide), E_95_1]
  refine Eq.trans e ?_
  subst hJ
  show jd 95 2 _ _ _ = _
  rw [E_95_2]
  simp only [E_95_5, ↓reduceIte, q_i, q_l, q_k, q_r, q_z, q_si, q_sl, jx_lt, jx_ri, jx_rl, jx_rv, if_true, if_false, Nat.reduceLeDiff, Nat.add_one_ne_zero, and_self, true_or, or_true, Nat.reduceEqDiff, or_self, or_false, false_or, hx.2.1.1, hx.2.2.1, hx.2.2.2.1, hx.2.2.2.2.1, hst, Int32.le_refl]
theorem find_eqw (hx : qXw s t) (hD : qVD (qd I t) U S dn) (hw : q_sum (q_deg (qd I t) S) S ≤ 14) : ∃ fr ff, jD 92 [.ref 229, .ref t] (I, L, s) = some (none, q_up (q_up I (230 + 1) fr) (232 + 1) ff, L, s) ∧ qOO (q_up (q_up I (230 + 1) fr) (232 + 1) ff) (qd I t) U S := by
  obtain ⟨hU, hU9, hS, hS9, -, -, -, hh⟩ := hD
  have hf := hx.2.1
  have htt := hx.1
  have r6 := fl_k hf (k := 6) (n := 6) (by omega) rfl
  have hsame : ∀ {fr ff : Nat → Int32}, qd (q_up (q_up I (230 + 1) fr) (232 + 1) ff) t = qd I t := fun {fr ff} => qd_same fun a h1 h2 => by rw [q_up_ne (by omega), q_up_ne (by omega)]
  obtain ⟨J, e, fr, ff, rfl, hJ⟩ := q_loopE (P := fun i (J : qI) => ∃ fr ff, J = q_up (q_up I (230 + 1) fr) (232 + 1) ff ∧ (∀ k, i ≤ k → k < 6 → ff k = 0) ∧ ∀ u, u < i → ∀ h, qd I t 6 u = w h → h < S → ff u = w (q_all (qd I t) S h).length ∧ ∀ k, k < (q_all (qd I t) S h).length → fr (300 * u + k) = w ((q_all (qd I t) S h).getD k 0)) (F := fun i J => jd 92 1 [some (.ref 229), some (.ref t), some (.int (w i)), none] [] (J, L, s)) (n := U) (fun i J hi hJ => by
    obtain ⟨fr, ff, rfl, h0, h1⟩ := hJ
    obtain ⟨h, eh, hlt⟩ := hh i hi
    generalize hK : q_up (q_up I (230 + 1) fr) (232 + 1) ff = K
    have hKt : qd K t = qd I t := by rw [← hK]; exact hsame
    have h6 : K (t + 1 + 2 * 6 + 1) i = w h := by
      have : qd K t 6 = qd I t 6 := by rw [hKt]
      exact (congrFun this i).trans eh
    have hlen := all_len (D := qd I t) hS9 hlt hw
    have e0 : oM K i [] = K := by
      funext a
      unfold oM
      by_cases c1 : a = 232 + 1
      · subst c1
        rw [q_up_eq]
        funext j
        unfold q_set
        by_cases c2 : j = i
        · subst c2
          rw [if_pos rfl, ← hK, q_up_eq, h0 j (Nat.le_refl _) (by omega)]; rfl
        · rw [if_neg c2]
      · rw [q_up_ne c1]
        by_cases c3 : a = 230 + 1
        · subst c3
          rw [q_up_eq]
          funext k
          rw [if_neg]
          show ¬ (300 * i ≤ k ∧ k < 300 * i + 0)
          omega
        · rw [q_up_ne c3]
    have hg := goOn_5w (I := K) (L := L) (X := []) (a := h) (ms := 2 ^ h) (p := 0) hx (by rw [hKt]; exact hS) hS9 (show i < 6 by omega) (by omega) (Nat.lt_of_lt_of_le (Nat.pow_lt_pow_right (by omega) (show h < 8 by omega)) (by decide)) (by decide) (by rw [hKt]; show 0 + (q_all (qd I t) S h).length ≤ 300; omega)
    rw [hKt, e0, List.nil_append] at hg
    have hg' : jD 95 [.ref t, .ref 229, .int (w i), .int (w h), .int 0, .int (w (2 ^ h)), .int 0] (K, L, s) = some (none, oM K i (q_all (qd I t) S h), L, s) := hg
    refine ⟨oM K i (q_all (qd I t) S h), ?_, fun k => if 300 * i ≤ k ∧ k < 300 * i + (q_all (qd I t) S h).length then w ((q_all (qd I t) S h).getD (k - 300 * i) 0) else fr k, q_set ff i (w (q_all (qd I t) S h).length), ?_, ?_, ?_⟩
    · show jd 92 1 _ _ _ = _
      rw [E_92_1]
      simp only [↓reduceIte, q_i, q_l, q_k, q_r, q_z, q_si, q_sl, jx_lt, jx_ri, jx_rl, jx_rv, if_true, if_false, Nat.reduceLeDiff, Nat.add_one_ne_zero, and_self, true_or, or_true, Nat.reduceEqDiff, or_self, or_false, false_or, hf.1, umbs_eq hf, hKt, hU, w_nle hi (by omega), r6.1, r6.2.1, look_eq r6.2, q_at_w (n := 6) (k := i) (by omega) (by omega), h6, shl1_w h (by omega), hg', w_inc]
    · subst hK
      unfold oM
      rw [q_up_eq, q_up_ne (by omega), q_up_eq]
      funext a
      by_cases c1 : a = 232 + 1
      · subst c1; rw [q_up_eq, q_up_eq]
      · rw [q_up_ne c1, q_up_ne c1]
        by_cases c2 : a = 230 + 1
        · subst c2; rw [q_up_eq, q_up_eq]
        · rw [q_up_ne c2, q_up_ne c2, q_up_ne c1, q_up_ne c2]
    · intro k hk hk6
      rw [q_set_ne (by omega)]
      exact h0 k (by omega) hk6
    · intro u hu h' eh' hlt'
      by_cases c : u = i
      · subst c
        have : h' = h := by
          have := eh'.symm.trans eh
          rw [w_eq (by omega) (by omega)] at this
          exact this
        subst this
        refine ⟨q_set_eq, fun k hk => ?_⟩
        show (if 300 * u ≤ 300 * u + k ∧ 300 * u + k < 300 * u + (q_all (qd I t) S h').length then _ else _) = _
        rw [if_pos (by omega), Nat.add_sub_cancel_left]
      · obtain ⟨g1, g2⟩ := h1 u (by omega) h' eh' hlt'
        have hl' := all_len (D := qd I t) hS9 hlt' hw
        refine ⟨by rw [q_set_ne c]; exact g1, fun k hk => ?_⟩
        show (if 300 * i ≤ 300 * u + k ∧ 300 * u + k < 300 * i + (q_all (qd I t) S h).length then _ else _) = _
        rw [if_neg (by omega)]
        exact g2 k hk) (q_up (q_up I (230 + 1) (I (230 + 1))) (232 + 1) (fun k => if k < 6 then 0 else I (232 + 1) k)) ⟨I (230 + 1), _, rfl, fun k _ hk => if_pos hk, fun u hu => absurd hu (Nat.not_lt_zero _)⟩
  refine ⟨fr, ff, ?_, fun u hu h eh hlt => ?_⟩
  · rw [D_92, E_92_0]
    simp only [↓reduceIte, q_i, q_l, q_k, q_r, q_z, q_si, q_sl, jx_lt, jx_ri, jx_rl, jx_rv, if_true, if_false, Nat.reduceLeDiff, Nat.add_one_ne_zero, and_self, true_or, or_true, Nat.reduceEqDiff, or_self, or_false, false_or, hx.2.1.1, hx.2.2.1, hx.2.2.2.1, hx.2.2.2.2.1, hx.2.2.2.2.2.2.1, fill_eq hx.2.2.2.2.2.2]
    rw [q_up_self] at e
    refine Eq.trans e ?_
    show jd 92 1 _ _ _ = _
    rw [E_92_1]
    simp only [↓reduceIte, q_i, q_l, q_k, q_r, q_z, q_si, q_sl, jx_lt, jx_ri, jx_rl, jx_rv, if_true, if_false, Nat.reduceLeDiff, Nat.add_one_ne_zero, and_self, true_or, or_true, Nat.reduceEqDiff, or_self, or_false, false_or, hf.1, umbs_eq hf, hsame, hU, Int32.le_refl, E_92_2]
  · obtain ⟨g1, g2⟩ := hJ.2 u hu h eh hlt
    exact ⟨by rw [q_up_eq]; exact g1, fun k hk => by rw [q_up_ne (by omega), q_up_eq]; exact g2 k hk⟩
end FIw
