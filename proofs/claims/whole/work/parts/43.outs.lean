/-! WAYS OUT: the list, the class's going on -/
def q_outs (D : Nat → Nat → Int32) (S : Nat) : Nat → Nat → Nat → Nat → List Nat
  | 0 => fun _ _ _ => []
  | n + 1 => fun a ms p => (List.range S).flatMap fun b => if ms / 2 ^ b % 2 = 0 ∧ ¬ D 2 (8 * a + b) < 0 then (if D 1 b = 2 then [p + (b + 1) * 16 ^ (4 - n)] else []) ++ q_outs D S n b (ms + 2 ^ b) (p + (b + 1) * 16 ^ (4 - n)) else []
def q_br (D : Nat → Nat → Int32) (S n a ms p b : Nat) : List Nat := if ms / 2 ^ b % 2 = 0 ∧ ¬ D 2 (8 * a + b) < 0 then (if D 1 b = 2 then [p + (b + 1) * 16 ^ (4 - n)] else []) ++ q_outs D S n b (ms + 2 ^ b) (p + (b + 1) * 16 ^ (4 - n)) else []
theorem outs_succ {D : Nat → Nat → Int32} {S n a ms p : Nat} : q_outs D S (n + 1) a ms p = (List.range S).flatMap (q_br D S n a ms p) := rfl
theorem fm_succ {f : Nat → List Nat} {n : Nat} : (List.range (n + 1)).flatMap f = (List.range n).flatMap f ++ f n := by
  rw [List.range_succ, List.flatMap_append]
  simp
theorem fm_len {f : Nat → List Nat} {i n : Nat} (h : i ≤ n) : ((List.range i).flatMap f).length ≤ ((List.range n).flatMap f).length := by
  induction n with
  | zero => obtain rfl : i = 0 := by omega
            exact Nat.le_refl _
  | succ n ih =>
    by_cases c : i = n + 1
    · subst c; exact Nat.le_refl _
    · rw [fm_succ, List.length_append]
      have := ih (by omega)
      omega
theorem bit_w0 : ∀ n, n < 256 → ∀ k, k < 8 → ((w n >>> (w k &&& 31)) &&& 1 = 0 ↔ n / 2 ^ k % 2 = 0) := by decide +kernel
/-- the class's rows with X for umbrella u -/
def oM (I : qI) (u : Nat) (X : List Nat) : qI := q_up (q_up I (230 + 1) (fun k => if 300 * u ≤ k ∧ k < 300 * u + X.length then w (X.getD (k - 300 * u) 0) else I (230 + 1) k)) (232 + 1) (q_set (I (232 + 1)) u (w X.length))
section OU
variable {I : qI} {L : qL} {s : qS} {t t' S U u : Nat}
theorem oM_out {X : List Nat} {a : Nat} (h1 : a ≠ 230 + 1) (h2 : a ≠ 232 + 1) : oM I u X a = I a := by rw [oM, q_up_ne h2, q_up_ne h1]
theorem oM_f {X : List Nat} : oM I u X (232 + 1) = q_set (I (232 + 1)) u (w X.length) := by rw [oM, q_up_eq]
theorem oM_r {X : List Nat} : oM I u X (230 + 1) = fun k => if 300 * u ≤ k ∧ k < 300 * u + X.length then w (X.getD (k - 300 * u) 0) else I (230 + 1) k := by rw [oM, q_up_ne (by omega), q_up_eq]
theorem oM_d (hx : qXo s t t') {X : List Nat} : qd (oM I u X) t = qd I t := by
  have := xo_tt hx
  exact qd_same fun a h1 h2 => oM_out (by omega) (by omega)
theorem oM_add {X : List Nat} {c : Nat} : q_up (q_up (oM I u X) (230 + 1) (q_set (oM I u X (230 + 1)) (300 * u + X.length) (w c))) (232 + 1) (q_set (q_set (I (232 + 1)) u (w X.length)) u (w (X.length + 1))) = oM I u (X ++ [c]) := by
  rw [oM_r]
  unfold oM
  funext a
  by_cases h1 : a = 232 + 1
  · subst h1
    rw [q_up_eq, q_up_eq]
    funext j
    unfold q_set
    by_cases h2 : j = u
    · rw [if_pos h2, if_pos h2, List.length_append]; rfl
    · rw [if_neg h2, if_neg h2, if_neg h2]
  · rw [q_up_ne h1, q_up_ne h1]
    by_cases h3 : a = 230 + 1
    · subst h3
      rw [q_up_eq, q_up_eq]
      funext k
      unfold q_set
      rw [List.length_append, List.length_singleton]
      by_cases h4 : k = 300 * u + X.length
      · subst h4
        rw [if_pos rfl, if_pos (by omega), Nat.add_sub_cancel_left, List.getD_eq_getElem?_getD, List.getElem?_append_right (Nat.le_refl _), Nat.sub_self]
        rfl
      · rw [if_neg h4]
        show (if 300 * u ≤ k ∧ k < 300 * u + X.length then _ else _) = _
        by_cases h5 : 300 * u ≤ k ∧ k < 300 * u + X.length
        · rw [if_pos h5, if_pos (by omega), List.getD_eq_getElem?_getD, List.getD_eq_getElem?_getD, List.getElem?_append_left (by omega)]
        · rw [if_neg h5, if_neg (by omega)]
    · rw [q_up_ne h3, q_up_ne h1, q_up_ne h3, q_up_ne h3]
theorem out_add (hx : qXo s t t') (hu : u < 6) {X : List Nat} (hX : X.length < 300) {c : Nat} : jD 101 [.ref 229, .int (w u), .int (w c)] (oM I u X, L, s) = some (none, oM I u (X ++ [c]), L, s) := by
  have a1 : q_at 6 (oM I u X (232 + 1)) (w u) = w X.length := by rw [q_at_w (by omega) hu, oM_f, q_set_eq]
  rw [D_101, E_101_0]
  simp only [E_101_1, ↓reduceIte, q_i, q_l, q_k, q_r, q_z, q_si, q_sl, jx_lt, jx_ri, jx_rl, jx_rv, if_true, if_false, Nat.reduceLeDiff, Nat.add_one_ne_zero, and_self, true_or, or_true, Nat.reduceEqDiff, or_self, or_false, false_or, xo_k hx, xo_r0 hx, xo_r1 hx, xo_r2 hx, xo_r3 hx, xo_r4 hx, xo_r5 hx, xo_r6 hx, xo_r7 hx, xo_r8 hx, xo_r9 hx, xo_r10 hx, xo_r11 hx, xo_ka hx, xo_ra0 hx, xo_ra1 hx, xo_ko hx, xo_ro0 hx, xo_ro1 hx, xo_kf hx, xo_rf0 hx, xo_kh hx, xo_rh0 hx, xo_ke hx, xo_re0 hx, xo_re1 hx, xo_kn hx, xo_zn hx, xo_re2 hx, xo_re3 hx, xo_kt hx, xo_rt0 hx, xo_t0 hx, (xo_ft hx).1, (xo_now hx).1, (xo_now hx).2.1, (xo_now hx).2.2.1, (xo_try hx).1, (xo_yr hx).1.1, (xo_ty hx).1, (xo_routes hx).1, (xo_found hx).1, look_eq (xo_found hx), put_eq (xo_routes hx), put_eq (xo_found hx), a1, show ¬ (300 : Int32) ≤ w X.length by rw [show (300 : Int32) = w 300 from rfl, w_le (by omega) (by omega)]; omega]
  rw [show (300 : Int32) = w 300 from rfl, w_mul, w_add, Nat.mul_comm u 300, q_put_w (by omega) (by omega), w_inc, q_up_ne (by omega), oM_f, q_put_w (by omega) hu, oM_add]

theorem goOn_0 {x1 x2 x3 x4 : Int32} : jD 100 [.ref t, .ref 229, .int x1, .int x2, .int x3, .int x4, .int (w 5)] (I, L, s) = some (none, I, L, s) := by
  rw [D_100, E_100_0, if_neg (by decide)]
theorem goOn_1 (hx : qXo s t t') (hS : qd I t 0 3 = w S) (hS9 : S ≤ 8) (hu : u < 6) {X : List Nat} {a ms p : Nat} (ha : a < 8) (hms : ms < 256) (hp : p < 16 ^ 4) (hX : X.length + (q_outs (qd I t) S 1 a ms p).length ≤ 300) :
    jD 99 [.ref t, .ref 229, .int (w u), .int (w a), .int (w p), .int (w ms), .int (w 4)] (oM I u X, L, s) = some (none, oM I u (X ++ q_outs (qd I t) S 1 a ms p), L, s) := by
  have hf := xo_ft hx
  have r1 := fl_k hf (k := 1) (n := 8) (by omega) rfl
  have hst : ∀ {Z : List Nat}, jD 18 [.ref t] (oM I u Z, L, s) = some (some (.int (w S)), oM I u Z, L, s) := fun {Z} => by rw [stops_eq hf, oM_d hx, hS]
  rw [outs_succ] at hX ⊢
  obtain ⟨J, e, hJ⟩ := q_loopE (P := fun i (J : qI) => J = oM I u (X ++ (List.range i).flatMap (q_br (qd I t) S 0 a ms p))) (F := fun i J => jd 99 2 [some (.ref t), some (.ref 229), some (.int (w u)), some (.int (w a)), some (.int (w p)), some (.int (w ms)), some (.int (w 4)), some (.int (w i)), none] [] (J, L, s)) (n := S) (fun i J hi hJ => by
    refine ⟨_, ?_, rfl⟩
    subst hJ
    show jd 99 2 _ _ _ = jd 99 2 _ _ _
    have hl := fm_len (f := q_br (qd I t) S 0 a ms p) (show i + 1 ≤ S by omega)
    rw [fm_succ, List.length_append] at hl
    rw [fm_succ, ← List.append_assoc]
    have hXl : (X ++ (List.range i).flatMap (q_br (qd I t) S 0 a ms p)).length + (q_br (qd I t) S 0 a ms p i).length ≤ 300 := by rw [List.length_append]; omega
    generalize X ++ (List.range i).flatMap (q_br (qd I t) S 0 a ms p) = Y at hXl
    have hi8 : i < 8 := by omega
    have hq : q_at 64 (qd (oM I u Y) t 2) (w a * 8 + w i) = qd I t 2 (8 * a + i) := by rw [oM_d hx, show (8 : Int32) = w 8 from rfl, w_mul, w_add, q_at_w (by omega) (by omega), Nat.mul_comm]
    have hs1 : oM I u Y (t + 1 + 2 * 1 + 1) i = qd I t 1 i := by
      have h9 : qd (oM I u Y) t 1 = qd I t 1 := by rw [oM_d hx]
      exact congrFun h9 i
    rw [E_99_2]
    simp only [E_99_4, ↓reduceIte, q_i, q_l, q_k, q_r, q_z, q_si, q_sl, jx_lt, jx_ri, jx_rl, jx_rv, if_true, if_false, Nat.reduceLeDiff, Nat.add_one_ne_zero, and_self, true_or, or_true, Nat.reduceEqDiff, or_self, or_false, false_or, xo_k hx, xo_r0 hx, xo_r1 hx, xo_r2 hx, xo_r3 hx, xo_r4 hx, xo_r5 hx, xo_r6 hx, xo_r7 hx, xo_r8 hx, xo_r9 hx, xo_r10 hx, xo_r11 hx, xo_ka hx, xo_ra0 hx, xo_ra1 hx, xo_ko hx, xo_ro0 hx, xo_ro1 hx, xo_kf hx, xo_rf0 hx, xo_kh hx, xo_rh0 hx, xo_ke hx, xo_re0 hx, xo_re1 hx, xo_kn hx, xo_zn hx, xo_re2 hx, xo_re3 hx, xo_kt hx, xo_rt0 hx, xo_t0 hx, (xo_ft hx).1, (xo_now hx).1, (xo_now hx).2.1, (xo_now hx).2.2.1, (xo_try hx).1, (xo_yr hx).1.1, (xo_ty hx).1, hst, w_nle hi (by omega), windOf_eq hf, hq, with_eq, with_w hp (show 4 < 5 by omega) hi8, r1.1, r1.2.1, look_eq r1.2, q_at_w (n := 8) (k := i) (by omega) hi8, hs1, w_inc, bit_w0 ms hms i hi8]
    by_cases c1 : ms / 2 ^ i % 2 = 0
    · by_cases c2 : qd I t 2 (8 * a + i) < 0
      · have e0 : q_br (qd I t) S 0 a ms p i = [] := by unfold q_br; rw [if_neg (fun z => z.2 c2)]
        rw [e0, List.append_nil]
        simp only [c1, c2, ↓reduceIte, q_i, q_l, q_k, q_r, q_z, q_si, q_sl, jx_lt, jx_ri, jx_rl, jx_rv, if_true, if_false, Nat.reduceLeDiff, Nat.add_one_ne_zero, and_self, true_or, or_true, Nat.reduceEqDiff, or_self, or_false, false_or]
      · have e0 : q_br (qd I t) S 0 a ms p i = (if qd I t 1 i = 2 then [p + (i + 1) * 16 ^ 4] else []) ++ q_outs (qd I t) S 0 i (ms + 2 ^ i) (p + (i + 1) * 16 ^ 4) := by unfold q_br; rw [if_pos ⟨c1, c2⟩]
        rw [e0, List.length_append] at hXl
        rw [e0]
        have hms2 : ms + 2 ^ i < 256 := (add_bit hms hi8 hi8 c1).1
        have hp2 : p + (i + 1) * 16 ^ 4 < 16 ^ 5 := by
          have h3 : (i + 1) * 16 ^ 4 ≤ 8 * 16 ^ 4 := Nat.mul_le_mul_right _ (by omega)
          rw [Nat.pow_succ]
          omega
        have tail : ∀ Z : List Nat, Z.length + (q_outs (qd I t) S 0 i (ms + 2 ^ i) (p + (i + 1) * 16 ^ 4)).length ≤ 300 → jd 99 3 [some (.ref t), some (.ref 229), some (.int (w u)), some (.int (w a)), some (.int (w p)), some (.int (w ms)), some (.int (w 4)), some (.int (w i)), some (.int (w (p + (i + 1) * 16 ^ 4)))] [] (oM I u Z, L, s) = jd 99 2 [some (.ref t), some (.ref 229), some (.int (w u)), some (.int (w a)), some (.int (w p)), some (.int (w ms)), some (.int (w 4)), some (.int (w (i + 1))), none] [] (oM I u (Z ++ q_outs (qd I t) S 0 i (ms + 2 ^ i) (p + (i + 1) * 16 ^ 4)), L, s) := by
          intro Z hZ
          rw [E_99_3, or_bit i hi8 ms hms c1, w_inc]
          have hr : jD 100 [.ref t, .ref 229, .int (w u), .int (w i), .int (w (p + (i + 1) * 16 ^ 4)), .int (w (ms + 2 ^ i)), .int (w (4 + 1))] (oM I u Z, L, s) = some (none, oM I u (Z ++ q_outs (qd I t) S 0 i (ms + 2 ^ i) (p + (i + 1) * 16 ^ 4)), L, s) := by
            rw [show q_outs (qd I t) S 0 i (ms + 2 ^ i) (p + (i + 1) * 16 ^ 4) = [] from rfl, List.append_nil]
            exact goOn_0
          simp only [hr, ↓reduceIte, q_i, q_l, q_k, q_r, q_z, q_si, q_sl, jx_lt, jx_ri, jx_rl, jx_rv, if_true, if_false, Nat.reduceLeDiff, Nat.add_one_ne_zero, and_self, true_or, or_true, Nat.reduceEqDiff, or_self, or_false, false_or, E_99_4, w_inc]
        by_cases c3 : qd I t 1 i = 2
        · rw [if_pos c3] at hXl ⊢
          simp only [c1, c2, c3, ↓reduceIte, q_i, q_l, q_k, q_r, q_z, q_si, q_sl, jx_lt, jx_ri, jx_rl, jx_rv, if_true, if_false, Nat.reduceLeDiff, Nat.add_one_ne_zero, and_self, true_or, or_true, Nat.reduceEqDiff, or_self, or_false, false_or]
          have hY : Y.length < 300 := by
            simp only [List.length_singleton] at hXl
            omega
          rw [out_add hx hu hY]
          simp only [↓reduceIte, q_i, q_l, q_k, q_r, q_z, q_si, q_sl, jx_lt, jx_ri, jx_rl, jx_rv, if_true, if_false, Nat.reduceLeDiff, Nat.add_one_ne_zero, and_self, true_or, or_true, Nat.reduceEqDiff, or_self, or_false, false_or]
          rw [tail (Y ++ [p + (i + 1) * 16 ^ 4]) (by rw [List.length_append, List.length_singleton]; simp only [List.length_singleton] at hXl; have := hXl; omega), List.append_assoc]
        · rw [if_neg c3] at hXl ⊢
          simp only [c1, c2, c3, ↓reduceIte, q_i, q_l, q_k, q_r, q_z, q_si, q_sl, jx_lt, jx_ri, jx_rl, jx_rv, if_true, if_false, Nat.reduceLeDiff, Nat.add_one_ne_zero, and_self, true_or, or_true, Nat.reduceEqDiff, or_self, or_false, false_or]
          rw [List.nil_append]
          exact tail Y (by simp only [List.length_nil] at hXl; have := hXl; omega)
    · have e0 : q_br (qd I t) S 0 a ms p i = [] := by unfold q_br; rw [if_neg (fun z => c1 z.1)]
      rw [e0, List.append_nil]
      simp only [c1, ↓reduceIte, q_i, q_l, q_k, q_r, q_z, q_si, q_sl, jx_lt, jx_ri, jx_rl, jx_rv, if_true, if_false, Nat.reduceLeDiff, Nat.add_one_ne_zero, and_self, true_or, or_true, Nat.reduceEqDiff, or_self, or_false, false_or]) (oM I u X) (by show oM I u X = oM I u (X ++ []); rw [List.append_nil])
  rw [D_99, E_99_0, if_pos (by decide), E_99_1]
  refine Eq.trans e ?_
  subst hJ
  show jd 99 2 _ _ _ = _
  rw [E_99_2]
  simp only [E_99_5, ↓reduceIte, q_i, q_l, q_k, q_r, q_z, q_si, q_sl, jx_lt, jx_ri, jx_rl, jx_rv, if_true, if_false, Nat.reduceLeDiff, Nat.add_one_ne_zero, and_self, true_or, or_true, Nat.reduceEqDiff, or_self, or_false, false_or, xo_k hx, xo_r0 hx, xo_r1 hx, xo_r2 hx, xo_r3 hx, xo_r4 hx, xo_r5 hx, xo_r6 hx, xo_r7 hx, xo_r8 hx, xo_r9 hx, xo_r10 hx, xo_r11 hx, xo_ka hx, xo_ra0 hx, xo_ra1 hx, xo_ko hx, xo_ro0 hx, xo_ro1 hx, xo_kf hx, xo_rf0 hx, xo_kh hx, xo_rh0 hx, xo_ke hx, xo_re0 hx, xo_re1 hx, xo_kn hx, xo_zn hx, xo_re2 hx, xo_re3 hx, xo_kt hx, xo_rt0 hx, xo_t0 hx, (xo_ft hx).1, (xo_now hx).1, (xo_now hx).2.1, (xo_now hx).2.2.1, (xo_try hx).1, (xo_yr hx).1.1, (xo_ty hx).1, hst, Int32.le_refl]
theorem goOn_2 (hx : qXo s t t') (hS : qd I t 0 3 = w S) (hS9 : S ≤ 8) (hu : u < 6) {X : List Nat} {a ms p : Nat} (ha : a < 8) (hms : ms < 256) (hp : p < 16 ^ 3) (hX : X.length + (q_outs (qd I t) S 2 a ms p).length ≤ 300) :
    jD 98 [.ref t, .ref 229, .int (w u), .int (w a), .int (w p), .int (w ms), .int (w 3)] (oM I u X, L, s) = some (none, oM I u (X ++ q_outs (qd I t) S 2 a ms p), L, s) := by
  have hf := xo_ft hx
  have r1 := fl_k hf (k := 1) (n := 8) (by omega) rfl
  have hst : ∀ {Z : List Nat}, jD 18 [.ref t] (oM I u Z, L, s) = some (some (.int (w S)), oM I u Z, L, s) := fun {Z} => by rw [stops_eq hf, oM_d hx, hS]
  rw [outs_succ] at hX ⊢
  obtain ⟨J, e, hJ⟩ := q_loopE (P := fun i (J : qI) => J = oM I u (X ++ (List.range i).flatMap (q_br (qd I t) S 1 a ms p))) (F := fun i J => jd 98 2 [some (.ref t), some (.ref 229), some (.int (w u)), some (.int (w a)), some (.int (w p)), some (.int (w ms)), some (.int (w 3)), some (.int (w i)), none] [] (J, L, s)) (n := S) (fun i J hi hJ => by
    refine ⟨_, ?_, rfl⟩
    subst hJ
    show jd 98 2 _ _ _ = jd 98 2 _ _ _
    have hl := fm_len (f := q_br (qd I t) S 1 a ms p) (show i + 1 ≤ S by omega)
    rw [fm_succ, List.length_append] at hl
    rw [fm_succ, ← List.append_assoc]
    have hXl : (X ++ (List.range i).flatMap (q_br (qd I t) S 1 a ms p)).length + (q_br (qd I t) S 1 a ms p i).length ≤ 300 := by rw [List.length_append]; omega
    generalize X ++ (List.range i).flatMap (q_br (qd I t) S 1 a ms p) = Y at hXl
    have hi8 : i < 8 := by omega
    have hq : q_at 64 (qd (oM I u Y) t 2) (w a * 8 + w i) = qd I t 2 (8 * a + i) := by rw [oM_d hx, show (8 : Int32) = w 8 from rfl, w_mul, w_add, q_at_w (by omega) (by omega), Nat.mul_comm]
    have hs1 : oM I u Y (t + 1 + 2 * 1 + 1) i = qd I t 1 i := by
      have h9 : qd (oM I u Y) t 1 = qd I t 1 := by rw [oM_d hx]
      exact congrFun h9 i
    rw [E_98_2]
    simp only [E_98_4, ↓reduceIte, q_i, q_l, q_k, q_r, q_z, q_si, q_sl, jx_lt, jx_ri, jx_rl, jx_rv, if_true, if_false, Nat.reduceLeDiff, Nat.add_one_ne_zero, and_self, true_or, or_true, Nat.reduceEqDiff, or_self, or_false, false_or, xo_k hx, xo_r0 hx, xo_r1 hx, xo_r2 hx, xo_r3 hx, xo_r4 hx, xo_r5 hx, xo_r6 hx, xo_r7 hx, xo_r8 hx, xo_r9 hx, xo_r10 hx, xo_r11 hx, xo_ka hx, xo_ra0 hx, xo_ra1 hx, xo_ko hx, xo_ro0 hx, xo_ro1 hx, xo_kf hx, xo_rf0 hx, xo_kh hx, xo_rh0 hx, xo_ke hx, xo_re0 hx, xo_re1 hx, xo_kn hx, xo_zn hx, xo_re2 hx, xo_re3 hx, xo_kt hx, xo_rt0 hx, xo_t0 hx, (xo_ft hx).1, (xo_now hx).1, (xo_now hx).2.1, (xo_now hx).2.2.1, (xo_try hx).1, (xo_yr hx).1.1, (xo_ty hx).1, hst, w_nle hi (by omega), windOf_eq hf, hq, with_eq, with_w hp (show 3 < 5 by omega) hi8, r1.1, r1.2.1, look_eq r1.2, q_at_w (n := 8) (k := i) (by omega) hi8, hs1, w_inc, bit_w0 ms hms i hi8]
    by_cases c1 : ms / 2 ^ i % 2 = 0
    · by_cases c2 : qd I t 2 (8 * a + i) < 0
      · have e0 : q_br (qd I t) S 1 a ms p i = [] := by unfold q_br; rw [if_neg (fun z => z.2 c2)]
        rw [e0, List.append_nil]
        simp only [c1, c2, ↓reduceIte, q_i, q_l, q_k, q_r, q_z, q_si, q_sl, jx_lt, jx_ri, jx_rl, jx_rv, if_true, if_false, Nat.reduceLeDiff, Nat.add_one_ne_zero, and_self, true_or, or_true, Nat.reduceEqDiff, or_self, or_false, false_or]
      · have e0 : q_br (qd I t) S 1 a ms p i = (if qd I t 1 i = 2 then [p + (i + 1) * 16 ^ 3] else []) ++ q_outs (qd I t) S 1 i (ms + 2 ^ i) (p + (i + 1) * 16 ^ 3) := by unfold q_br; rw [if_pos ⟨c1, c2⟩]
        rw [e0, List.length_append] at hXl
        rw [e0]
        have hms2 : ms + 2 ^ i < 256 := (add_bit hms hi8 hi8 c1).1
        have hp2 : p + (i + 1) * 16 ^ 3 < 16 ^ 4 := by
          have h3 : (i + 1) * 16 ^ 3 ≤ 8 * 16 ^ 3 := Nat.mul_le_mul_right _ (by omega)
          rw [Nat.pow_succ]
          omega
        have tail : ∀ Z : List Nat, Z.length + (q_outs (qd I t) S 1 i (ms + 2 ^ i) (p + (i + 1) * 16 ^ 3)).length ≤ 300 → jd 98 3 [some (.ref t), some (.ref 229), some (.int (w u)), some (.int (w a)), some (.int (w p)), some (.int (w ms)), some (.int (w 3)), some (.int (w i)), some (.int (w (p + (i + 1) * 16 ^ 3)))] [] (oM I u Z, L, s) = jd 98 2 [some (.ref t), some (.ref 229), some (.int (w u)), some (.int (w a)), some (.int (w p)), some (.int (w ms)), some (.int (w 3)), some (.int (w (i + 1))), none] [] (oM I u (Z ++ q_outs (qd I t) S 1 i (ms + 2 ^ i) (p + (i + 1) * 16 ^ 3)), L, s) := by
          intro Z hZ
          rw [E_98_3, or_bit i hi8 ms hms c1, w_inc]
          have hr : jD 99 [.ref t, .ref 229, .int (w u), .int (w i), .int (w (p + (i + 1) * 16 ^ 3)), .int (w (ms + 2 ^ i)), .int (w (3 + 1))] (oM I u Z, L, s) = some (none, oM I u (Z ++ q_outs (qd I t) S 1 i (ms + 2 ^ i) (p + (i + 1) * 16 ^ 3)), L, s) := by
            exact goOn_1 hx hS hS9 hu hi8 hms2 hp2 hZ
          simp only [hr, ↓reduceIte, q_i, q_l, q_k, q_r, q_z, q_si, q_sl, jx_lt, jx_ri, jx_rl, jx_rv, if_true, if_false, Nat.reduceLeDiff, Nat.add_one_ne_zero, and_self, true_or, or_true, Nat.reduceEqDiff, or_self, or_false, false_or, E_98_4, w_inc]
        by_cases c3 : qd I t 1 i = 2
        · rw [if_pos c3] at hXl ⊢
          simp only [c1, c2, c3, ↓reduceIte, q_i, q_l, q_k, q_r, q_z, q_si, q_sl, jx_lt, jx_ri, jx_rl, jx_rv, if_true, if_false, Nat.reduceLeDiff, Nat.add_one_ne_zero, and_self, true_or, or_true, Nat.reduceEqDiff, or_self, or_false, false_or]
          have hY : Y.length < 300 := by
            simp only [List.length_singleton] at hXl
            omega
          rw [out_add hx hu hY]
          simp only [↓reduceIte, q_i, q_l, q_k, q_r, q_z, q_si, q_sl, jx_lt, jx_ri, jx_rl, jx_rv, if_true, if_false, Nat.reduceLeDiff, Nat.add_one_ne_zero, and_self, true_or, or_true, Nat.reduceEqDiff, or_self, or_false, false_or]
          rw [tail (Y ++ [p + (i + 1) * 16 ^ 3]) (by rw [List.length_append, List.length_singleton]; simp only [List.length_singleton] at hXl; have := hXl; omega), List.append_assoc]
        · rw [if_neg c3] at hXl ⊢
          simp only [c1, c2, c3, ↓reduceIte, q_i, q_l, q_k, q_r, q_z, q_si, q_sl, jx_lt, jx_ri, jx_rl, jx_rv, if_true, if_false, Nat.reduceLeDiff, Nat.add_one_ne_zero, and_self, true_or, or_true, Nat.reduceEqDiff, or_self, or_false, false_or]
          rw [List.nil_append]
          exact tail Y (by simp only [List.length_nil] at hXl; have := hXl; omega)
    · have e0 : q_br (qd I t) S 1 a ms p i = [] := by unfold q_br; rw [if_neg (fun z => c1 z.1)]
      rw [e0, List.append_nil]
      simp only [c1, ↓reduceIte, q_i, q_l, q_k, q_r, q_z, q_si, q_sl, jx_lt, jx_ri, jx_rl, jx_rv, if_true, if_false, Nat.reduceLeDiff, Nat.add_one_ne_zero, and_self, true_or, or_true, Nat.reduceEqDiff, or_self, or_false, false_or]) (oM I u X) (by show oM I u X = oM I u (X ++ []); rw [List.append_nil])
  rw [D_98, E_98_0, if_pos (by decide), E_98_1]
  refine Eq.trans e ?_
  subst hJ
  show jd 98 2 _ _ _ = _
  rw [E_98_2]
  simp only [E_98_5, ↓reduceIte, q_i, q_l, q_k, q_r, q_z, q_si, q_sl, jx_lt, jx_ri, jx_rl, jx_rv, if_true, if_false, Nat.reduceLeDiff, Nat.add_one_ne_zero, and_self, true_or, or_true, Nat.reduceEqDiff, or_self, or_false, false_or, xo_k hx, xo_r0 hx, xo_r1 hx, xo_r2 hx, xo_r3 hx, xo_r4 hx, xo_r5 hx, xo_r6 hx, xo_r7 hx, xo_r8 hx, xo_r9 hx, xo_r10 hx, xo_r11 hx, xo_ka hx, xo_ra0 hx, xo_ra1 hx, xo_ko hx, xo_ro0 hx, xo_ro1 hx, xo_kf hx, xo_rf0 hx, xo_kh hx, xo_rh0 hx, xo_ke hx, xo_re0 hx, xo_re1 hx, xo_kn hx, xo_zn hx, xo_re2 hx, xo_re3 hx, xo_kt hx, xo_rt0 hx, xo_t0 hx, (xo_ft hx).1, (xo_now hx).1, (xo_now hx).2.1, (xo_now hx).2.2.1, (xo_try hx).1, (xo_yr hx).1.1, (xo_ty hx).1, hst, Int32.le_refl]
theorem goOn_3 (hx : qXo s t t') (hS : qd I t 0 3 = w S) (hS9 : S ≤ 8) (hu : u < 6) {X : List Nat} {a ms p : Nat} (ha : a < 8) (hms : ms < 256) (hp : p < 16 ^ 2) (hX : X.length + (q_outs (qd I t) S 3 a ms p).length ≤ 300) :
    jD 97 [.ref t, .ref 229, .int (w u), .int (w a), .int (w p), .int (w ms), .int (w 2)] (oM I u X, L, s) = some (none, oM I u (X ++ q_outs (qd I t) S 3 a ms p), L, s) := by
  have hf := xo_ft hx
  have r1 := fl_k hf (k := 1) (n := 8) (by omega) rfl
  have hst : ∀ {Z : List Nat}, jD 18 [.ref t] (oM I u Z, L, s) = some (some (.int (w S)), oM I u Z, L, s) := fun {Z} => by rw [stops_eq hf, oM_d hx, hS]
  rw [outs_succ] at hX ⊢
  obtain ⟨J, e, hJ⟩ := q_loopE (P := fun i (J : qI) => J = oM I u (X ++ (List.range i).flatMap (q_br (qd I t) S 2 a ms p))) (F := fun i J => jd 97 2 [some (.ref t), some (.ref 229), some (.int (w u)), some (.int (w a)), some (.int (w p)), some (.int (w ms)), some (.int (w 2)), some (.int (w i)), none] [] (J, L, s)) (n := S) (fun i J hi hJ => by
    refine ⟨_, ?_, rfl⟩
    subst hJ
    show jd 97 2 _ _ _ = jd 97 2 _ _ _
    have hl := fm_len (f := q_br (qd I t) S 2 a ms p) (show i + 1 ≤ S by omega)
    rw [fm_succ, List.length_append] at hl
    rw [fm_succ, ← List.append_assoc]
    have hXl : (X ++ (List.range i).flatMap (q_br (qd I t) S 2 a ms p)).length + (q_br (qd I t) S 2 a ms p i).length ≤ 300 := by rw [List.length_append]; omega
    generalize X ++ (List.range i).flatMap (q_br (qd I t) S 2 a ms p) = Y at hXl
    have hi8 : i < 8 := by omega
    have hq : q_at 64 (qd (oM I u Y) t 2) (w a * 8 + w i) = qd I t 2 (8 * a + i) := by rw [oM_d hx, show (8 : Int32) = w 8 from rfl, w_mul, w_add, q_at_w (by omega) (by omega), Nat.mul_comm]
    have hs1 : oM I u Y (t + 1 + 2 * 1 + 1) i = qd I t 1 i := by
      have h9 : qd (oM I u Y) t 1 = qd I t 1 := by rw [oM_d hx]
      exact congrFun h9 i
    rw [E_97_2]
    simp only [E_97_4, ↓reduceIte, q_i, q_l, q_k, q_r, q_z, q_si, q_sl, jx_lt, jx_ri, jx_rl, jx_rv, if_true, if_false, Nat.reduceLeDiff, Nat.add_one_ne_zero, and_self, true_or, or_true, Nat.reduceEqDiff, or_self, or_false, false_or, xo_k hx, xo_r0 hx, xo_r1 hx, xo_r2 hx, xo_r3 hx, xo_r4 hx, xo_r5 hx, xo_r6 hx, xo_r7 hx, xo_r8 hx, xo_r9 hx, xo_r10 hx, xo_r11 hx, xo_ka hx, xo_ra0 hx, xo_ra1 hx, xo_ko hx, xo_ro0 hx, xo_ro1 hx, xo_kf hx, xo_rf0 hx, xo_kh hx, xo_rh0 hx, xo_ke hx, xo_re0 hx, xo_re1 hx, xo_kn hx, xo_zn hx, xo_re2 hx, xo_re3 hx, xo_kt hx, xo_rt0 hx, xo_t0 hx, (xo_ft hx).1, (xo_now hx).1, (xo_now hx).2.1, (xo_now hx).2.2.1, (xo_try hx).1, (xo_yr hx).1.1, (xo_ty hx).1, hst, w_nle hi (by omega), windOf_eq hf, hq, with_eq, with_w hp (show 2 < 5 by omega) hi8, r1.1, r1.2.1, look_eq r1.2, q_at_w (n := 8) (k := i) (by omega) hi8, hs1, w_inc, bit_w0 ms hms i hi8]
    by_cases c1 : ms / 2 ^ i % 2 = 0
    · by_cases c2 : qd I t 2 (8 * a + i) < 0
      · have e0 : q_br (qd I t) S 2 a ms p i = [] := by unfold q_br; rw [if_neg (fun z => z.2 c2)]
        rw [e0, List.append_nil]
        simp only [c1, c2, ↓reduceIte, q_i, q_l, q_k, q_r, q_z, q_si, q_sl, jx_lt, jx_ri, jx_rl, jx_rv, if_true, if_false, Nat.reduceLeDiff, Nat.add_one_ne_zero, and_self, true_or, or_true, Nat.reduceEqDiff, or_self, or_false, false_or]
      · have e0 : q_br (qd I t) S 2 a ms p i = (if qd I t 1 i = 2 then [p + (i + 1) * 16 ^ 2] else []) ++ q_outs (qd I t) S 2 i (ms + 2 ^ i) (p + (i + 1) * 16 ^ 2) := by unfold q_br; rw [if_pos ⟨c1, c2⟩]
        rw [e0, List.length_append] at hXl
        rw [e0]
        have hms2 : ms + 2 ^ i < 256 := (add_bit hms hi8 hi8 c1).1
        have hp2 : p + (i + 1) * 16 ^ 2 < 16 ^ 3 := by
          have h3 : (i + 1) * 16 ^ 2 ≤ 8 * 16 ^ 2 := Nat.mul_le_mul_right _ (by omega)
          rw [Nat.pow_succ]
          omega
        have tail : ∀ Z : List Nat, Z.length + (q_outs (qd I t) S 2 i (ms + 2 ^ i) (p + (i + 1) * 16 ^ 2)).length ≤ 300 → jd 97 3 [some (.ref t), some (.ref 229), some (.int (w u)), some (.int (w a)), some (.int (w p)), some (.int (w ms)), some (.int (w 2)), some (.int (w i)), some (.int (w (p + (i + 1) * 16 ^ 2)))] [] (oM I u Z, L, s) = jd 97 2 [some (.ref t), some (.ref 229), some (.int (w u)), some (.int (w a)), some (.int (w p)), some (.int (w ms)), some (.int (w 2)), some (.int (w (i + 1))), none] [] (oM I u (Z ++ q_outs (qd I t) S 2 i (ms + 2 ^ i) (p + (i + 1) * 16 ^ 2)), L, s) := by
          intro Z hZ
          rw [E_97_3, or_bit i hi8 ms hms c1, w_inc]
          have hr : jD 98 [.ref t, .ref 229, .int (w u), .int (w i), .int (w (p + (i + 1) * 16 ^ 2)), .int (w (ms + 2 ^ i)), .int (w (2 + 1))] (oM I u Z, L, s) = some (none, oM I u (Z ++ q_outs (qd I t) S 2 i (ms + 2 ^ i) (p + (i + 1) * 16 ^ 2)), L, s) := by
            exact goOn_2 hx hS hS9 hu hi8 hms2 hp2 hZ
          simp only [hr, ↓reduceIte, q_i, q_l, q_k, q_r, q_z, q_si, q_sl, jx_lt, jx_ri, jx_rl, jx_rv, if_true, if_false, Nat.reduceLeDiff, Nat.add_one_ne_zero, and_self, true_or, or_true, Nat.reduceEqDiff, or_self, or_false, false_or, E_97_4, w_inc]
        by_cases c3 : qd I t 1 i = 2
        · rw [if_pos c3] at hXl ⊢
          simp only [c1, c2, c3, ↓reduceIte, q_i, q_l, q_k, q_r, q_z, q_si, q_sl, jx_lt, jx_ri, jx_rl, jx_rv, if_true, if_false, Nat.reduceLeDiff, Nat.add_one_ne_zero, and_self, true_or, or_true, Nat.reduceEqDiff, or_self, or_false, false_or]
          have hY : Y.length < 300 := by
            simp only [List.length_singleton] at hXl
            omega
          rw [out_add hx hu hY]
          simp only [↓reduceIte, q_i, q_l, q_k, q_r, q_z, q_si, q_sl, jx_lt, jx_ri, jx_rl, jx_rv, if_true, if_false, Nat.reduceLeDiff, Nat.add_one_ne_zero, and_self, true_or, or_true, Nat.reduceEqDiff, or_self, or_false, false_or]
          rw [tail (Y ++ [p + (i + 1) * 16 ^ 2]) (by rw [List.length_append, List.length_singleton]; simp only [List.length_singleton] at hXl; have := hXl; omega), List.append_assoc]
        · rw [if_neg c3] at hXl ⊢
          simp only [c1, c2, c3, ↓reduceIte, q_i, q_l, q_k, q_r, q_z, q_si, q_sl, jx_lt, jx_ri, jx_rl, jx_rv, if_true, if_false, Nat.reduceLeDiff, Nat.add_one_ne_zero, and_self, true_or, or_true, Nat.reduceEqDiff, or_self, or_false, false_or]
          rw [List.nil_append]
          exact tail Y (by simp only [List.length_nil] at hXl; have := hXl; omega)
    · have e0 : q_br (qd I t) S 2 a ms p i = [] := by unfold q_br; rw [if_neg (fun z => c1 z.1)]
      rw [e0, List.append_nil]
      simp only [c1, ↓reduceIte, q_i, q_l, q_k, q_r, q_z, q_si, q_sl, jx_lt, jx_ri, jx_rl, jx_rv, if_true, if_false, Nat.reduceLeDiff, Nat.add_one_ne_zero, and_self, true_or, or_true, Nat.reduceEqDiff, or_self, or_false, false_or]) (oM I u X) (by show oM I u X = oM I u (X ++ []); rw [List.append_nil])
  rw [D_97, E_97_0, if_pos (by decide), E_97_1]
  refine Eq.trans e ?_
  subst hJ
  show jd 97 2 _ _ _ = _
  rw [E_97_2]
  simp only [E_97_5, ↓reduceIte, q_i, q_l, q_k, q_r, q_z, q_si, q_sl, jx_lt, jx_ri, jx_rl, jx_rv, if_true, if_false, Nat.reduceLeDiff, Nat.add_one_ne_zero, and_self, true_or, or_true, Nat.reduceEqDiff, or_self, or_false, false_or, xo_k hx, xo_r0 hx, xo_r1 hx, xo_r2 hx, xo_r3 hx, xo_r4 hx, xo_r5 hx, xo_r6 hx, xo_r7 hx, xo_r8 hx, xo_r9 hx, xo_r10 hx, xo_r11 hx, xo_ka hx, xo_ra0 hx, xo_ra1 hx, xo_ko hx, xo_ro0 hx, xo_ro1 hx, xo_kf hx, xo_rf0 hx, xo_kh hx, xo_rh0 hx, xo_ke hx, xo_re0 hx, xo_re1 hx, xo_kn hx, xo_zn hx, xo_re2 hx, xo_re3 hx, xo_kt hx, xo_rt0 hx, xo_t0 hx, (xo_ft hx).1, (xo_now hx).1, (xo_now hx).2.1, (xo_now hx).2.2.1, (xo_try hx).1, (xo_yr hx).1.1, (xo_ty hx).1, hst, Int32.le_refl]
theorem goOn_4 (hx : qXo s t t') (hS : qd I t 0 3 = w S) (hS9 : S ≤ 8) (hu : u < 6) {X : List Nat} {a ms p : Nat} (ha : a < 8) (hms : ms < 256) (hp : p < 16 ^ 1) (hX : X.length + (q_outs (qd I t) S 4 a ms p).length ≤ 300) :
    jD 96 [.ref t, .ref 229, .int (w u), .int (w a), .int (w p), .int (w ms), .int (w 1)] (oM I u X, L, s) = some (none, oM I u (X ++ q_outs (qd I t) S 4 a ms p), L, s) := by
  have hf := xo_ft hx
  have r1 := fl_k hf (k := 1) (n := 8) (by omega) rfl
  have hst : ∀ {Z : List Nat}, jD 18 [.ref t] (oM I u Z, L, s) = some (some (.int (w S)), oM I u Z, L, s) := fun {Z} => by rw [stops_eq hf, oM_d hx, hS]
  rw [outs_succ] at hX ⊢
  obtain ⟨J, e, hJ⟩ := q_loopE (P := fun i (J : qI) => J = oM I u (X ++ (List.range i).flatMap (q_br (qd I t) S 3 a ms p))) (F := fun i J => jd 96 2 [some (.ref t), some (.ref 229), some (.int (w u)), some (.int (w a)), some (.int (w p)), some (.int (w ms)), some (.int (w 1)), some (.int (w i)), none] [] (J, L, s)) (n := S) (fun i J hi hJ => by
    refine ⟨_, ?_, rfl⟩
    subst hJ
    show jd 96 2 _ _ _ = jd 96 2 _ _ _
    have hl := fm_len (f := q_br (qd I t) S 3 a ms p) (show i + 1 ≤ S by omega)
    rw [fm_succ, List.length_append] at hl
    rw [fm_succ, ← List.append_assoc]
    have hXl : (X ++ (List.range i).flatMap (q_br (qd I t) S 3 a ms p)).length + (q_br (qd I t) S 3 a ms p i).length ≤ 300 := by rw [List.length_append]; omega
    generalize X ++ (List.range i).flatMap (q_br (qd I t) S 3 a ms p) = Y at hXl
    have hi8 : i < 8 := by omega
    have hq : q_at 64 (qd (oM I u Y) t 2) (w a * 8 + w i) = qd I t 2 (8 * a + i) := by rw [oM_d hx, show (8 : Int32) = w 8 from rfl, w_mul, w_add, q_at_w (by omega) (by omega), Nat.mul_comm]
    have hs1 : oM I u Y (t + 1 + 2 * 1 + 1) i = qd I t 1 i := by
      have h9 : qd (oM I u Y) t 1 = qd I t 1 := by rw [oM_d hx]
      exact congrFun h9 i
    rw [E_96_2]
    simp only [E_96_4, ↓reduceIte, q_i, q_l, q_k, q_r, q_z, q_si, q_sl, jx_lt, jx_ri, jx_rl, jx_rv, if_true, if_false, Nat.reduceLeDiff, Nat.add_one_ne_zero, and_self, true_or, or_true, Nat.reduceEqDiff, or_self, or_false, false_or, xo_k hx, xo_r0 hx, xo_r1 hx, xo_r2 hx, xo_r3 hx, xo_r4 hx, xo_r5 hx, xo_r6 hx, xo_r7 hx, xo_r8 hx, xo_r9 hx, xo_r10 hx, xo_r11 hx, xo_ka hx, xo_ra0 hx, xo_ra1 hx, xo_ko hx, xo_ro0 hx, xo_ro1 hx, xo_kf hx, xo_rf0 hx, xo_kh hx, xo_rh0 hx, xo_ke hx, xo_re0 hx, xo_re1 hx, xo_kn hx, xo_zn hx, xo_re2 hx, xo_re3 hx, xo_kt hx, xo_rt0 hx, xo_t0 hx, (xo_ft hx).1, (xo_now hx).1, (xo_now hx).2.1, (xo_now hx).2.2.1, (xo_try hx).1, (xo_yr hx).1.1, (xo_ty hx).1, hst, w_nle hi (by omega), windOf_eq hf, hq, with_eq, with_w hp (show 1 < 5 by omega) hi8, r1.1, r1.2.1, look_eq r1.2, q_at_w (n := 8) (k := i) (by omega) hi8, hs1, w_inc, bit_w0 ms hms i hi8]
    by_cases c1 : ms / 2 ^ i % 2 = 0
    · by_cases c2 : qd I t 2 (8 * a + i) < 0
      · have e0 : q_br (qd I t) S 3 a ms p i = [] := by unfold q_br; rw [if_neg (fun z => z.2 c2)]
        rw [e0, List.append_nil]
        simp only [c1, c2, ↓reduceIte, q_i, q_l, q_k, q_r, q_z, q_si, q_sl, jx_lt, jx_ri, jx_rl, jx_rv, if_true, if_false, Nat.reduceLeDiff, Nat.add_one_ne_zero, and_self, true_or, or_true, Nat.reduceEqDiff, or_self, or_false, false_or]
      · have e0 : q_br (qd I t) S 3 a ms p i = (if qd I t 1 i = 2 then [p + (i + 1) * 16 ^ 1] else []) ++ q_outs (qd I t) S 3 i (ms + 2 ^ i) (p + (i + 1) * 16 ^ 1) := by unfold q_br; rw [if_pos ⟨c1, c2⟩]
        rw [e0, List.length_append] at hXl
        rw [e0]
        have hms2 : ms + 2 ^ i < 256 := (add_bit hms hi8 hi8 c1).1
        have hp2 : p + (i + 1) * 16 ^ 1 < 16 ^ 2 := by
          have h3 : (i + 1) * 16 ^ 1 ≤ 8 * 16 ^ 1 := Nat.mul_le_mul_right _ (by omega)
          rw [Nat.pow_succ]
          omega
        have tail : ∀ Z : List Nat, Z.length + (q_outs (qd I t) S 3 i (ms + 2 ^ i) (p + (i + 1) * 16 ^ 1)).length ≤ 300 → jd 96 3 [some (.ref t), some (.ref 229), some (.int (w u)), some (.int (w a)), some (.int (w p)), some (.int (w ms)), some (.int (w 1)), some (.int (w i)), some (.int (w (p + (i + 1) * 16 ^ 1)))] [] (oM I u Z, L, s) = jd 96 2 [some (.ref t), some (.ref 229), some (.int (w u)), some (.int (w a)), some (.int (w p)), some (.int (w ms)), some (.int (w 1)), some (.int (w (i + 1))), none] [] (oM I u (Z ++ q_outs (qd I t) S 3 i (ms + 2 ^ i) (p + (i + 1) * 16 ^ 1)), L, s) := by
          intro Z hZ
          rw [E_96_3, or_bit i hi8 ms hms c1, w_inc]
          have hr : jD 97 [.ref t, .ref 229, .int (w u), .int (w i), .int (w (p + (i + 1) * 16 ^ 1)), .int (w (ms + 2 ^ i)), .int (w (1 + 1))] (oM I u Z, L, s) = some (none, oM I u (Z ++ q_outs (qd I t) S 3 i (ms + 2 ^ i) (p + (i + 1) * 16 ^ 1)), L, s) := by
            exact goOn_3 hx hS hS9 hu hi8 hms2 hp2 hZ
          simp only [hr, ↓reduceIte, q_i, q_l, q_k, q_r, q_z, q_si, q_sl, jx_lt, jx_ri, jx_rl, jx_rv, if_true, if_false, Nat.reduceLeDiff, Nat.add_one_ne_zero, and_self, true_or, or_true, Nat.reduceEqDiff, or_self, or_false, false_or, E_96_4, w_inc]
        by_cases c3 : qd I t 1 i = 2
        · rw [if_pos c3] at hXl ⊢
          simp only [c1, c2, c3, ↓reduceIte, q_i, q_l, q_k, q_r, q_z, q_si, q_sl, jx_lt, jx_ri, jx_rl, jx_rv, if_true, if_false, Nat.reduceLeDiff, Nat.add_one_ne_zero, and_self, true_or, or_true, Nat.reduceEqDiff, or_self, or_false, false_or]
          have hY : Y.length < 300 := by
            simp only [List.length_singleton] at hXl
            omega
          rw [out_add hx hu hY]
          simp only [↓reduceIte, q_i, q_l, q_k, q_r, q_z, q_si, q_sl, jx_lt, jx_ri, jx_rl, jx_rv, if_true, if_false, Nat.reduceLeDiff, Nat.add_one_ne_zero, and_self, true_or, or_true, Nat.reduceEqDiff, or_self, or_false, false_or]
          rw [tail (Y ++ [p + (i + 1) * 16 ^ 1]) (by rw [List.length_append, List.length_singleton]; simp only [List.length_singleton] at hXl; have := hXl; omega), List.append_assoc]
        · rw [if_neg c3] at hXl ⊢
          simp only [c1, c2, c3, ↓reduceIte, q_i, q_l, q_k, q_r, q_z, q_si, q_sl, jx_lt, jx_ri, jx_rl, jx_rv, if_true, if_false, Nat.reduceLeDiff, Nat.add_one_ne_zero, and_self, true_or, or_true, Nat.reduceEqDiff, or_self, or_false, false_or]
          rw [List.nil_append]
          exact tail Y (by simp only [List.length_nil] at hXl; have := hXl; omega)
    · have e0 : q_br (qd I t) S 3 a ms p i = [] := by unfold q_br; rw [if_neg (fun z => c1 z.1)]
      rw [e0, List.append_nil]
      simp only [c1, ↓reduceIte, q_i, q_l, q_k, q_r, q_z, q_si, q_sl, jx_lt, jx_ri, jx_rl, jx_rv, if_true, if_false, Nat.reduceLeDiff, Nat.add_one_ne_zero, and_self, true_or, or_true, Nat.reduceEqDiff, or_self, or_false, false_or]) (oM I u X) (by show oM I u X = oM I u (X ++ []); rw [List.append_nil])
  rw [D_96, E_96_0, if_pos (by decide), E_96_1]
  refine Eq.trans e ?_
  subst hJ
  show jd 96 2 _ _ _ = _
  rw [E_96_2]
  simp only [E_96_5, ↓reduceIte, q_i, q_l, q_k, q_r, q_z, q_si, q_sl, jx_lt, jx_ri, jx_rl, jx_rv, if_true, if_false, Nat.reduceLeDiff, Nat.add_one_ne_zero, and_self, true_or, or_true, Nat.reduceEqDiff, or_self, or_false, false_or, xo_k hx, xo_r0 hx, xo_r1 hx, xo_r2 hx, xo_r3 hx, xo_r4 hx, xo_r5 hx, xo_r6 hx, xo_r7 hx, xo_r8 hx, xo_r9 hx, xo_r10 hx, xo_r11 hx, xo_ka hx, xo_ra0 hx, xo_ra1 hx, xo_ko hx, xo_ro0 hx, xo_ro1 hx, xo_kf hx, xo_rf0 hx, xo_kh hx, xo_rh0 hx, xo_ke hx, xo_re0 hx, xo_re1 hx, xo_kn hx, xo_zn hx, xo_re2 hx, xo_re3 hx, xo_kt hx, xo_rt0 hx, xo_t0 hx, (xo_ft hx).1, (xo_now hx).1, (xo_now hx).2.1, (xo_now hx).2.2.1, (xo_try hx).1, (xo_yr hx).1.1, (xo_ty hx).1, hst, Int32.le_refl]
theorem goOn_5 (hx : qXo s t t') (hS : qd I t 0 3 = w S) (hS9 : S ≤ 8) (hu : u < 6) {X : List Nat} {a ms p : Nat} (ha : a < 8) (hms : ms < 256) (hp : p < 16 ^ 0) (hX : X.length + (q_outs (qd I t) S 5 a ms p).length ≤ 300) :
    jD 95 [.ref t, .ref 229, .int (w u), .int (w a), .int (w p), .int (w ms), .int (w 0)] (oM I u X, L, s) = some (none, oM I u (X ++ q_outs (qd I t) S 5 a ms p), L, s) := by
  have hf := xo_ft hx
  have r1 := fl_k hf (k := 1) (n := 8) (by omega) rfl
  have hst : ∀ {Z : List Nat}, jD 18 [.ref t] (oM I u Z, L, s) = some (some (.int (w S)), oM I u Z, L, s) := fun {Z} => by rw [stops_eq hf, oM_d hx, hS]
  rw [outs_succ] at hX ⊢
  obtain ⟨J, e, hJ⟩ := q_loopE (P := fun i (J : qI) => J = oM I u (X ++ (List.range i).flatMap (q_br (qd I t) S 4 a ms p))) (F := fun i J => jd 95 2 [some (.ref t), some (.ref 229), some (.int (w u)), some (.int (w a)), some (.int (w p)), some (.int (w ms)), some (.int (w 0)), some (.int (w i)), none] [] (J, L, s)) (n := S) (fun i J hi hJ => by
    refine ⟨_, ?_, rfl⟩
    subst hJ
    show jd 95 2 _ _ _ = jd 95 2 _ _ _
    have hl := fm_len (f := q_br (qd I t) S 4 a ms p) (show i + 1 ≤ S by omega)
    rw [fm_succ, List.length_append] at hl
    rw [fm_succ, ← List.append_assoc]
    have hXl : (X ++ (List.range i).flatMap (q_br (qd I t) S 4 a ms p)).length + (q_br (qd I t) S 4 a ms p i).length ≤ 300 := by rw [List.length_append]; omega
    generalize X ++ (List.range i).flatMap (q_br (qd I t) S 4 a ms p) = Y at hXl
    have hi8 : i < 8 := by omega
    have hq : q_at 64 (qd (oM I u Y) t 2) (w a * 8 + w i) = qd I t 2 (8 * a + i) := by rw [oM_d hx, show (8 : Int32) = w 8 from rfl, w_mul, w_add, q_at_w (by omega) (by omega), Nat.mul_comm]
    have hs1 : oM I u Y (t + 1 + 2 * 1 + 1) i = qd I t 1 i := by
      have h9 : qd (oM I u Y) t 1 = qd I t 1 := by rw [oM_d hx]
      exact congrFun h9 i
    rw [E_95_2]
    simp only [E_95_4, ↓reduceIte, q_i, q_l, q_k, q_r, q_z, q_si, q_sl, jx_lt, jx_ri, jx_rl, jx_rv, if_true, if_false, Nat.reduceLeDiff, Nat.add_one_ne_zero, and_self, true_or, or_true, Nat.reduceEqDiff, or_self, or_false, false_or, xo_k hx, xo_r0 hx, xo_r1 hx, xo_r2 hx, xo_r3 hx, xo_r4 hx, xo_r5 hx, xo_r6 hx, xo_r7 hx, xo_r8 hx, xo_r9 hx, xo_r10 hx, xo_r11 hx, xo_ka hx, xo_ra0 hx, xo_ra1 hx, xo_ko hx, xo_ro0 hx, xo_ro1 hx, xo_kf hx, xo_rf0 hx, xo_kh hx, xo_rh0 hx, xo_ke hx, xo_re0 hx, xo_re1 hx, xo_kn hx, xo_zn hx, xo_re2 hx, xo_re3 hx, xo_kt hx, xo_rt0 hx, xo_t0 hx, (xo_ft hx).1, (xo_now hx).1, (xo_now hx).2.1, (xo_now hx).2.2.1, (xo_try hx).1, (xo_yr hx).1.1, (xo_ty hx).1, hst, w_nle hi (by omega), windOf_eq hf, hq, with_eq, with_w hp (show 0 < 5 by omega) hi8, r1.1, r1.2.1, look_eq r1.2, q_at_w (n := 8) (k := i) (by omega) hi8, hs1, w_inc, bit_w0 ms hms i hi8]
    by_cases c1 : ms / 2 ^ i % 2 = 0
    · by_cases c2 : qd I t 2 (8 * a + i) < 0
      · have e0 : q_br (qd I t) S 4 a ms p i = [] := by unfold q_br; rw [if_neg (fun z => z.2 c2)]
        rw [e0, List.append_nil]
        simp only [c1, c2, ↓reduceIte, q_i, q_l, q_k, q_r, q_z, q_si, q_sl, jx_lt, jx_ri, jx_rl, jx_rv, if_true, if_false, Nat.reduceLeDiff, Nat.add_one_ne_zero, and_self, true_or, or_true, Nat.reduceEqDiff, or_self, or_false, false_or]
      · have e0 : q_br (qd I t) S 4 a ms p i = (if qd I t 1 i = 2 then [p + (i + 1) * 16 ^ 0] else []) ++ q_outs (qd I t) S 4 i (ms + 2 ^ i) (p + (i + 1) * 16 ^ 0) := by unfold q_br; rw [if_pos ⟨c1, c2⟩]
        rw [e0, List.length_append] at hXl
        rw [e0]
        have hms2 : ms + 2 ^ i < 256 := (add_bit hms hi8 hi8 c1).1
        have hp2 : p + (i + 1) * 16 ^ 0 < 16 ^ 1 := by
          have h3 : (i + 1) * 16 ^ 0 ≤ 8 * 16 ^ 0 := Nat.mul_le_mul_right _ (by omega)
          rw [Nat.pow_succ]
          omega
        have tail : ∀ Z : List Nat, Z.length + (q_outs (qd I t) S 4 i (ms + 2 ^ i) (p + (i + 1) * 16 ^ 0)).length ≤ 300 → jd 95 3 [some (.ref t), some (.ref 229), some (.int (w u)), some (.int (w a)), some (.int (w p)), some (.int (w ms)), some (.int (w 0)), some (.int (w i)), some (.int (w (p + (i + 1) * 16 ^ 0)))] [] (oM I u Z, L, s) = jd 95 2 [some (.ref t), some (.ref 229), some (.int (w u)), some (.int (w a)), some (.int (w p)), some (.int (w ms)), some (.int (w 0)), some (.int (w (i + 1))), none] [] (oM I u (Z ++ q_outs (qd I t) S 4 i (ms + 2 ^ i) (p + (i + 1) * 16 ^ 0)), L, s) := by
          intro Z hZ
          rw [E_95_3, or_bit i hi8 ms hms c1, w_inc]
          have hr : jD 96 [.ref t, .ref 229, .int (w u), .int (w i), .int (w (p + (i + 1) * 16 ^ 0)), .int (w (ms + 2 ^ i)), .int (w (0 + 1))] (oM I u Z, L, s) = some (none, oM I u (Z ++ q_outs (qd I t) S 4 i (ms + 2 ^ i) (p + (i + 1) * 16 ^ 0)), L, s) := by
            exact goOn_4 hx hS hS9 hu hi8 hms2 hp2 hZ
          simp only [hr, ↓reduceIte, q_i, q_l, q_k, q_r, q_z, q_si, q_sl, jx_lt, jx_ri, jx_rl, jx_rv, if_true, if_false, Nat.reduceLeDiff, Nat.add_one_ne_zero, and_self, true_or, or_true, Nat.reduceEqDiff, or_self, or_false, false_or, E_95_4, w_inc]
        by_cases c3 : qd I t 1 i = 2
        · rw [if_pos c3] at hXl ⊢
          simp only [c1, c2, c3, ↓reduceIte, q_i, q_l, q_k, q_r, q_z, q_si, q_sl, jx_lt, jx_ri, jx_rl, jx_rv, if_true, if_false, Nat.reduceLeDiff, Nat.add_one_ne_zero, and_self, true_or, or_true, Nat.reduceEqDiff, or_self, or_false, false_or]
          have hY : Y.length < 300 := by
            simp only [List.length_singleton] at hXl
            omega
          rw [out_add hx hu hY]
          simp only [↓reduceIte, q_i, q_l, q_k, q_r, q_z, q_si, q_sl, jx_lt, jx_ri, jx_rl, jx_rv, if_true, if_false, Nat.reduceLeDiff, Nat.add_one_ne_zero, and_self, true_or, or_true, Nat.reduceEqDiff, or_self, or_false, false_or]
          rw [tail (Y ++ [p + (i + 1) * 16 ^ 0]) (by rw [List.length_append, List.length_singleton]; simp only [List.length_singleton] at hXl; have := hXl; omega), List.append_assoc]
        · rw [if_neg c3] at hXl ⊢
          simp only [c1, c2, c3, ↓reduceIte, q_i, q_l, q_k, q_r, q_z, q_si, q_sl, jx_lt, jx_ri, jx_rl, jx_rv, if_true, if_false, Nat.reduceLeDiff, Nat.add_one_ne_zero, and_self, true_or, or_true, Nat.reduceEqDiff, or_self, or_false, false_or]
          rw [List.nil_append]
          exact tail Y (by simp only [List.length_nil] at hXl; have := hXl; omega)
    · have e0 : q_br (qd I t) S 4 a ms p i = [] := by unfold q_br; rw [if_neg (fun z => c1 z.1)]
      rw [e0, List.append_nil]
      simp only [c1, ↓reduceIte, q_i, q_l, q_k, q_r, q_z, q_si, q_sl, jx_lt, jx_ri, jx_rl, jx_rv, if_true, if_false, Nat.reduceLeDiff, Nat.add_one_ne_zero, and_self, true_or, or_true, Nat.reduceEqDiff, or_self, or_false, false_or]) (oM I u X) (by show oM I u X = oM I u (X ++ []); rw [List.append_nil])
  rw [D_95, E_95_0, if_pos (by decide), E_95_1]
  refine Eq.trans e ?_
  subst hJ
  show jd 95 2 _ _ _ = _
  rw [E_95_2]
  simp only [E_95_5, ↓reduceIte, q_i, q_l, q_k, q_r, q_z, q_si, q_sl, jx_lt, jx_ri, jx_rl, jx_rv, if_true, if_false, Nat.reduceLeDiff, Nat.add_one_ne_zero, and_self, true_or, or_true, Nat.reduceEqDiff, or_self, or_false, false_or, xo_k hx, xo_r0 hx, xo_r1 hx, xo_r2 hx, xo_r3 hx, xo_r4 hx, xo_r5 hx, xo_r6 hx, xo_r7 hx, xo_r8 hx, xo_r9 hx, xo_r10 hx, xo_r11 hx, xo_ka hx, xo_ra0 hx, xo_ra1 hx, xo_ko hx, xo_ro0 hx, xo_ro1 hx, xo_kf hx, xo_rf0 hx, xo_kh hx, xo_rh0 hx, xo_ke hx, xo_re0 hx, xo_re1 hx, xo_kn hx, xo_zn hx, xo_re2 hx, xo_re3 hx, xo_kt hx, xo_rt0 hx, xo_t0 hx, (xo_ft hx).1, (xo_now hx).1, (xo_now hx).2.1, (xo_now hx).2.2.1, (xo_try hx).1, (xo_yr hx).1.1, (xo_ty hx).1, hst, Int32.le_refl]
end OU
