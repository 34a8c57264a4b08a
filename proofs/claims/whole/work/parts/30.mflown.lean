/-! THE REFERENCE's YEAR: costs, a flight of one -/
def q_any (p : Nat → Bool) : Nat → Bool
  | 0 => false
  | n + 1 => q_any p n || p n
theorem any_iff (p : Nat → Bool) (n : Nat) : q_any p n = true ↔ ∃ v, v < n ∧ p v = true := by
  induction n with
  | zero => exact ⟨(fun h => by cases h), (fun ⟨v, h, _⟩ => absurd h (Nat.not_lt_zero v))⟩
  | succ n ih =>
    show (q_any p n || p n) = true ↔ _
    rw [Bool.or_eq_true, ih]
    constructor
    · rintro (⟨v, h1, h2⟩ | h)
      · exact ⟨v, by omega, h2⟩
      · exact ⟨n, by omega, h⟩
    · rintro ⟨v, h1, h2⟩
      by_cases c : v = n
      · exact Or.inr (c ▸ h2)
      · exact Or.inl ⟨v, by omega, h2⟩
theorem it_any {p : Nat → Bool} {c b : Int32} {n : Nat} : q_it (fun v b => if p v = true then c else b) n b = if q_any p n = true then c else b := by
  induction n with
  | zero => rfl
  | succ n ih =>
    show (if p n = true then c else q_it _ n b) = if (q_any p n || p n) = true then c else b
    rw [ih]
    cases h1 : p n <;> cases h2 : q_any p n <;> rfl
theorem any_ext {p p' : Nat → Bool} {n k : Nat} (hk : k ≤ n) (h : ∀ v, v < k → p v = p' v) (h2 : ∀ v, k ≤ v → v < n → p v = false) : q_any p n = q_any p' k := by
  apply Bool.eq_iff_iff.mpr
  rw [any_iff, any_iff]
  constructor
  · rintro ⟨v, h3, h4⟩
    by_cases c : v < k
    · exact ⟨v, c, by rw [← h v c]; exact h4⟩
    · rw [h2 v (by omega) h3] at h4; cases h4
  · rintro ⟨v, h3, h4⟩
    exact ⟨v, by omega, by rw [h v h3]; exact h4⟩
section MF
variable {J : qI} {L : qL} {s : qS} {m f : Nat} {D : Nat → Nat → Int32} {P : Nat → Int32} {U S dn : Nat}
theorem less_eq {N u : Nat} (hN : N < 64) (hu : u < 6) (hb : N / 2 ^ u % 2 = 1) (hNU : ∀ k, k < 6 → N / 2 ^ k % 2 = 1 → k < U) (hU : U ≤ 6) :
    q_less D (w N &&& (((1 : Int32) <<< (w u &&& 31)) ^^^ (-1))) = if q_any (fun v => decide (¬ v = u ∧ N / 2 ^ v % 2 = 1 ∧ D 4 v = 1)) U = true then 2 else if q_pop N ≤ 1 then 0 else 1 := by
  have hlt : N - 2 ^ u < 64 := Nat.lt_of_le_of_lt (Nat.sub_le _ _) hN
  unfold q_less
  rw [less_one N hN u hu hb]
  have e : q_it (fun v b => if (w (N - 2 ^ u) >>> (w v &&& 31)) &&& 1 = 1 ∧ D 4 v = 1 then 2 else b) 6 (if w (N - 2 ^ u) = 0 then 0 else 1) = q_it (fun v b => if (fun v => decide ((N - 2 ^ u) / 2 ^ v % 2 = 1 ∧ D 4 v = 1)) v = true then 2 else b) 6 (if w (N - 2 ^ u) = 0 then (0 : Int32) else 1) :=
    q_it_congr (fun v b hv => by
      have h1 := bit_w (N - 2 ^ u) (by omega) v (by omega)
      by_cases c : (N - 2 ^ u) / 2 ^ v % 2 = 1 ∧ D 4 v = 1
      · rw [if_pos ⟨h1.mpr c.1, c.2⟩, if_pos (decide_eq_true c)]
      · rw [if_neg (fun z => c ⟨h1.mp z.1, z.2⟩), if_neg (by rw [decide_eq_true_eq]; exact c)]) _
  rw [e, it_any]
  have e2 : q_any (fun v => decide ((N - 2 ^ u) / 2 ^ v % 2 = 1 ∧ D 4 v = 1)) 6 = q_any (fun v => decide (¬ v = u ∧ N / 2 ^ v % 2 = 1 ∧ D 4 v = 1)) U := any_ext hU (fun v hv => by
      have h1 := less_bit hN hu (k := v) (by omega) hb
      apply decide_eq_decide.mpr
      rw [h1, and_assoc]) (fun v h1 h2 => by
      apply decide_eq_false
      rintro ⟨z, -⟩
      have := hNU v h2 ((less_bit hN hu h2 hb).mp z).2
      omega)
  rw [e2]
  have e3 : (w (N - 2 ^ u) = 0) ↔ q_pop N ≤ 1 := by
    rw [show (0 : Int32) = w 0 from rfl, w_eq (by omega) (by omega)]
    exact less_pop N hN u hu hb
  by_cases c : q_pop N ≤ 1
  · rw [if_pos (e3.mpr c), if_pos c]
  · rw [if_neg (fun z => c (e3.mp z)), if_neg c]
theorem mCost_eq (hm : qMF s m f) (hR : qMR J m f D P U S dn) {u a b N : Nat} (hu : u < U) (ha : J (m + 5) u = w a) (ha9 : a < S) (hb : b < S) (hway : ¬ D 2 (8 * a + b) < 0) (hN : N < 64) (hbit : N / 2 ^ u % 2 = 1) (hNU : ∀ k, k < 6 → N / 2 ^ k % 2 = 1 → k < U) :
    jD 241 [.ref m, .int (w u), .int (w b), .int (w N)] (J, L, s) = some (some (.int (q_cost D u (w N &&& (((1 : Int32) <<< (w u &&& 31)) ^^^ (-1))) (D 2 (8 * a + b)))), J, L, s) := by
  obtain ⟨hU5, hU⟩ := mU hR
  have hS := hR.1.2.2.2.1
  have hk : ∀ v, v < U → J (f + 4) v = D 4 v := fun v hv => (hR.2.2.1.2.2.2.2.2 v hv).1
  have hw2 : J (f + 2) (8 * a + b) = D 2 (8 * a + b) := by
    rcases hR.2.2.1.2.2.2.2.1 (8 * a + b) (by omega) with z | z
    · exact absurd z.1 hway
    · exact z.2.1
  rw [D_241, E_241_0]
  obtain ⟨x, e1, hx⟩ := q_loopE (P := fun i (x : Int32) => x = if q_any (fun v => decide (¬ v = u ∧ N / 2 ^ v % 2 = 1 ∧ D 4 v = 1)) i = true then 1 else 0) (F := fun i x => jd 241 1 [some (.ref m), some (.int (w u)), some (.int (w b)), some (.int (w N)), some (.int x), some (.int (w i))] [] (J, L, s)) (n := U) (fun i x hi hx => by
    refine ⟨_, ?_, rfl⟩
    show jd 241 1 _ _ _ = jd 241 1 _ _ _
    subst hx
    rw [E_241_1]
    simp only [q_i, q_l, q_k, q_r, q_z, q_si, q_sl, jx_lt, jx_ri, jx_rl, jx_rv, if_true, if_false, Nat.reduceLeDiff, Nat.add_one_ne_zero, and_self, true_or, or_true, Nat.reduceEqDiff, or_self, or_false, false_or, mo_k hm.1, mo_r5 hm.1, mo_k5 hm.1, mo_z5 hm.1, mo_r16 hm.1, mo_k16 hm.1, mo_z16 hm.1, mo_r17 hm.1, mo_k17 hm.1, mo_z17 hm.1, mo_r18 hm.1, mo_k18 hm.1, mo_z18 hm.1, mo_r21 hm.1, mo_k21 hm.1, mo_z21 hm.1, mo_r22 hm.1, mo_k22 hm.1, mo_z22 hm.1, mo_r23 hm.1, mo_k23 hm.1, mo_z23 hm.1, mo_r24 hm.1, mo_k24 hm.1, mo_z24 hm.1, mo_r25 hm.1, mo_k25 hm.1, mo_z25 hm.1, mo_r26 hm.1, mo_k26 hm.1, mo_z26 hm.1, mo_r27 hm.1, mo_k27 hm.1, mo_z27 hm.1, mo_r29 hm.1, mo_k29 hm.1, mo_z29 hm.1, mo_r30 hm.1, mo_k30 hm.1, mo_z30 hm.1, mo_r31 hm.1, mo_k31 hm.1, mo_z31 hm.1, mo_r32 hm.1, mo_k32 hm.1, mo_z32 hm.1, mo_r40 hm.1, mo_k40 hm.1, mo_z40 hm.1, mo_r43 hm.1, mo_k43 hm.1, mo_z43 hm.1, mo_r44 hm.1, mo_k44 hm.1, mo_z44 hm.1, mf_k hm.2.1, mf_r14 hm.2.1, mf_k14 hm.2.1, mf_z14 hm.2.1, mf_r15 hm.2.1, mf_k15 hm.2.1, mf_z15 hm.2.1, mf_r16 hm.2.1, mf_k16 hm.2.1, mf_z16 hm.2.1, mf_r17 hm.2.1, mf_k17 hm.2.1, mf_z17 hm.2.1, mf_r18 hm.2.1, mf_k18 hm.2.1, mf_z18 hm.2.1, mf_r19 hm.2.1, mf_k19 hm.2.1, mf_z19 hm.2.1, mf_r20 hm.2.1, mf_k20 hm.2.1, mf_z20 hm.2.1, mf_r21 hm.2.1, mf_k21 hm.2.1, mf_z21 hm.2.1, mf_r22 hm.2.1, mf_k22 hm.2.1, mf_z22 hm.2.1, mf_r23 hm.2.1, mf_k23 hm.2.1, mf_z23 hm.2.1, mf_r24 hm.2.1, mf_k24 hm.2.1, mf_z24 hm.2.1, mf_r25 hm.2.1, mf_k25 hm.2.1, mf_z25 hm.2.1, mf_r26 hm.2.1, mf_k26 hm.2.1, mf_z26 hm.2.1, mf_r27 hm.2.1, mf_k27 hm.2.1, mf_z27 hm.2.1, mf_r28 hm.2.1, mf_k28 hm.2.1, mf_z28 hm.2.1, mf_r29 hm.2.1, mf_k29 hm.2.1, mf_z29 hm.2.1, mf_r30 hm.2.1, mf_k30 hm.2.1, mf_z30 hm.2.1, mf_r31 hm.2.1, mf_k31 hm.2.1, mf_z31 hm.2.1, mf_r32 hm.2.1, mf_k32 hm.2.1, mf_z32 hm.2.1, mf_r33 hm.2.1, mf_k33 hm.2.1, mf_z33 hm.2.1, mf_r34 hm.2.1, mf_k34 hm.2.1, mf_z34 hm.2.1, mf_r35 hm.2.1, mf_k35 hm.2.1, mf_z35 hm.2.1, mf_r36 hm.2.1, mf_k36 hm.2.1, mf_z36 hm.2.1, hm.2.2.1, hm.2.2.2, w_nn (a := i) (by omega), show ¬ 6 ≤ i by omega, w_tc (a := i) (by omega), hU5, E_241_2, E_241_3, E_241_4, w_inc, bit_eq, hk i hi, w_eq (a := i) (b := u) (by omega) (by omega)]
    rw [if_neg (by rw [w_le (by omega) (by omega)]; omega)]
    have hstep : q_any (fun v => decide (¬ v = u ∧ N / 2 ^ v % 2 = 1 ∧ D 4 v = 1)) (i + 1) = (q_any (fun v => decide (¬ v = u ∧ N / 2 ^ v % 2 = 1 ∧ D 4 v = 1)) i || decide (¬ i = u ∧ N / 2 ^ i % 2 = 1 ∧ D 4 i = 1)) := rfl
    rw [hstep]
    have hbw := bit_w N (by omega) i (by omega)
    cases hq : q_any (fun v => decide (¬ v = u ∧ N / 2 ^ v % 2 = 1 ∧ D 4 v = 1)) i
    · simp only [Bool.false_or, decide_eq_true_eq, Bool.false_eq_true, if_false, if_true]
      by_cases c1 : i = u
      · simp only [c1, if_true, not_true_eq_false, false_and, if_false]
      · by_cases c2 : N / 2 ^ i % 2 = 1
        · by_cases c3 : D 4 i = 1
          · simp only [c1, c2, c3, hbw.mpr c2, if_true, if_false, not_false_eq_true, and_self, show ¬ (1 : Int32) = 0 by decide]
          · simp only [c1, c2, c3, hbw.mpr c2, if_true, if_false, and_false, show ¬ (1 : Int32) = 0 by decide]
        · have c4 : ¬ (w N >>> (w i &&& 31)) &&& 1 = 1 := fun z => c2 (hbw.mp z)
          simp only [c1, c2, c4, if_true, if_false, false_and, and_false]
    · simp only [Bool.true_or, if_true, show ¬ (1 : Int32) = 0 by decide, if_false]) 0 rfl
  refine Eq.trans e1 ?_
  show jd 241 1 [_, _, _, _, _, some (.int (w U))] [] _ = _
  subst hx
  rw [E_241_1]
  simp only [q_i, q_l, q_k, q_r, q_z, q_si, q_sl, jx_lt, jx_ri, jx_rl, jx_rv, if_true, if_false, Nat.reduceLeDiff, Nat.add_one_ne_zero, and_self, true_or, or_true, Nat.reduceEqDiff, or_self, or_false, false_or, mo_k hm.1, mo_r5 hm.1, mo_k5 hm.1, mo_z5 hm.1, mo_r16 hm.1, mo_k16 hm.1, mo_z16 hm.1, mo_r17 hm.1, mo_k17 hm.1, mo_z17 hm.1, mo_r18 hm.1, mo_k18 hm.1, mo_z18 hm.1, mo_r21 hm.1, mo_k21 hm.1, mo_z21 hm.1, mo_r22 hm.1, mo_k22 hm.1, mo_z22 hm.1, mo_r23 hm.1, mo_k23 hm.1, mo_z23 hm.1, mo_r24 hm.1, mo_k24 hm.1, mo_z24 hm.1, mo_r25 hm.1, mo_k25 hm.1, mo_z25 hm.1, mo_r26 hm.1, mo_k26 hm.1, mo_z26 hm.1, mo_r27 hm.1, mo_k27 hm.1, mo_z27 hm.1, mo_r29 hm.1, mo_k29 hm.1, mo_z29 hm.1, mo_r30 hm.1, mo_k30 hm.1, mo_z30 hm.1, mo_r31 hm.1, mo_k31 hm.1, mo_z31 hm.1, mo_r32 hm.1, mo_k32 hm.1, mo_z32 hm.1, mo_r40 hm.1, mo_k40 hm.1, mo_z40 hm.1, mo_r43 hm.1, mo_k43 hm.1, mo_z43 hm.1, mo_r44 hm.1, mo_k44 hm.1, mo_z44 hm.1, mf_k hm.2.1, mf_r14 hm.2.1, mf_k14 hm.2.1, mf_z14 hm.2.1, mf_r15 hm.2.1, mf_k15 hm.2.1, mf_z15 hm.2.1, mf_r16 hm.2.1, mf_k16 hm.2.1, mf_z16 hm.2.1, mf_r17 hm.2.1, mf_k17 hm.2.1, mf_z17 hm.2.1, mf_r18 hm.2.1, mf_k18 hm.2.1, mf_z18 hm.2.1, mf_r19 hm.2.1, mf_k19 hm.2.1, mf_z19 hm.2.1, mf_r20 hm.2.1, mf_k20 hm.2.1, mf_z20 hm.2.1, mf_r21 hm.2.1, mf_k21 hm.2.1, mf_z21 hm.2.1, mf_r22 hm.2.1, mf_k22 hm.2.1, mf_z22 hm.2.1, mf_r23 hm.2.1, mf_k23 hm.2.1, mf_z23 hm.2.1, mf_r24 hm.2.1, mf_k24 hm.2.1, mf_z24 hm.2.1, mf_r25 hm.2.1, mf_k25 hm.2.1, mf_z25 hm.2.1, mf_r26 hm.2.1, mf_k26 hm.2.1, mf_z26 hm.2.1, mf_r27 hm.2.1, mf_k27 hm.2.1, mf_z27 hm.2.1, mf_r28 hm.2.1, mf_k28 hm.2.1, mf_z28 hm.2.1, mf_r29 hm.2.1, mf_k29 hm.2.1, mf_z29 hm.2.1, mf_r30 hm.2.1, mf_k30 hm.2.1, mf_z30 hm.2.1, mf_r31 hm.2.1, mf_k31 hm.2.1, mf_z31 hm.2.1, mf_r32 hm.2.1, mf_k32 hm.2.1, mf_z32 hm.2.1, mf_r33 hm.2.1, mf_k33 hm.2.1, mf_z33 hm.2.1, mf_r34 hm.2.1, mf_k34 hm.2.1, mf_z34 hm.2.1, mf_r35 hm.2.1, mf_k35 hm.2.1, mf_z35 hm.2.1, mf_r36 hm.2.1, mf_k36 hm.2.1, mf_z36 hm.2.1, hm.2.2.1, hm.2.2.2, hU5]
  rw [if_pos (Int32.le_refl _), E_241_5]
  simp only [show (8 : Int32) = w 8 from rfl, q_i, q_l, q_k, q_r, q_z, q_si, q_sl, jx_lt, jx_ri, jx_rl, jx_rv, if_true, if_false, Nat.reduceLeDiff, Nat.add_one_ne_zero, and_self, true_or, or_true, Nat.reduceEqDiff, or_self, or_false, false_or, mo_k hm.1, mo_r5 hm.1, mo_k5 hm.1, mo_z5 hm.1, mo_r16 hm.1, mo_k16 hm.1, mo_z16 hm.1, mo_r17 hm.1, mo_k17 hm.1, mo_z17 hm.1, mo_r18 hm.1, mo_k18 hm.1, mo_z18 hm.1, mo_r21 hm.1, mo_k21 hm.1, mo_z21 hm.1, mo_r22 hm.1, mo_k22 hm.1, mo_z22 hm.1, mo_r23 hm.1, mo_k23 hm.1, mo_z23 hm.1, mo_r24 hm.1, mo_k24 hm.1, mo_z24 hm.1, mo_r25 hm.1, mo_k25 hm.1, mo_z25 hm.1, mo_r26 hm.1, mo_k26 hm.1, mo_z26 hm.1, mo_r27 hm.1, mo_k27 hm.1, mo_z27 hm.1, mo_r29 hm.1, mo_k29 hm.1, mo_z29 hm.1, mo_r30 hm.1, mo_k30 hm.1, mo_z30 hm.1, mo_r31 hm.1, mo_k31 hm.1, mo_z31 hm.1, mo_r32 hm.1, mo_k32 hm.1, mo_z32 hm.1, mo_r40 hm.1, mo_k40 hm.1, mo_z40 hm.1, mo_r43 hm.1, mo_k43 hm.1, mo_z43 hm.1, mo_r44 hm.1, mo_k44 hm.1, mo_z44 hm.1, mf_k hm.2.1, mf_r14 hm.2.1, mf_k14 hm.2.1, mf_z14 hm.2.1, mf_r15 hm.2.1, mf_k15 hm.2.1, mf_z15 hm.2.1, mf_r16 hm.2.1, mf_k16 hm.2.1, mf_z16 hm.2.1, mf_r17 hm.2.1, mf_k17 hm.2.1, mf_z17 hm.2.1, mf_r18 hm.2.1, mf_k18 hm.2.1, mf_z18 hm.2.1, mf_r19 hm.2.1, mf_k19 hm.2.1, mf_z19 hm.2.1, mf_r20 hm.2.1, mf_k20 hm.2.1, mf_z20 hm.2.1, mf_r21 hm.2.1, mf_k21 hm.2.1, mf_z21 hm.2.1, mf_r22 hm.2.1, mf_k22 hm.2.1, mf_z22 hm.2.1, mf_r23 hm.2.1, mf_k23 hm.2.1, mf_z23 hm.2.1, mf_r24 hm.2.1, mf_k24 hm.2.1, mf_z24 hm.2.1, mf_r25 hm.2.1, mf_k25 hm.2.1, mf_z25 hm.2.1, mf_r26 hm.2.1, mf_k26 hm.2.1, mf_z26 hm.2.1, mf_r27 hm.2.1, mf_k27 hm.2.1, mf_z27 hm.2.1, mf_r28 hm.2.1, mf_k28 hm.2.1, mf_z28 hm.2.1, mf_r29 hm.2.1, mf_k29 hm.2.1, mf_z29 hm.2.1, mf_r30 hm.2.1, mf_k30 hm.2.1, mf_z30 hm.2.1, mf_r31 hm.2.1, mf_k31 hm.2.1, mf_z31 hm.2.1, mf_r32 hm.2.1, mf_k32 hm.2.1, mf_z32 hm.2.1, mf_r33 hm.2.1, mf_k33 hm.2.1, mf_z33 hm.2.1, mf_r34 hm.2.1, mf_k34 hm.2.1, mf_z34 hm.2.1, mf_r35 hm.2.1, mf_k35 hm.2.1, mf_z35 hm.2.1, mf_r36 hm.2.1, mf_k36 hm.2.1, mf_z36 hm.2.1, hm.2.2.1, hm.2.2.2, w_nn (a := u) (by omega), show ¬ 6 ≤ u by omega, w_tc (a := u) (by omega), ha, w_mul, w_add, w_nn (a := 8 * a + b) (by omega), show ¬ 64 ≤ 8 * a + b by omega, w_tc (a := 8 * a + b) (by omega), hw2, E_241_6, E_241_7, E_241_8, E_241_9, E_241_10, E_241_11, E_241_12, bits_eq hN, hk u hu]
  unfold q_cost
  rw [less_eq hN (by omega) hbit hNU hU]
  have hz : ∀ x : Int32, (if 0 ≤ x then some (some (Value.int x), J, L, s) else some (some (Value.int 0), J, L, s)) = some (some (Value.int (if 0 < x then x else 0)), J, L, s) := fun x => by
    by_cases c : 0 < x
    · rw [if_pos c, if_pos (Int32.le_of_lt c)]
    · rw [if_neg c]
      by_cases c2 : 0 ≤ x
      · rw [if_pos c2]
        have : x = 0 := Int32.le_antisymm (Int32.not_lt.mp c) c2
        rw [this]
      · rw [if_neg c2]
  have hp : (w (q_pop N) ≤ 1) ↔ q_pop N ≤ 1 := by
    have := pop_le N hN
    rw [show (1 : Int32) = w 1 from rfl, w_le (by omega) (by omega)]
  cases hq : q_any (fun v => decide (¬ v = u ∧ N / 2 ^ v % 2 = 1 ∧ D 4 v = 1)) U
  · simp only [Bool.false_eq_true, if_false, if_true, hp]
    by_cases c1 : q_pop N ≤ 1
    · by_cases c2 : D 4 u = 3
      · simp only [c1, c2, if_true, hz]
      · simp only [c1, c2, if_true, if_false, hz]
    · by_cases c2 : D 4 u = 3
      · simp only [c1, c2, if_true, if_false, hz]
      · simp only [c1, c2, if_false, hz]
  · simp only [if_true, show ¬ (1 : Int32) = 0 by decide, if_false]
    by_cases c2 : D 4 u = 3
    · simp only [c2, if_true, hz]
    · simp only [c2, if_false, hz]
end MF
