/-! HANDINGS: the reference -/
def q_ao (n : Nat) (o : Nat → Int32) (σ : List Nat) : Nat → Int32 := fun k => if k < n then w (σ.getD k 0) else o k
theorem ao_at {n k : Nat} {o : Nat → Int32} {σ : List Nat} (h : k < n) : q_ao n o σ k = w (σ.getD k 0) := if_pos h
theorem ao_set {n a v : Nat} {o : Nat → Int32} {σ : List Nat} (h : a < n) (hl : σ.length = n) : q_set (q_ao n o σ) a (w v) = q_ao n o (σ.set a v) := by
  funext k
  unfold q_set q_ao
  by_cases c : k = a
  · subst c
    rw [if_pos rfl, if_pos h, List.getD_eq_getElem?_getD, List.getElem?_set_self (by omega)]
    rfl
  · rw [if_neg c, List.getD_eq_getElem?_getD, List.getD_eq_getElem?_getD, List.getElem?_set_ne (fun e => c e.symm)]
theorem sw_len {σ : List Nat} {a b : Nat} : (q_sw σ a b).length = σ.length := by unfold q_sw; rw [List.length_set, List.length_set]
theorem n1_lt {σ : List Nat} : ∀ k i, q_n1 σ k = some i → i < k := by
  intro k
  induction k with
  | zero => intro i h; cases h
  | succ k ih =>
    intro i h
    unfold q_n1 at h
    split at h
    · injection h with e; omega
    · have := ih i h; omega
theorem n2_le {σ : List Nat} {i : Nat} : ∀ k, q_n2 σ i k ≤ k := by
  intro k
  induction k with
  | zero => exact Nat.le_refl _
  | succ k ih =>
    unfold q_n2
    split
    · exact Nat.le_refl _
    · omega
theorem or_shl2 : ∀ m, m < 64 → ∀ v, v < 6 → m / 2 ^ v % 2 = 0 → w m ||| ((1 : Int32) <<< (w v &&& 31)) = w (m + 2 ^ v) ∧ m + 2 ^ v < 64 := by decide +kernel
section HR
variable {K : qI} {L : qL} {s : qS} {m f n : Nat} {o : Nat → Int32}
theorem swaps_eq (hm : qMF s m f) (hn : n ≤ 6) {σ : List Nat} (hl : σ.length = n) {a b : Nat} (ha : a < n) (hb : b < n) : jD 293 [.ref m, .int (w a), .int (w b)] (q_up K (m + 18) (q_ao n o σ), L, s) = some (none, q_up K (m + 18) (q_ao n o (q_sw σ a b)), L, s) := by
  unfold q_sw
  simp only [D_293, E_293_0, ↓reduceIte, q_i, q_l, q_k, q_r, q_z, q_si, q_sl, jx_lt, jx_ri, jx_rl, jx_rv, if_true, if_false, Nat.reduceLeDiff, Nat.add_one_ne_zero, and_self, true_or, or_true, Nat.reduceEqDiff, or_self, or_false, false_or, mo_k hm.1, mo_r5 hm.1, mo_k5 hm.1, mo_z5 hm.1, mo_r16 hm.1, mo_k16 hm.1, mo_z16 hm.1, mo_r17 hm.1, mo_k17 hm.1, mo_z17 hm.1, mo_r18 hm.1, mo_k18 hm.1, mo_z18 hm.1, mo_r21 hm.1, mo_k21 hm.1, mo_z21 hm.1, mo_r22 hm.1, mo_k22 hm.1, mo_z22 hm.1, mo_r23 hm.1, mo_k23 hm.1, mo_z23 hm.1, mo_r24 hm.1, mo_k24 hm.1, mo_z24 hm.1, mo_r25 hm.1, mo_k25 hm.1, mo_z25 hm.1, mo_r26 hm.1, mo_k26 hm.1, mo_z26 hm.1, mo_r27 hm.1, mo_k27 hm.1, mo_z27 hm.1, mo_r29 hm.1, mo_k29 hm.1, mo_z29 hm.1, mo_r30 hm.1, mo_k30 hm.1, mo_z30 hm.1, mo_r31 hm.1, mo_k31 hm.1, mo_z31 hm.1, mo_r32 hm.1, mo_k32 hm.1, mo_z32 hm.1, mo_r40 hm.1, mo_k40 hm.1, mo_z40 hm.1, mo_r43 hm.1, mo_k43 hm.1, mo_z43 hm.1, mo_r44 hm.1, mo_k44 hm.1, mo_z44 hm.1, mf_k hm.2.1, mf_r14 hm.2.1, mf_k14 hm.2.1, mf_z14 hm.2.1, mf_r15 hm.2.1, mf_k15 hm.2.1, mf_z15 hm.2.1, mf_r16 hm.2.1, mf_k16 hm.2.1, mf_z16 hm.2.1, mf_r17 hm.2.1, mf_k17 hm.2.1, mf_z17 hm.2.1, mf_r18 hm.2.1, mf_k18 hm.2.1, mf_z18 hm.2.1, mf_r19 hm.2.1, mf_k19 hm.2.1, mf_z19 hm.2.1, mf_r20 hm.2.1, mf_k20 hm.2.1, mf_z20 hm.2.1, mf_r21 hm.2.1, mf_k21 hm.2.1, mf_z21 hm.2.1, mf_r22 hm.2.1, mf_k22 hm.2.1, mf_z22 hm.2.1, mf_r23 hm.2.1, mf_k23 hm.2.1, mf_z23 hm.2.1, mf_r24 hm.2.1, mf_k24 hm.2.1, mf_z24 hm.2.1, mf_r25 hm.2.1, mf_k25 hm.2.1, mf_z25 hm.2.1, mf_r26 hm.2.1, mf_k26 hm.2.1, mf_z26 hm.2.1, mf_r27 hm.2.1, mf_k27 hm.2.1, mf_z27 hm.2.1, mf_r28 hm.2.1, mf_k28 hm.2.1, mf_z28 hm.2.1, mf_r29 hm.2.1, mf_k29 hm.2.1, mf_z29 hm.2.1, mf_r30 hm.2.1, mf_k30 hm.2.1, mf_z30 hm.2.1, mf_r31 hm.2.1, mf_k31 hm.2.1, mf_z31 hm.2.1, mf_r32 hm.2.1, mf_k32 hm.2.1, mf_z32 hm.2.1, mf_r33 hm.2.1, mf_k33 hm.2.1, mf_z33 hm.2.1, mf_r34 hm.2.1, mf_k34 hm.2.1, mf_z34 hm.2.1, mf_r35 hm.2.1, mf_k35 hm.2.1, mf_z35 hm.2.1, mf_r36 hm.2.1, mf_k36 hm.2.1, mf_z36 hm.2.1, hm.2.2.1, hm.2.2.2, w_nn (a := a) (by omega), show ¬ 6 ≤ a by omega, w_tc (a := a) (by omega), w_nn (a := b) (by omega), show ¬ 6 ≤ b by omega, w_tc (a := b) (by omega), q_up_eq, q_up_up, ao_at ha, ao_at hb, ao_set ha hl]
  rw [ao_set hb (by rw [List.length_set]; exact hl)]
theorem next1 (hm : qMF s m f) (hn : n ≤ 6) {σ : List Nat} (hb : ∀ k, k < n → σ.getD k 0 < n) : ∀ k, k < n → jd 292 1 [some (.ref m), some (.int (w n)), some (.int (w k - 1)), none, none, none] [] (q_up K (m + 18) (q_ao n o σ), L, s) = match q_n1 σ k with
    | none => jd 292 2 [some (.ref m), some (.int (w n)), some (.int (-1)), none, none, none] [] (q_up K (m + 18) (q_ao n o σ), L, s)
    | some i => jd 292 2 [some (.ref m), some (.int (w n)), some (.int (w i)), none, none, none] [] (q_up K (m + 18) (q_ao n o σ), L, s) := by
  intro k
  induction k with
  | zero =>
    intro _
    show _ = jd 292 2 _ _ _
    rw [E_292_1, show w 0 - 1 = (-1 : Int32) by decide, if_pos m1_lt]
  | succ k ih =>
    intro hk
    have h1 := hb k (by omega)
    have h2 := hb (k + 1) hk
    rw [E_292_1, w_dec (a := k + 1) (by omega) (by omega), Nat.add_sub_cancel]
    simp only [w_inc, ↓reduceIte, q_i, q_l, q_k, q_r, q_z, q_si, q_sl, jx_lt, jx_ri, jx_rl, jx_rv, if_true, if_false, Nat.reduceLeDiff, Nat.add_one_ne_zero, and_self, true_or, or_true, Nat.reduceEqDiff, or_self, or_false, false_or, mo_k hm.1, mo_r5 hm.1, mo_k5 hm.1, mo_z5 hm.1, mo_r16 hm.1, mo_k16 hm.1, mo_z16 hm.1, mo_r17 hm.1, mo_k17 hm.1, mo_z17 hm.1, mo_r18 hm.1, mo_k18 hm.1, mo_z18 hm.1, mo_r21 hm.1, mo_k21 hm.1, mo_z21 hm.1, mo_r22 hm.1, mo_k22 hm.1, mo_z22 hm.1, mo_r23 hm.1, mo_k23 hm.1, mo_z23 hm.1, mo_r24 hm.1, mo_k24 hm.1, mo_z24 hm.1, mo_r25 hm.1, mo_k25 hm.1, mo_z25 hm.1, mo_r26 hm.1, mo_k26 hm.1, mo_z26 hm.1, mo_r27 hm.1, mo_k27 hm.1, mo_z27 hm.1, mo_r29 hm.1, mo_k29 hm.1, mo_z29 hm.1, mo_r30 hm.1, mo_k30 hm.1, mo_z30 hm.1, mo_r31 hm.1, mo_k31 hm.1, mo_z31 hm.1, mo_r32 hm.1, mo_k32 hm.1, mo_z32 hm.1, mo_r40 hm.1, mo_k40 hm.1, mo_z40 hm.1, mo_r43 hm.1, mo_k43 hm.1, mo_z43 hm.1, mo_r44 hm.1, mo_k44 hm.1, mo_z44 hm.1, mf_k hm.2.1, mf_r14 hm.2.1, mf_k14 hm.2.1, mf_z14 hm.2.1, mf_r15 hm.2.1, mf_k15 hm.2.1, mf_z15 hm.2.1, mf_r16 hm.2.1, mf_k16 hm.2.1, mf_z16 hm.2.1, mf_r17 hm.2.1, mf_k17 hm.2.1, mf_z17 hm.2.1, mf_r18 hm.2.1, mf_k18 hm.2.1, mf_z18 hm.2.1, mf_r19 hm.2.1, mf_k19 hm.2.1, mf_z19 hm.2.1, mf_r20 hm.2.1, mf_k20 hm.2.1, mf_z20 hm.2.1, mf_r21 hm.2.1, mf_k21 hm.2.1, mf_z21 hm.2.1, mf_r22 hm.2.1, mf_k22 hm.2.1, mf_z22 hm.2.1, mf_r23 hm.2.1, mf_k23 hm.2.1, mf_z23 hm.2.1, mf_r24 hm.2.1, mf_k24 hm.2.1, mf_z24 hm.2.1, mf_r25 hm.2.1, mf_k25 hm.2.1, mf_z25 hm.2.1, mf_r26 hm.2.1, mf_k26 hm.2.1, mf_z26 hm.2.1, mf_r27 hm.2.1, mf_k27 hm.2.1, mf_z27 hm.2.1, mf_r28 hm.2.1, mf_k28 hm.2.1, mf_z28 hm.2.1, mf_r29 hm.2.1, mf_k29 hm.2.1, mf_z29 hm.2.1, mf_r30 hm.2.1, mf_k30 hm.2.1, mf_z30 hm.2.1, mf_r31 hm.2.1, mf_k31 hm.2.1, mf_z31 hm.2.1, mf_r32 hm.2.1, mf_k32 hm.2.1, mf_z32 hm.2.1, mf_r33 hm.2.1, mf_k33 hm.2.1, mf_z33 hm.2.1, mf_r34 hm.2.1, mf_k34 hm.2.1, mf_z34 hm.2.1, mf_r35 hm.2.1, mf_k35 hm.2.1, mf_z35 hm.2.1, mf_r36 hm.2.1, mf_k36 hm.2.1, mf_z36 hm.2.1, hm.2.2.1, hm.2.2.2, w_nn (a := k) (by omega), show ¬ 6 ≤ k by omega, w_tc (a := k) (by omega), w_nn (a := k + 1) (by omega), show ¬ 6 ≤ k + 1 by omega, w_tc (a := k + 1) (by omega), q_up_eq, ao_at (show k < n by omega), ao_at hk, w_le (a := σ.getD k 0) (b := σ.getD (k + 1) 0) (by omega) (by omega)]
    unfold q_n1
    by_cases c : σ.getD k 0 ≤ σ.getD (k + 1) 0
    · rw [if_pos c, if_pos c]
    · rw [if_neg c, if_neg c, ← ih (by omega), Int32.sub_eq_add_neg]
theorem next2 (hm : qMF s m f) (hn : n ≤ 6) {σ : List Nat} (hb : ∀ k, k < n → σ.getD k 0 < n) {i : Nat} : ∀ k, i ≤ k → k < n → jd 292 4 [some (.ref m), some (.int (w n)), some (.int (w i)), some (.int (w k)), none, none] [] (q_up K (m + 18) (q_ao n o σ), L, s) = jd 292 5 [some (.ref m), some (.int (w n)), some (.int (w i)), some (.int (w (q_n2 σ i k))), none, none] [] (q_up K (m + 18) (q_ao n o σ), L, s) := by
  intro k
  induction k with
  | zero =>
    intro hi hk
    obtain rfl : i = 0 := by omega
    rw [E_292_4]
    simp only [↓reduceIte, q_i, q_l, q_k, q_r, q_z, q_si, q_sl, jx_lt, jx_ri, jx_rl, jx_rv, if_true, if_false, Nat.reduceLeDiff, Nat.add_one_ne_zero, and_self, true_or, or_true, Nat.reduceEqDiff, or_self, or_false, false_or, mo_k hm.1, mo_r5 hm.1, mo_k5 hm.1, mo_z5 hm.1, mo_r16 hm.1, mo_k16 hm.1, mo_z16 hm.1, mo_r17 hm.1, mo_k17 hm.1, mo_z17 hm.1, mo_r18 hm.1, mo_k18 hm.1, mo_z18 hm.1, mo_r21 hm.1, mo_k21 hm.1, mo_z21 hm.1, mo_r22 hm.1, mo_k22 hm.1, mo_z22 hm.1, mo_r23 hm.1, mo_k23 hm.1, mo_z23 hm.1, mo_r24 hm.1, mo_k24 hm.1, mo_z24 hm.1, mo_r25 hm.1, mo_k25 hm.1, mo_z25 hm.1, mo_r26 hm.1, mo_k26 hm.1, mo_z26 hm.1, mo_r27 hm.1, mo_k27 hm.1, mo_z27 hm.1, mo_r29 hm.1, mo_k29 hm.1, mo_z29 hm.1, mo_r30 hm.1, mo_k30 hm.1, mo_z30 hm.1, mo_r31 hm.1, mo_k31 hm.1, mo_z31 hm.1, mo_r32 hm.1, mo_k32 hm.1, mo_z32 hm.1, mo_r40 hm.1, mo_k40 hm.1, mo_z40 hm.1, mo_r43 hm.1, mo_k43 hm.1, mo_z43 hm.1, mo_r44 hm.1, mo_k44 hm.1, mo_z44 hm.1, mf_k hm.2.1, mf_r14 hm.2.1, mf_k14 hm.2.1, mf_z14 hm.2.1, mf_r15 hm.2.1, mf_k15 hm.2.1, mf_z15 hm.2.1, mf_r16 hm.2.1, mf_k16 hm.2.1, mf_z16 hm.2.1, mf_r17 hm.2.1, mf_k17 hm.2.1, mf_z17 hm.2.1, mf_r18 hm.2.1, mf_k18 hm.2.1, mf_z18 hm.2.1, mf_r19 hm.2.1, mf_k19 hm.2.1, mf_z19 hm.2.1, mf_r20 hm.2.1, mf_k20 hm.2.1, mf_z20 hm.2.1, mf_r21 hm.2.1, mf_k21 hm.2.1, mf_z21 hm.2.1, mf_r22 hm.2.1, mf_k22 hm.2.1, mf_z22 hm.2.1, mf_r23 hm.2.1, mf_k23 hm.2.1, mf_z23 hm.2.1, mf_r24 hm.2.1, mf_k24 hm.2.1, mf_z24 hm.2.1, mf_r25 hm.2.1, mf_k25 hm.2.1, mf_z25 hm.2.1, mf_r26 hm.2.1, mf_k26 hm.2.1, mf_z26 hm.2.1, mf_r27 hm.2.1, mf_k27 hm.2.1, mf_z27 hm.2.1, mf_r28 hm.2.1, mf_k28 hm.2.1, mf_z28 hm.2.1, mf_r29 hm.2.1, mf_k29 hm.2.1, mf_z29 hm.2.1, mf_r30 hm.2.1, mf_k30 hm.2.1, mf_z30 hm.2.1, mf_r31 hm.2.1, mf_k31 hm.2.1, mf_z31 hm.2.1, mf_r32 hm.2.1, mf_k32 hm.2.1, mf_z32 hm.2.1, mf_r33 hm.2.1, mf_k33 hm.2.1, mf_z33 hm.2.1, mf_r34 hm.2.1, mf_k34 hm.2.1, mf_z34 hm.2.1, mf_r35 hm.2.1, mf_k35 hm.2.1, mf_z35 hm.2.1, mf_r36 hm.2.1, mf_k36 hm.2.1, mf_z36 hm.2.1, hm.2.2.1, hm.2.2.2, w_nn (a := 0) (by omega), show ¬ 6 ≤ 0 by omega, w_tc (a := 0) (by omega), q_up_eq, Int32.le_refl]
    rfl
  | succ k ih =>
    intro hi hk
    have h1 := hb i (by omega)
    have h2 := hb (k + 1) hk
    rw [E_292_4]
    simp only [↓reduceIte, q_i, q_l, q_k, q_r, q_z, q_si, q_sl, jx_lt, jx_ri, jx_rl, jx_rv, if_true, if_false, Nat.reduceLeDiff, Nat.add_one_ne_zero, and_self, true_or, or_true, Nat.reduceEqDiff, or_self, or_false, false_or, mo_k hm.1, mo_r5 hm.1, mo_k5 hm.1, mo_z5 hm.1, mo_r16 hm.1, mo_k16 hm.1, mo_z16 hm.1, mo_r17 hm.1, mo_k17 hm.1, mo_z17 hm.1, mo_r18 hm.1, mo_k18 hm.1, mo_z18 hm.1, mo_r21 hm.1, mo_k21 hm.1, mo_z21 hm.1, mo_r22 hm.1, mo_k22 hm.1, mo_z22 hm.1, mo_r23 hm.1, mo_k23 hm.1, mo_z23 hm.1, mo_r24 hm.1, mo_k24 hm.1, mo_z24 hm.1, mo_r25 hm.1, mo_k25 hm.1, mo_z25 hm.1, mo_r26 hm.1, mo_k26 hm.1, mo_z26 hm.1, mo_r27 hm.1, mo_k27 hm.1, mo_z27 hm.1, mo_r29 hm.1, mo_k29 hm.1, mo_z29 hm.1, mo_r30 hm.1, mo_k30 hm.1, mo_z30 hm.1, mo_r31 hm.1, mo_k31 hm.1, mo_z31 hm.1, mo_r32 hm.1, mo_k32 hm.1, mo_z32 hm.1, mo_r40 hm.1, mo_k40 hm.1, mo_z40 hm.1, mo_r43 hm.1, mo_k43 hm.1, mo_z43 hm.1, mo_r44 hm.1, mo_k44 hm.1, mo_z44 hm.1, mf_k hm.2.1, mf_r14 hm.2.1, mf_k14 hm.2.1, mf_z14 hm.2.1, mf_r15 hm.2.1, mf_k15 hm.2.1, mf_z15 hm.2.1, mf_r16 hm.2.1, mf_k16 hm.2.1, mf_z16 hm.2.1, mf_r17 hm.2.1, mf_k17 hm.2.1, mf_z17 hm.2.1, mf_r18 hm.2.1, mf_k18 hm.2.1, mf_z18 hm.2.1, mf_r19 hm.2.1, mf_k19 hm.2.1, mf_z19 hm.2.1, mf_r20 hm.2.1, mf_k20 hm.2.1, mf_z20 hm.2.1, mf_r21 hm.2.1, mf_k21 hm.2.1, mf_z21 hm.2.1, mf_r22 hm.2.1, mf_k22 hm.2.1, mf_z22 hm.2.1, mf_r23 hm.2.1, mf_k23 hm.2.1, mf_z23 hm.2.1, mf_r24 hm.2.1, mf_k24 hm.2.1, mf_z24 hm.2.1, mf_r25 hm.2.1, mf_k25 hm.2.1, mf_z25 hm.2.1, mf_r26 hm.2.1, mf_k26 hm.2.1, mf_z26 hm.2.1, mf_r27 hm.2.1, mf_k27 hm.2.1, mf_z27 hm.2.1, mf_r28 hm.2.1, mf_k28 hm.2.1, mf_z28 hm.2.1, mf_r29 hm.2.1, mf_k29 hm.2.1, mf_z29 hm.2.1, mf_r30 hm.2.1, mf_k30 hm.2.1, mf_z30 hm.2.1, mf_r31 hm.2.1, mf_k31 hm.2.1, mf_z31 hm.2.1, mf_r32 hm.2.1, mf_k32 hm.2.1, mf_z32 hm.2.1, mf_r33 hm.2.1, mf_k33 hm.2.1, mf_z33 hm.2.1, mf_r34 hm.2.1, mf_k34 hm.2.1, mf_z34 hm.2.1, mf_r35 hm.2.1, mf_k35 hm.2.1, mf_z35 hm.2.1, mf_r36 hm.2.1, mf_k36 hm.2.1, mf_z36 hm.2.1, hm.2.2.1, hm.2.2.2, w_nn (a := i) (by omega), show ¬ 6 ≤ i by omega, w_tc (a := i) (by omega), w_nn (a := k + 1) (by omega), show ¬ 6 ≤ k + 1 by omega, w_tc (a := k + 1) (by omega), q_up_eq, ao_at (show i < n by omega), ao_at hk, w_le (a := σ.getD i 0) (b := σ.getD (k + 1) 0) (by omega) (by omega)]
    unfold q_n2
    by_cases c : σ.getD i 0 ≤ σ.getD (k + 1) 0
    · rw [if_pos c, if_pos c]
    · have hik : i ≠ k + 1 := fun e => c (by rw [e]; exact Nat.le_refl _)
      rw [if_neg c, if_neg c, ← ih (by omega) (by omega), show w (k + 1) + -1 = w k by rw [← Int32.sub_eq_add_neg, w_dec (by omega) (by omega), Nat.add_sub_cancel]]
theorem next3 (hm : qMF s m f) (hn : n ≤ 6) : ∀ g a b (σ : List Nat), σ.length = n → b < n → a ≤ n → b ≤ a + g → jd 292 6 [some (.ref m), none, none, none, some (.int (w a)), some (.int (w b))] [] (q_up K (m + 18) (q_ao n o σ), L, s) = jd 292 7 [none, none, none, none, none, none] [] (q_up K (m + 18) (q_ao n o (q_rv g a b σ)), L, s) := by
  intro g
  induction g with
  | zero =>
    intro a b σ hl hb ha hg
    rw [E_292_6, if_pos (w_le' (by omega) (by omega))]
    rfl
  | succ g ih =>
    intro a b σ hl hb ha hg
    unfold q_rv
    rw [E_292_6]
    by_cases c : b ≤ a
    · rw [if_pos (w_le' c (by omega)), if_pos c]
    · rw [if_neg (by rw [w_le (by omega) (by omega)]; exact c), if_neg c]
      simp only [↓reduceIte, q_i, q_l, q_k, q_r, q_z, q_si, q_sl, jx_lt, jx_ri, jx_rl, jx_rv, if_true, if_false, Nat.reduceLeDiff, Nat.add_one_ne_zero, and_self, true_or, or_true, Nat.reduceEqDiff, or_self, or_false, false_or, mo_k hm.1, mo_r5 hm.1, mo_k5 hm.1, mo_z5 hm.1, mo_r16 hm.1, mo_k16 hm.1, mo_z16 hm.1, mo_r17 hm.1, mo_k17 hm.1, mo_z17 hm.1, mo_r18 hm.1, mo_k18 hm.1, mo_z18 hm.1, mo_r21 hm.1, mo_k21 hm.1, mo_z21 hm.1, mo_r22 hm.1, mo_k22 hm.1, mo_z22 hm.1, mo_r23 hm.1, mo_k23 hm.1, mo_z23 hm.1, mo_r24 hm.1, mo_k24 hm.1, mo_z24 hm.1, mo_r25 hm.1, mo_k25 hm.1, mo_z25 hm.1, mo_r26 hm.1, mo_k26 hm.1, mo_z26 hm.1, mo_r27 hm.1, mo_k27 hm.1, mo_z27 hm.1, mo_r29 hm.1, mo_k29 hm.1, mo_z29 hm.1, mo_r30 hm.1, mo_k30 hm.1, mo_z30 hm.1, mo_r31 hm.1, mo_k31 hm.1, mo_z31 hm.1, mo_r32 hm.1, mo_k32 hm.1, mo_z32 hm.1, mo_r40 hm.1, mo_k40 hm.1, mo_z40 hm.1, mo_r43 hm.1, mo_k43 hm.1, mo_z43 hm.1, mo_r44 hm.1, mo_k44 hm.1, mo_z44 hm.1, mf_k hm.2.1, mf_r14 hm.2.1, mf_k14 hm.2.1, mf_z14 hm.2.1, mf_r15 hm.2.1, mf_k15 hm.2.1, mf_z15 hm.2.1, mf_r16 hm.2.1, mf_k16 hm.2.1, mf_z16 hm.2.1, mf_r17 hm.2.1, mf_k17 hm.2.1, mf_z17 hm.2.1, mf_r18 hm.2.1, mf_k18 hm.2.1, mf_z18 hm.2.1, mf_r19 hm.2.1, mf_k19 hm.2.1, mf_z19 hm.2.1, mf_r20 hm.2.1, mf_k20 hm.2.1, mf_z20 hm.2.1, mf_r21 hm.2.1, mf_k21 hm.2.1, mf_z21 hm.2.1, mf_r22 hm.2.1, mf_k22 hm.2.1, mf_z22 hm.2.1, mf_r23 hm.2.1, mf_k23 hm.2.1, mf_z23 hm.2.1, mf_r24 hm.2.1, mf_k24 hm.2.1, mf_z24 hm.2.1, mf_r25 hm.2.1, mf_k25 hm.2.1, mf_z25 hm.2.1, mf_r26 hm.2.1, mf_k26 hm.2.1, mf_z26 hm.2.1, mf_r27 hm.2.1, mf_k27 hm.2.1, mf_z27 hm.2.1, mf_r28 hm.2.1, mf_k28 hm.2.1, mf_z28 hm.2.1, mf_r29 hm.2.1, mf_k29 hm.2.1, mf_z29 hm.2.1, mf_r30 hm.2.1, mf_k30 hm.2.1, mf_z30 hm.2.1, mf_r31 hm.2.1, mf_k31 hm.2.1, mf_z31 hm.2.1, mf_r32 hm.2.1, mf_k32 hm.2.1, mf_z32 hm.2.1, mf_r33 hm.2.1, mf_k33 hm.2.1, mf_z33 hm.2.1, mf_r34 hm.2.1, mf_k34 hm.2.1, mf_z34 hm.2.1, mf_r35 hm.2.1, mf_k35 hm.2.1, mf_z35 hm.2.1, mf_r36 hm.2.1, mf_k36 hm.2.1, mf_z36 hm.2.1, hm.2.2.1, hm.2.2.2, swaps_eq hm hn hl (show a < n by omega) hb, w_inc, show w b + -1 = w (b - 1) by rw [← Int32.sub_eq_add_neg, w_dec (by omega) (by omega)]]
      exact ih (a + 1) (b - 1) (q_sw σ a b) (by rw [sw_len]; exact hl) (by omega) (by omega) (by omega)
theorem next_eq (hm : qMF s m f) (hn : n ≤ 6) {σ : List Nat} (hl : σ.length = n) (hb : ∀ k, k < n → σ.getD k 0 < n) : jD 292 [.ref m, .int (w n)] (q_up K (m + 18) (q_ao n o σ), L, s) = some (some (.int (if (q_nx n σ).isSome = true then 1 else 0)), q_up K (m + 18) (q_ao n o ((q_nx n σ).getD σ)), L, s) := by
  rw [D_292, E_292_0]
  by_cases h0 : n = 0
  · subst h0
    have e : q_nx 0 σ = none := rfl
    rw [e, E_292_1, show w 0 - 2 = (-2 : Int32) by decide, if_pos (by decide), E_292_2, if_neg (by decide), if_pos (Or.inl rfl)]
    rfl
  · have e2 : w n - 2 = w (n - 1) - 1 := by
      rw [← w_dec (by omega) (by omega), Int32.sub_eq_add_neg, Int32.sub_eq_add_neg, Int32.sub_eq_add_neg, Int32.add_assoc]
      rfl
    rw [e2, next1 hm hn hb (n - 1) (by omega)]
    unfold q_nx
    cases hq : q_n1 σ (n - 1) with
    | none =>
      show jd 292 2 _ _ _ = _
      rw [E_292_2, if_neg (by decide), if_pos (Or.inl rfl)]
      rfl
    | some i =>
      have hi := n1_lt _ _ hq
      have hj := n2_le (σ := σ) (i := i) (n - 1)
      show jd 292 2 _ _ _ = _
      rw [E_292_2, if_pos (by rw [show (0 : Int32) = w 0 from rfl]; exact w_le' (by omega) (by omega)), E_292_3, w_dec (by omega) (by omega), next2 hm hn hb (n - 1) (by omega) (by omega), E_292_5]
      simp only [↓reduceIte, q_i, q_l, q_k, q_r, q_z, q_si, q_sl, jx_lt, jx_ri, jx_rl, jx_rv, if_true, if_false, Nat.reduceLeDiff, Nat.add_one_ne_zero, and_self, true_or, or_true, Nat.reduceEqDiff, or_self, or_false, false_or, mo_k hm.1, mo_r5 hm.1, mo_k5 hm.1, mo_z5 hm.1, mo_r16 hm.1, mo_k16 hm.1, mo_z16 hm.1, mo_r17 hm.1, mo_k17 hm.1, mo_z17 hm.1, mo_r18 hm.1, mo_k18 hm.1, mo_z18 hm.1, mo_r21 hm.1, mo_k21 hm.1, mo_z21 hm.1, mo_r22 hm.1, mo_k22 hm.1, mo_z22 hm.1, mo_r23 hm.1, mo_k23 hm.1, mo_z23 hm.1, mo_r24 hm.1, mo_k24 hm.1, mo_z24 hm.1, mo_r25 hm.1, mo_k25 hm.1, mo_z25 hm.1, mo_r26 hm.1, mo_k26 hm.1, mo_z26 hm.1, mo_r27 hm.1, mo_k27 hm.1, mo_z27 hm.1, mo_r29 hm.1, mo_k29 hm.1, mo_z29 hm.1, mo_r30 hm.1, mo_k30 hm.1, mo_z30 hm.1, mo_r31 hm.1, mo_k31 hm.1, mo_z31 hm.1, mo_r32 hm.1, mo_k32 hm.1, mo_z32 hm.1, mo_r40 hm.1, mo_k40 hm.1, mo_z40 hm.1, mo_r43 hm.1, mo_k43 hm.1, mo_z43 hm.1, mo_r44 hm.1, mo_k44 hm.1, mo_z44 hm.1, mf_k hm.2.1, mf_r14 hm.2.1, mf_k14 hm.2.1, mf_z14 hm.2.1, mf_r15 hm.2.1, mf_k15 hm.2.1, mf_z15 hm.2.1, mf_r16 hm.2.1, mf_k16 hm.2.1, mf_z16 hm.2.1, mf_r17 hm.2.1, mf_k17 hm.2.1, mf_z17 hm.2.1, mf_r18 hm.2.1, mf_k18 hm.2.1, mf_z18 hm.2.1, mf_r19 hm.2.1, mf_k19 hm.2.1, mf_z19 hm.2.1, mf_r20 hm.2.1, mf_k20 hm.2.1, mf_z20 hm.2.1, mf_r21 hm.2.1, mf_k21 hm.2.1, mf_z21 hm.2.1, mf_r22 hm.2.1, mf_k22 hm.2.1, mf_z22 hm.2.1, mf_r23 hm.2.1, mf_k23 hm.2.1, mf_z23 hm.2.1, mf_r24 hm.2.1, mf_k24 hm.2.1, mf_z24 hm.2.1, mf_r25 hm.2.1, mf_k25 hm.2.1, mf_z25 hm.2.1, mf_r26 hm.2.1, mf_k26 hm.2.1, mf_z26 hm.2.1, mf_r27 hm.2.1, mf_k27 hm.2.1, mf_z27 hm.2.1, mf_r28 hm.2.1, mf_k28 hm.2.1, mf_z28 hm.2.1, mf_r29 hm.2.1, mf_k29 hm.2.1, mf_z29 hm.2.1, mf_r30 hm.2.1, mf_k30 hm.2.1, mf_z30 hm.2.1, mf_r31 hm.2.1, mf_k31 hm.2.1, mf_z31 hm.2.1, mf_r32 hm.2.1, mf_k32 hm.2.1, mf_z32 hm.2.1, mf_r33 hm.2.1, mf_k33 hm.2.1, mf_z33 hm.2.1, mf_r34 hm.2.1, mf_k34 hm.2.1, mf_z34 hm.2.1, mf_r35 hm.2.1, mf_k35 hm.2.1, mf_z35 hm.2.1, mf_r36 hm.2.1, mf_k36 hm.2.1, mf_z36 hm.2.1, hm.2.2.1, hm.2.2.2, swaps_eq hm hn hl (show i < n by omega) (show q_n2 σ i (n - 1) < n by omega), w_inc, w_dec (a := n) (by omega) (by omega)]
      rw [next3 hm hn 6 (i + 1) (n - 1) (q_sw σ i (q_n2 σ i (n - 1))) (by rw [sw_len]; exact hl) (by omega) (by omega) (by omega), E_292_7, if_pos (Or.inr rfl)]
      rfl
theorem bit0_or1 {a k : Nat} (ha : a < 64) (hk : k < 6) : jD 196 [.int (w a), .int (w k)] (K, L, s) = some (some (.int (if a / 2 ^ k % 2 = 1 then 1 else 0)), K, L, s) := by
  rw [bit_eq]
  have h := bit_w a (by omega) k (by omega)
  by_cases c : a / 2 ^ k % 2 = 1
  · rw [if_pos (h.mpr c), if_pos c]
  · rw [if_neg (fun z => c (h.mp z)), if_neg c]
theorem walk_eq (hm : qMF s m f) (hn : n ≤ 6) {σ : List Nat} (hb : ∀ k, k < n → σ.getD k 0 < n) {r k : Int32} : ∀ g a x a', x < n → a < 64 → q_wk σ g a x = some a' → a' < 64 ∧ jd 291 3 [some (.ref m), some (.int (w n)), some (.int (w a)), some (.int r), some (.int k), some (.int (w x))] [] (q_up K (m + 18) (q_ao n o σ), L, s) = jd 291 4 [some (.ref m), some (.int (w n)), some (.int (w a')), some (.int r), some (.int k), none] [] (q_up K (m + 18) (q_ao n o σ), L, s) := by
  intro g
  induction g with
  | zero => intro a x a' _ _ h; cases h
  | succ g ih =>
    intro a x a' hx ha h
    unfold q_wk at h
    rw [E_291_3]
    simp only [↓reduceIte, q_i, q_l, q_k, q_r, q_z, q_si, q_sl, jx_lt, jx_ri, jx_rl, jx_rv, if_true, if_false, Nat.reduceLeDiff, Nat.add_one_ne_zero, and_self, true_or, or_true, Nat.reduceEqDiff, or_self, or_false, false_or, bit0_or1 ha (show x < 6 by omega)]
    by_cases c : a / 2 ^ x % 2 = 1
    · rw [if_pos c] at h ⊢
      injection h with e
      subst e
      exact ⟨ha, by rw [if_neg (by decide)]⟩
    · rw [if_neg c] at h ⊢
      obtain ⟨h1, h2⟩ := or_shl2 a ha x (by omega) (by omega)
      obtain ⟨h3, h4⟩ := ih _ _ _ (hb x hx) h2 h
      refine ⟨h3, ?_⟩
      simp only [↓reduceIte, q_i, q_l, q_k, q_r, q_z, q_si, q_sl, jx_lt, jx_ri, jx_rl, jx_rv, if_true, if_false, Nat.reduceLeDiff, Nat.add_one_ne_zero, and_self, true_or, or_true, Nat.reduceEqDiff, or_self, or_false, false_or, mo_k hm.1, mo_r5 hm.1, mo_k5 hm.1, mo_z5 hm.1, mo_r16 hm.1, mo_k16 hm.1, mo_z16 hm.1, mo_r17 hm.1, mo_k17 hm.1, mo_z17 hm.1, mo_r18 hm.1, mo_k18 hm.1, mo_z18 hm.1, mo_r21 hm.1, mo_k21 hm.1, mo_z21 hm.1, mo_r22 hm.1, mo_k22 hm.1, mo_z22 hm.1, mo_r23 hm.1, mo_k23 hm.1, mo_z23 hm.1, mo_r24 hm.1, mo_k24 hm.1, mo_z24 hm.1, mo_r25 hm.1, mo_k25 hm.1, mo_z25 hm.1, mo_r26 hm.1, mo_k26 hm.1, mo_z26 hm.1, mo_r27 hm.1, mo_k27 hm.1, mo_z27 hm.1, mo_r29 hm.1, mo_k29 hm.1, mo_z29 hm.1, mo_r30 hm.1, mo_k30 hm.1, mo_z30 hm.1, mo_r31 hm.1, mo_k31 hm.1, mo_z31 hm.1, mo_r32 hm.1, mo_k32 hm.1, mo_z32 hm.1, mo_r40 hm.1, mo_k40 hm.1, mo_z40 hm.1, mo_r43 hm.1, mo_k43 hm.1, mo_z43 hm.1, mo_r44 hm.1, mo_k44 hm.1, mo_z44 hm.1, mf_k hm.2.1, mf_r14 hm.2.1, mf_k14 hm.2.1, mf_z14 hm.2.1, mf_r15 hm.2.1, mf_k15 hm.2.1, mf_z15 hm.2.1, mf_r16 hm.2.1, mf_k16 hm.2.1, mf_z16 hm.2.1, mf_r17 hm.2.1, mf_k17 hm.2.1, mf_z17 hm.2.1, mf_r18 hm.2.1, mf_k18 hm.2.1, mf_z18 hm.2.1, mf_r19 hm.2.1, mf_k19 hm.2.1, mf_z19 hm.2.1, mf_r20 hm.2.1, mf_k20 hm.2.1, mf_z20 hm.2.1, mf_r21 hm.2.1, mf_k21 hm.2.1, mf_z21 hm.2.1, mf_r22 hm.2.1, mf_k22 hm.2.1, mf_z22 hm.2.1, mf_r23 hm.2.1, mf_k23 hm.2.1, mf_z23 hm.2.1, mf_r24 hm.2.1, mf_k24 hm.2.1, mf_z24 hm.2.1, mf_r25 hm.2.1, mf_k25 hm.2.1, mf_z25 hm.2.1, mf_r26 hm.2.1, mf_k26 hm.2.1, mf_z26 hm.2.1, mf_r27 hm.2.1, mf_k27 hm.2.1, mf_z27 hm.2.1, mf_r28 hm.2.1, mf_k28 hm.2.1, mf_z28 hm.2.1, mf_r29 hm.2.1, mf_k29 hm.2.1, mf_z29 hm.2.1, mf_r30 hm.2.1, mf_k30 hm.2.1, mf_z30 hm.2.1, mf_r31 hm.2.1, mf_k31 hm.2.1, mf_z31 hm.2.1, mf_r32 hm.2.1, mf_k32 hm.2.1, mf_z32 hm.2.1, mf_r33 hm.2.1, mf_k33 hm.2.1, mf_z33 hm.2.1, mf_r34 hm.2.1, mf_k34 hm.2.1, mf_z34 hm.2.1, mf_r35 hm.2.1, mf_k35 hm.2.1, mf_z35 hm.2.1, mf_r36 hm.2.1, mf_k36 hm.2.1, mf_z36 hm.2.1, hm.2.2.1, hm.2.2.2, w_nn (a := x) (by omega), show ¬ 6 ≤ x by omega, w_tc (a := x) (by omega), q_up_eq, ao_at hx, h1]
      exact h4
theorem ms_some {σ : List Nat} {k : Nat} : ∀ d, q_ms σ k = none → q_ms σ (k + d) = none := by
  intro d
  induction d with
  | zero => exact id
  | succ d ih =>
    intro h
    show q_ms1 σ (k + d) (q_ms σ (k + d)) = none
    rw [ih h]; rfl
theorem ms_len {σ : List Nat} : ∀ k ms, q_ms σ k = some ms → ms.length ≤ k + 1 := by
  intro k
  induction k with
  | zero => intro ms h; injection h with e; subst e; exact Nat.le_refl _
  | succ k ih =>
    intro ms h
    have h' : q_ms1 σ k (q_ms σ k) = some ms := h
    cases hq : q_ms σ k with
    | none => rw [hq] at h'; cases h'
    | some l =>
      rw [hq] at h'
      have := ih l hq
      cases l with
      | nil => cases h'
      | cons a r =>
        unfold q_ms1 at h'
        simp only at h'
        rw [List.length_cons] at this
        split at h'
        · injection h' with e; rw [← e, List.length_cons]; omega
        · split at h'
          · injection h' with e; rw [← e, List.length_cons, List.length_cons]; omega
          · cases h'
theorem rounds_eq (hm : qMF s m f) (hn : n ≤ 6) {σ : List Nat} (hb : ∀ k, k < n → σ.getD k 0 < n) (hs : q_ms σ n ≠ none) : jD 291 [.ref m, .int (w n)] (q_up K (m + 18) (q_ao n o σ), L, s) = some (some (.int (w (q_rd n σ))), q_up K (m + 18) (q_ao n o σ), L, s) := by
  rw [D_291, E_291_0]
  obtain ⟨x, e, a, r, h1, h2, h3⟩ := q_loopE (P := fun k (x : Int32 × Int32) => ∃ a r, q_ms σ k = some (a :: r) ∧ a < 64 ∧ x = (w a, w r.length)) (F := fun k x => jd 291 1 [some (.ref m), some (.int (w n)), some (.int x.1), some (.int x.2), some (.int (w k)), none] [] (q_up K (m + 18) (q_ao n o σ), L, s)) (n := n) (fun k x hk hP => by
    obtain ⟨a, r, h1, h2, h3⟩ := hP
    subst h3
    have hne : q_ms σ (k + 1) ≠ none := fun z => hs (by
      have := ms_some (n - (k + 1)) z
      rw [show k + 1 + (n - (k + 1)) = n by omega] at this
      exact this)
    have e1 : q_ms σ (k + 1) = q_ms1 σ k (some (a :: r)) := by rw [← h1]; rfl
    show ∃ y, jd 291 1 [_, _, some (.int (w a)), some (.int (w r.length)), _, _] [] _ = _ ∧ _
    rw [E_291_1, if_neg (w_nle hk (by omega))]
    simp only [↓reduceIte, q_i, q_l, q_k, q_r, q_z, q_si, q_sl, jx_lt, jx_ri, jx_rl, jx_rv, if_true, if_false, Nat.reduceLeDiff, Nat.add_one_ne_zero, and_self, true_or, or_true, Nat.reduceEqDiff, or_self, or_false, false_or, bit0_or1 h2 (show k < 6 by omega)]
    by_cases c : a / 2 ^ k % 2 = 1
    · refine ⟨(w a, w r.length), ?_, a, r, ?_, h2, rfl⟩
      · rw [if_pos c, if_neg (by decide), E_291_4, w_inc]
      · rw [e1]; unfold q_ms1; simp only [c, if_true]
    · rw [if_neg c, if_pos rfl, E_291_2]
      cases hw : q_wk σ 7 a k with
      | none =>
        exfalso
        apply hne
        rw [e1]; unfold q_ms1; simp only [c, if_false, hw]
      | some a' =>
        obtain ⟨b1, b2⟩ := walk_eq (K := K) (L := L) (o := o) (r := w r.length + 1) (k := w k) hm hn hb 7 a k a' hk h2 hw
        refine ⟨(w a', w (a :: r).length), ?_, a', a :: r, ?_, b1, rfl⟩
        · rw [b2, E_291_4, w_inc, w_inc, List.length_cons]
        · rw [e1]; unfold q_ms1; simp only [c, if_false, hw]) (0, 0) ⟨0, [], rfl, by omega, rfl⟩
  refine Eq.trans e ?_
  subst h3
  show jd 291 1 _ _ _ = _
  rw [E_291_1, if_pos (Int32.le_refl _), E_291_5]
  unfold q_rd
  rw [h1]
  rfl
end HR
