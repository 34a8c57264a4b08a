/-! READING: a new name, on both sides -/
def q_nI (I : qI) (m : Nat) (k v : Int32) : qI := q_up (q_up (q_up I (183 + 1) (q_set (I (183 + 1)) m k)) (185 + 1) (q_set (I (185 + 1)) m v)) 181 (q_set (I 181) 4 (w (m + 1)))
def q_nL (L : qL) (m : Nat) (x : Int64) : qL := q_upl L 182 (q_setl (L 182) m x)
section PW
variable {s s2 : qS} {t f n : Nat} {b : Nat → Nat} {I0 J0 I J : qI} {L0 K0 L K : qL} {Z : qI → qL → qI → qL → Prop} {S U O c : Nat}
theorem c73 (hr : qRdr s t) {m : Nat} (hm : m < 31) (h4 : I 181 4 = w m) (x : Int64) (k v : Int32) : jD 73 [.ref 181, .long x, .int k, .int v] (I, L, s) = some (none, q_nI I m k v, q_nL L m x, s) := by
  obtain ⟨k6, r0, r1, r2, r3, r5, k182, z182, row2, row3, k7, -⟩ := hr
  have e1 : ∀ g, q_up I (183 + 1) g 181 = I 181 := fun g => q_up_ne (by decide)
  have e2 : ∀ g g', q_up (q_up I (183 + 1) g) (185 + 1) g' 181 = I 181 := fun g g' => by rw [q_up_ne (by decide), q_up_ne (by decide)]
  have e3 : ∀ g, q_up I (183 + 1) g (185 + 1) = I (185 + 1) := fun g => q_up_ne (by decide)
  rw [D_73, E_73_0]
  simp only [↓reduceIte, q_i, q_l, q_k, q_r, q_z, q_si, q_sl, jx_lt, jx_ri, jx_rl, jx_rv, if_true, if_false, Nat.reduceLeDiff, Nat.add_one_ne_zero, and_self, true_or, or_true, Nat.reduceEqDiff, or_self, or_false, false_or, k6, r1, k182, z182, h4, show Int32.ofNat 31 = w 31 from rfl, w_nle (show m < 31 by omega) (show 31 < 1000000 by omega), w_nn (a := m) (by omega), show ¬ 31 ≤ m by omega, w_tc (a := m) (by omega), show (20 : Nat) ≤ 21 by decide, show (21 : Nat) ≤ 30 by decide, r2, row2.1, put_eq row2, q_put_w (n := 31) (k := m) (by omega) hm, e1, r3, row3.1, put_eq row3, e3, e2, w_inc, E_73_1]
  rfl
theorem z213b (hm : qMo s2 240) (h4 : qr s2 240 4 = f) (hf : qMf s2 f) (h0 : f ≠ 0) (hc : c ≤ 20) (h13 : J f 13 = w c) (h : J 240 9 = 5) : jd 213 1 [some (.ref 240), none, none] [] (J, K, s2) = some (some (.long (K 240 15)), J, K, s2) := by
  have e2 : jd 213 2 [some (.ref 240), none, none] [] (J, K, s2) = some (some (.long (K 240 15)), J, K, s2) := by
    rw [E_213_2]
    simp only [↓reduceIte, q_i, q_l, q_k, q_r, q_z, q_si, q_sl, jx_lt, jx_ri, jx_rl, jx_rv, if_true, if_false, Nat.reduceLeDiff, Nat.add_one_ne_zero, and_self, true_or, or_true, Nat.reduceEqDiff, or_self, or_false, false_or, mo_k hm, z202 hm h]
  rw [E_213_1]
  rcases m_name (J := J) (K := K) hf hc h13 (K 240 15) with ⟨e, -⟩ | ⟨i, hi, e, -⟩
  · simp only [↓reduceIte, q_i, q_l, q_k, q_r, q_z, q_si, q_sl, jx_lt, jx_ri, jx_rl, jx_rv, if_true, if_false, Nat.reduceLeDiff, Nat.add_one_ne_zero, and_self, true_or, or_true, Nat.reduceEqDiff, or_self, or_false, false_or, mo_k hm, h4, h0, mf_k hf, e, e2]
  · simp only [↓reduceIte, q_i, q_l, q_k, q_r, q_z, q_si, q_sl, jx_lt, jx_ri, jx_rl, jx_rv, if_true, if_false, Nat.reduceLeDiff, Nat.add_one_ne_zero, and_self, true_or, or_true, Nat.reduceEqDiff, or_self, or_false, false_or, mo_k hm, h4, h0, mf_k hf, e, show ¬ w i = (-1 : Int32) from w_m1 (by omega), z203 hm h, e2]
theorem go_new (cx : qCx s s2 t f n b I0 J0) (h : qGo Z t f n I0 L0 J0 K0 I L J K) (hna : qNa S U O c 0 f I L J K) (hc : c < 20) (kc v : Int32) : (I 187 4 = 1 ∧ (∀ I' L', jD 86 [.ref 187] (q_nI I (11 + c) kc v, q_nL L (11 + c) (L 187 5), s) = some (none, I', L', s) → jD 71 [.ref 181, .int kc, .int v] (I, L, s) = some (some (.int 1), I', L', s)) ∧ ∀ J' K', jD 202 [.ref 240] (J, K, s2) = some (none, J', K', s2) → jD 213 [.ref 240] (J, K, s2) = some (some (.long (L 187 5)), J', K', s2)) ∨ (∃ x I' J', jD 71 [.ref 181, .int kc, .int v] (I, L, s) = some (some (.int 0), I', L, s) ∧ jD 213 [.ref 240] (J, K, s2) = some (some (.long x), J', K, s2) ∧ qFa t f n I0 L0 J0 K0 I' L J' K) := by
  obtain ⟨hr, hn, -, hm, h4, hf, h0, hf9, -, -, htx⟩ := id cx
  obtain ⟨k6, r0, r1, r2, r3, r5, k182, z182, row2, row3, k7, -⟩ := id hr
  obtain ⟨n1, n2, n3, n4, n5⟩ := hna
  rw [Nat.add_zero] at n3
  have h9 := h.2.2.1
  obtain ⟨t1, -, -, tx, -⟩ := tk_sort h.2.2.2.1
  have hNm := h.1.2.2.2.2.2.1
  have e211 := m211 (J := J) (K := K) cx
  have h95 : ∀ r, q_up J 240 (q_set (q_set (q_set (J 240) 13 r) 14 (J 240 10)) 9 5) 240 9 = 5 := fun r => by rw [q_up_eq, q_set_eq]
  have hf13 : ∀ g, q_up J 240 g f 13 = w c := fun g => by rw [q_up_ne (by omega)]; exact n4
  have f1 : jd 71 1 [some (.ref 181), none, none, none] [] (I, L, s) = some (some (.int 0), q_up I 181 (q_set (q_set (I 181) 6 (w 1)) 7 (I 187 3)), L, s) := by
    rw [E_71_1]
    simp only [↓reduceIte, q_i, q_l, q_k, q_r, q_z, q_si, q_sl, jx_lt, jx_ri, jx_rl, jx_rv, if_true, if_false, Nat.reduceLeDiff, Nat.add_one_ne_zero, and_self, true_or, or_true, Nat.reduceEqDiff, or_self, or_false, false_or, k6, show (1 : Int32) = w 1 from rfl, c51 hr]
  have z1 : jd 213 1 [some (.ref 240), none, none] [] (q_up J 240 (q_set (q_set (q_set (J 240) 13 1) 14 (J 240 10)) 9 5), K, s2) = some (some (.long (K 240 15)), q_up J 240 (q_set (q_set (q_set (J 240) 13 1) 14 (J 240 10)) 9 5), K, s2) := z213b hm h4 hf h0 (show c ≤ 20 by omega) (hf13 _) (h95 1)
  have z2 : jd 213 2 [some (.ref 240), none, none] [] (q_up J 240 (q_set (q_set (q_set (J 240) 13 3) 14 (J 240 10)) 9 5), K, s2) = some (some (.long (K 240 15)), q_up J 240 (q_set (q_set (q_set (J 240) 13 3) 14 (J 240 10)) 9 5), K, s2) := by
    rw [E_213_2]
    simp only [↓reduceIte, q_i, q_l, q_k, q_r, q_z, q_si, q_sl, jx_lt, jx_ri, jx_rl, jx_rv, if_true, if_false, Nat.reduceLeDiff, Nat.add_one_ne_zero, and_self, true_or, or_true, Nat.reduceEqDiff, or_self, or_false, false_or, mo_k hm, z202 hm (h95 3)]
  by_cases cs : I 187 4 = 1
  · have cs' := t1.mp cs
    have hx := tx cs
    by_cases ck : q_isk (K 240 15)
    · right
      refine ⟨K 240 15, _, _, ?_, ?_, go_fault cx h (r := 1) (by decide) (by decide)⟩
      · obtain ⟨k, hk, ek⟩ := (isk_iff hNm _).mp ck
        rcases c_find (L := L) hr (show 11 + c ≤ 31 by omega) n3 cs with ⟨i, hi, e, e1, e2⟩ | ⟨e, e1⟩
        · have hik : i < 11 := by
            by_cases z : i ≤ k
            · omega
            · exact absurd (ek.trans hx.symm) (e2 k (by omega))
          rw [D_71, E_71_0]
          simp only [↓reduceIte, q_i, q_l, q_k, q_r, q_z, q_si, q_sl, jx_lt, jx_ri, jx_rl, jx_rv, if_true, if_false, Nat.reduceLeDiff, Nat.add_one_ne_zero, and_self, true_or, or_true, Nat.reduceEqDiff, or_self, or_false, false_or, k6, r0, r2, k7, e, cs, show ¬ w i = (-1 : Int32) from w_m1 (by omega), row2.1, look_eq row2, q_at_w (n := 31) (k := i) (by omega) (by omega), (hNm i hik).2.1, f1]
        · exact absurd (ek.trans hx.symm) (e1 k (by omega))
      · rw [if_neg (fun z => z.2 ck)] at e211
        rw [D_213, E_213_0]
        simp only [↓reduceIte, q_i, q_l, q_k, q_r, q_z, q_si, q_sl, jx_lt, jx_ri, jx_rl, jx_rv, if_true, if_false, Nat.reduceLeDiff, Nat.add_one_ne_zero, and_self, true_or, or_true, Nat.reduceEqDiff, or_self, or_false, false_or, mo_k hm, e211, m203 hm h9]
        exact z1
    · have e211' : jD 211 [.ref 240] (J, K, s2) = some (some (.int 1), J, K, s2) := by rw [e211, if_pos ⟨cs', ck⟩]
      have hno : ∀ k, k < 11 → L 182 k ≠ L 187 5 := fun k hk z => ck ((isk_iff hNm _).mpr ⟨k, hk, z.trans hx⟩)
      rcases m_name (J := J) (K := K) hf (show c ≤ 20 by omega) n4 (K 240 15) with ⟨e, e1⟩ | ⟨i, hi, e, e1, e2⟩
      · left
        refine ⟨cs, fun I' L' h86 => ?_, fun J' K' h202 => ?_⟩
        · rcases c_find (L := L) hr (show 11 + c ≤ 31 by omega) n3 cs with ⟨i, hi, d, d1, d2⟩ | ⟨d, d1⟩
          · exfalso
            have hi11 : ¬ i < 11 := fun z => hno i z d1
            have := (n5 (i - 11) (by omega)).1
            rw [show 11 + (i - 11) = i by omega] at this
            exact e1 (i - 11) (by omega) (by rw [← this, d1, hx])
          · rw [D_71, E_71_0]
            simp only [↓reduceIte, q_i, q_l, q_k, q_r, q_z, q_si, q_sl, jx_lt, jx_ri, jx_rl, jx_rv, if_true, if_false, Nat.reduceLeDiff, Nat.add_one_ne_zero, and_self, true_or, or_true, Nat.reduceEqDiff, or_self, or_false, false_or, k6, r0, r2, k7, d, cs]
            rw [E_71_2]
            simp only [↓reduceIte, q_i, q_l, q_k, q_r, q_z, q_si, q_sl, jx_lt, jx_ri, jx_rl, jx_rv, if_true, if_false, Nat.reduceLeDiff, Nat.add_one_ne_zero, and_self, true_or, or_true, Nat.reduceEqDiff, or_self, or_false, false_or]
            rw [E_71_3]
            simp only [↓reduceIte, q_i, q_l, q_k, q_r, q_z, q_si, q_sl, jx_lt, jx_ri, jx_rl, jx_rv, if_true, if_false, Nat.reduceLeDiff, Nat.add_one_ne_zero, and_self, true_or, or_true, Nat.reduceEqDiff, or_self, or_false, false_or, k6, r0, k7, c73 hr (show 11 + c < 31 by omega) n3, h86]
        · rw [D_213, E_213_0]
          simp only [↓reduceIte, q_i, q_l, q_k, q_r, q_z, q_si, q_sl, jx_lt, jx_ri, jx_rl, jx_rv, if_true, if_false, Nat.reduceLeDiff, Nat.add_one_ne_zero, and_self, true_or, or_true, Nat.reduceEqDiff, or_self, or_false, false_or, mo_k hm, e211', show ¬ (1 : Int32) = 0 by decide]
          rw [E_213_1]
          simp only [↓reduceIte, q_i, q_l, q_k, q_r, q_z, q_si, q_sl, jx_lt, jx_ri, jx_rl, jx_rv, if_true, if_false, Nat.reduceLeDiff, Nat.add_one_ne_zero, and_self, true_or, or_true, Nat.reduceEqDiff, or_self, or_false, false_or, mo_k hm, h4, h0, mf_k hf, e]
          rw [E_213_2]
          simp only [↓reduceIte, q_i, q_l, q_k, q_r, q_z, q_si, q_sl, jx_lt, jx_ri, jx_rl, jx_rv, if_true, if_false, Nat.reduceLeDiff, Nat.add_one_ne_zero, and_self, true_or, or_true, Nat.reduceEqDiff, or_self, or_false, false_or, mo_k hm, h202, hx]
      · right
        obtain ⟨m1, m2, m3⟩ := n5 i hi
        have hk3 : I (183 + 1) (11 + i) ≠ 0 := by
          rcases m3 with ⟨z, -⟩ | ⟨z, -⟩ | ⟨z, -⟩ <;> rw [z] <;> decide
        have hfc : jD 74 [.ref 181] (I, L, s) = some (some (.int (w (11 + i))), I, L, s) := by
          rcases c_find (L := L) hr (show 11 + c ≤ 31 by omega) n3 cs with ⟨i', hi', d, d1, d2⟩ | ⟨d, d1⟩
          · have hi11 : ¬ i' < 11 := fun z => hno i' z d1
            have : i' = 11 + i := by
              by_cases z : i' < 11 + i
              · exfalso
                have := (n5 (i' - 11) (by omega)).1
                rw [show 11 + (i' - 11) = i' by omega] at this
                exact e2 (i' - 11) (by omega) (by rw [← this, d1, hx])
              · by_cases z2 : 11 + i < i'
                · exact absurd (by rw [m1, e1, hx]) (d2 (11 + i) z2)
                · omega
            rw [d, this]
          · exact absurd (by rw [m1, e1, hx]) (d1 (11 + i) (by omega))
        refine ⟨K 240 15, _, _, ?_, ?_, go_fault cx h (r := 3) (by decide) (by decide)⟩
        · rw [D_71, E_71_0]
          simp only [↓reduceIte, q_i, q_l, q_k, q_r, q_z, q_si, q_sl, jx_lt, jx_ri, jx_rl, jx_rv, if_true, if_false, Nat.reduceLeDiff, Nat.add_one_ne_zero, and_self, true_or, or_true, Nat.reduceEqDiff, or_self, or_false, false_or, k6, r0, r2, k7, hfc, cs, show ¬ w (11 + i) = (-1 : Int32) from w_m1 (by omega), row2.1, look_eq row2, q_at_w (n := 31) (k := 11 + i) (by omega) (by omega), hk3]
          rw [E_71_2]
          simp only [↓reduceIte, q_i, q_l, q_k, q_r, q_z, q_si, q_sl, jx_lt, jx_ri, jx_rl, jx_rv, if_true, if_false, Nat.reduceLeDiff, Nat.add_one_ne_zero, and_self, true_or, or_true, Nat.reduceEqDiff, or_self, or_false, false_or, k6, show ¬ w (11 + i) = (-1 : Int32) from w_m1 (by omega), show (3 : Int32) = w 3 from rfl, c51 hr]
        · rw [D_213, E_213_0]
          simp only [↓reduceIte, q_i, q_l, q_k, q_r, q_z, q_si, q_sl, jx_lt, jx_ri, jx_rl, jx_rv, if_true, if_false, Nat.reduceLeDiff, Nat.add_one_ne_zero, and_self, true_or, or_true, Nat.reduceEqDiff, or_self, or_false, false_or, mo_k hm, e211', show ¬ (1 : Int32) = 0 by decide]
          rw [E_213_1]
          simp only [↓reduceIte, q_i, q_l, q_k, q_r, q_z, q_si, q_sl, jx_lt, jx_ri, jx_rl, jx_rv, if_true, if_false, Nat.reduceLeDiff, Nat.add_one_ne_zero, and_self, true_or, or_true, Nat.reduceEqDiff, or_self, or_false, false_or, mo_k hm, h4, h0, mf_k hf, e, show ¬ w i = (-1 : Int32) from w_m1 (by omega), m203 hm h9]
          exact z2
  · right
    refine ⟨K 240 15, _, _, ?_, ?_, go_fault cx h (r := 1) (by decide) (by decide)⟩
    · rw [D_71, E_71_0]
      simp only [↓reduceIte, q_i, q_l, q_k, q_r, q_z, q_si, q_sl, jx_lt, jx_ri, jx_rl, jx_rv, if_true, if_false, Nat.reduceLeDiff, Nat.add_one_ne_zero, and_self, true_or, or_true, Nat.reduceEqDiff, or_self, or_false, false_or, k6, r0, k7, c_find0 hr cs, cs, f1]
    · rw [if_neg (fun z => cs (t1.mpr z.1))] at e211
      rw [D_213, E_213_0]
      simp only [↓reduceIte, q_i, q_l, q_k, q_r, q_z, q_si, q_sl, jx_lt, jx_ri, jx_rl, jx_rv, if_true, if_false, Nat.reduceLeDiff, Nat.add_one_ne_zero, and_self, true_or, or_true, Nat.reduceEqDiff, or_self, or_false, false_or, mo_k hm, e211, m203 hm h9]
      exact z1
end PW
