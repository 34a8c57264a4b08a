/-! FEED, LED -/
theorem byte_and (x : Int32) : Int8.toInt32 (Int32.toInt8 x) &&& 255 = x &&& 255 := by
  apply Int32.toBitVec_inj.mp
  rw [Int32.toBitVec_and, Int32.toBitVec_and, Int8.toBitVec_toInt32, Int32.toBitVec_toInt8]
  have h9 : ∀ i, i < 32 → 8 ≤ i → (Int32.toBitVec 255).getLsbD i = false := by decide
  apply BitVec.eq_of_getLsbD_eq
  intro i hi
  rw [BitVec.getLsbD_and, BitVec.getLsbD_and]
  by_cases c : i < 8
  · congr 1
    rw [BitVec.getLsbD_signExtend]
    simp [c, hi, BitVec.getElem_signExtend]
  · rw [h9 i hi (by omega), Bool.and_false, Bool.and_false]
theorem and_255 (x : Int32) : ∃ b, b < 256 ∧ x &&& 255 = w b := by
  refine ⟨x.toBitVec.toNat &&& 255, Nat.lt_of_le_of_lt Nat.and_le_right (by decide), w_of_bv ?_⟩
  have h : x.toBitVec.toNat &&& 255 < 4294967296 := Nat.lt_of_le_of_lt Nat.and_le_right (by decide)
  rw [Nat.mod_eq_of_lt h]
  show (x.toBitVec &&& 255#32).toNat = _
  rw [BitVec.toNat_and]
  rfl
section FD
variable {I : qI} {L : qL} {s : qS} {t t' : Nat} {X : Nat → Int32} {N : Nat}
theorem tape_eq (hx : qXo s t t') {T : Nat} (hT : I 100 12 = w T) (h4 : T + 4 ≤ 1100) (x : Int32) : ∃ J, jD 176 [.ref 100, .int x] (I, L, s) = some (none, J, L, s) ∧ (∀ a, a ≠ 100 → a ≠ 179 + 1 → J a = I a) ∧ (∀ j, j ≠ 12 → J 100 j = I 100 j) ∧ J 100 12 = w (T + 4) ∧
    ∀ j, J (179 + 1) j = if T ≤ j ∧ j < T + 4 then (x >>> (w (24 - 8 * (j - T)) &&& 31)) &&& 255 else I (179 + 1) j := by
  obtain ⟨J, e, h1, h2, h3, h4⟩ := q_loopE (P := fun k (J : qI) => (∀ a, a ≠ 100 → a ≠ 179 + 1 → J a = I a) ∧ (∀ j, j ≠ 12 → J 100 j = I 100 j) ∧ J 100 12 = w (T + k) ∧ ∀ j, J (179 + 1) j = if T ≤ j ∧ j < T + k then (x >>> (w (24 - 8 * (j - T)) &&& 31)) &&& 255 else I (179 + 1) j) (F := fun k J => jd 176 1 [some (.ref 100), some (.int x), some (.int (w (32 - 8 * k) - 8))] [] (J, L, s)) (n := 4) (fun k J hk hJ => by
    obtain ⟨h1, h2, h3, h5⟩ := hJ
    refine ⟨q_up (q_up J (179 + 1) (q_set (J (179 + 1)) (T + k) ((x >>> (w (24 - 8 * k) &&& 31)) &&& 255))) 100 (q_set (J 100) 12 (w (T + (k + 1)))), ?_, fun a z1 z2 => by rw [q_up_ne z1, q_up_ne z2, h1 a z1 z2], fun j hj => by rw [q_up_eq, q_set_ne hj, h2 j hj], by rw [q_up_eq, q_set_eq], fun j => ?_⟩
    · have e1 : w (32 - 8 * k) - 8 = w (24 - 8 * k) := by
        rw [show (8 : Int32) = w 8 from rfl, w_sub (by omega) (by omega), show 32 - 8 * k - 8 = 24 - 8 * k by omega]
      have a1 : ∀ g : Nat → Int32, q_up J (179 + 1) g 100 = J 100 := fun g => q_up_ne (by decide)
      show jd 176 1 _ _ _ = jd 176 1 _ _ _
      rw [E_176_1, e1, if_neg (w_nn (by omega))]
      simp only [↓reduceIte, q_i, q_l, q_k, q_r, q_z, q_si, q_sl, jx_lt, jx_ri, jx_rl, jx_rv, if_true, if_false, Nat.reduceLeDiff, Nat.add_one_ne_zero, and_self, true_or, or_true, Nat.reduceEqDiff, or_self, or_false, false_or, xo_k hx, xo_r0 hx, xo_r1 hx, xo_r2 hx, xo_r3 hx, xo_r4 hx, xo_r5 hx, xo_r6 hx, xo_r7 hx, xo_r8 hx, xo_r9 hx, xo_r10 hx, xo_r11 hx, xo_ka hx, xo_ra0 hx, xo_ra1 hx, xo_ko hx, xo_ro0 hx, xo_ro1 hx, xo_kf hx, xo_rf0 hx, xo_kh hx, xo_rh0 hx, xo_ke hx, xo_re0 hx, xo_re1 hx, xo_kn hx, xo_zn hx, xo_re2 hx, xo_re3 hx, xo_kt hx, xo_rt0 hx, xo_t0 hx, (xo_ft hx).1, (xo_now hx).1, (xo_now hx).2.1, (xo_now hx).2.2.1, (xo_try hx).1, (xo_yr hx).1.1, (xo_ty hx).1, (xo_row179 hx).1, h3, put_eq (xo_row179 hx), q_put_w (n := 1100) (k := T + k) (by omega) (by omega), a1, w_inc]
      rw [show (-8 : Int32) = -(8 : Int32) from rfl, ← Int32.sub_eq_add_neg, show 24 - 8 * k = 32 - 8 * (k + 1) by omega, show T + k + 1 = T + (k + 1) from rfl]
    · rw [q_up_ne (by decide), q_up_eq]
      by_cases c : j = T + k
      · subst c
        rw [q_set_eq, if_pos (by omega), Nat.add_sub_cancel_left]
      · rw [q_set_ne c, h5]
        by_cases c2 : T ≤ j ∧ j < T + k
        · rw [if_pos c2, if_pos (by omega)]
        · rw [if_neg c2, if_neg (by omega)]) I ⟨fun _ _ _ => rfl, fun _ _ => rfl, hT, fun j => by rw [if_neg (by omega)]⟩
  refine ⟨J, ?_, h1, h2, h3, h4⟩
  rw [D_176, E_176_0]
  refine Eq.trans e ?_
  show jd 176 1 _ _ _ = _
  rw [E_176_1, if_pos (by decide), E_176_2]
def q_five (a b c d e : Int32) (m : Nat) : Int32 := [a, b, c, d, e].getD m 0
def q_fed (a b c d e : Int32) (i : Nat) : Int32 := q_five a b c d e (i / 4) >>> (w (24 - 8 * (i % 4)) &&& 31)
theorem fed_c (hx : qXo s t t') {T : Nat} (hT : I 100 12 = w T) (h20 : T + 20 ≤ 1100) (a b c d e : Int32) : ∃ J, jD 114 [.ref 100, .int a, .int b, .int c, .int d, .int e] (I, L, s) = some (some (.int (w (T + 20))), J, L, s) ∧ (∀ a, a ≠ 100 → a ≠ 179 + 1 → J a = I a) ∧ (∀ j, j ≠ 12 → J 100 j = I 100 j) ∧ J 100 12 = w (T + 20) ∧
    ∀ j, J (179 + 1) j = if T ≤ j ∧ j < T + 20 then q_fed a b c d e (j - T) &&& 255 else I (179 + 1) j := by
  obtain ⟨J1, e1, p1, p2, p3, p4⟩ := tape_eq (L := L) hx hT (by omega) a
  obtain ⟨J2, e2, q1, q2, q3, q4⟩ := tape_eq (I := J1) (L := L) hx p3 (by omega) b
  obtain ⟨J3, e3, r1, r2, r3, r4⟩ := tape_eq (I := J2) (L := L) hx q3 (by omega) c
  obtain ⟨J4, e4, s1, s2, s3, s4⟩ := tape_eq (I := J3) (L := L) hx r3 (by omega) d
  obtain ⟨J5, e5, u1, u2, u3, u4⟩ := tape_eq (I := J4) (L := L) hx s3 (by omega) e
  have e9 : T + 4 + 4 + 4 + 4 + 4 = T + 20 := by omega
  rw [e9] at u3
  refine ⟨J5, ?_, fun x z1 z2 => by rw [u1 x z1 z2, s1 x z1 z2, r1 x z1 z2, q1 x z1 z2, p1 x z1 z2], fun j hj => by rw [u2 j hj, s2 j hj, r2 j hj, q2 j hj, p2 j hj], u3, fun j => ?_⟩
  · simp only [D_114, E_114_0, E_114_1, ↓reduceIte, q_i, q_l, q_k, q_r, q_z, q_si, q_sl, jx_lt, jx_ri, jx_rl, jx_rv, if_true, if_false, Nat.reduceLeDiff, Nat.add_one_ne_zero, and_self, true_or, or_true, Nat.reduceEqDiff, or_self, or_false, false_or, xo_k hx, hT, show (20 : Int32) = w 20 from rfl, w_add, show (1100 : Int32) = w 1100 from rfl, w_le' h20 (by omega), e1, e2, e3, e4, e5, u3]
  · rw [u4, s4, r4, q4, p4]
    unfold q_fed
    by_cases c0 : T ≤ j ∧ j < T + 20
    · rw [if_pos c0]
      obtain ⟨i, rfl, hi⟩ : ∃ i, j = T + i ∧ i < 20 := ⟨j - T, by omega, by omega⟩
      rw [Nat.add_sub_cancel_left]
      by_cases c1 : i < 4
      · rw [if_neg (by omega), if_neg (by omega), if_neg (by omega), if_neg (by omega), if_pos (by omega), show i / 4 = 0 by omega, show i % 4 = i by omega]
        rfl
      · by_cases c2 : i < 8
        · rw [if_neg (by omega), if_neg (by omega), if_neg (by omega), if_pos (by omega), show i / 4 = 1 by omega, show T + i - (T + 4) = i % 4 by omega]
          rfl
        · by_cases c3 : i < 12
          · rw [if_neg (by omega), if_neg (by omega), if_pos (by omega), show i / 4 = 2 by omega, show T + i - (T + 4 + 4) = i % 4 by omega]
            rfl
          · by_cases c4 : i < 16
            · rw [if_neg (by omega), if_pos (by omega), show i / 4 = 3 by omega, show T + i - (T + 4 + 4 + 4) = i % 4 by omega]
              rfl
            · rw [if_pos (by omega), show i / 4 = 4 by omega, show T + i - (T + 4 + 4 + 4 + 4) = i % 4 by omega]
              rfl
    · rw [if_neg c0, if_neg (by omega), if_neg (by omega), if_neg (by omega), if_neg (by omega), if_neg (by omega)]
theorem rem4 {a : Nat} (h : a < 1000000) : w a - w a / 4 * 4 = w (a % 4) := rem_w (a := a) (b := 4) (by omega) (by omega) (by omega)
theorem fed_m (hm : qMo s 240) {T : Nat} (hT : I 240 6 = w T) (h20 : T + 20 ≤ 1100) (a b c d e : Int32) : ∃ J, jD 231 [.ref 240, .int a, .int b, .int c, .int d, .int e] (I, L, s) = some (some (.int (w (T + 20))), J, L, s) ∧ (∀ a, a ≠ 240 → a ≠ 240 + 1 → J a = I a) ∧ (∀ j, j ≠ 0 → j ≠ 6 → J 240 j = I 240 j) ∧ J 240 6 = w (T + 20) ∧
    ∀ j, J (240 + 1) j &&& 255 = if T ≤ j ∧ j < T + 20 then q_fed a b c d e (j - T) &&& 255 else I (240 + 1) j &&& 255 := by
  obtain ⟨J, e, h1, h2, h3, h4⟩ := q_loopE (P := fun k (J : qI) => (∀ a, a ≠ 240 → a ≠ 240 + 1 → J a = I a) ∧ (∀ j, j ≠ 0 → j ≠ 6 → J 240 j = I 240 j) ∧ J 240 6 = w (T + k) ∧ ∀ j, J (240 + 1) j &&& 255 = if T ≤ j ∧ j < T + k then q_fed a b c d e (j - T) &&& 255 else I (240 + 1) j &&& 255) (F := fun k J => jd 231 2 [some (.ref 240), some (.int a), some (.int b), some (.int c), some (.int d), some (.int e), some (.int (w k)), none] [] (J, L, s)) (n := 20) (fun k J hk hJ => by
    obtain ⟨h1, h2, h3, h5⟩ := hJ
    have hv : jd 231 2 [some (.ref 240), some (.int a), some (.int b), some (.int c), some (.int d), some (.int e), some (.int (w k)), none] [] (J, L, s) = jd 231 7 [some (.ref 240), some (.int a), some (.int b), some (.int c), some (.int d), some (.int e), some (.int (w k)), none] [.int (q_five a b c d e (k / 4))] (J, L, s) := by
      have q : ∀ m, m < 100 → ((w m ≤ w k) ↔ m ≤ k) := fun m hm => w_le (by omega) (by omega)
      rw [E_231_2, show (20 : Int32) = w 20 from rfl, show (4 : Int32) = w 4 from rfl, if_neg (by rw [q 20 (by omega)]; omega)]
      by_cases c1 : k < 4
      · rw [if_neg (by rw [q 4 (by omega)]; omega), show k / 4 = 0 by omega]
        rfl
      · rw [if_pos (by rw [q 4 (by omega)]; omega), E_231_3, show (8 : Int32) = w 8 from rfl]
        by_cases c2 : k < 8
        · rw [if_neg (by rw [q 8 (by omega)]; omega), show k / 4 = 1 by omega]
          rfl
        · rw [if_pos (by rw [q 8 (by omega)]; omega), E_231_4, show (12 : Int32) = w 12 from rfl]
          by_cases c3 : k < 12
          · rw [if_neg (by rw [q 12 (by omega)]; omega), show k / 4 = 2 by omega]
            rfl
          · rw [if_pos (by rw [q 12 (by omega)]; omega), E_231_5, show (16 : Int32) = w 16 from rfl]
            by_cases c4 : k < 16
            · rw [if_neg (by rw [q 16 (by omega)]; omega), show k / 4 = 3 by omega]
              rfl
            · rw [if_pos (by rw [q 16 (by omega)]; omega), E_231_6, show k / 4 = 4 by omega]
              rfl
    refine ⟨q_up (q_up J (240 + 1) (q_set (J (240 + 1)) (T + k) (Int8.toInt32 (Int32.toInt8 (Int8.toInt32 (Int32.toInt8 (q_fed a b c d e k))))))) 240 (q_set (J 240) 6 (w (T + (k + 1)))), ?_, fun a z1 z2 => by rw [q_up_ne z1, q_up_ne z2, h1 a z1 z2], fun j z1 z2 => by rw [q_up_eq, q_set_ne z2, h2 j z1 z2], by rw [q_up_eq, q_set_eq], fun j => ?_⟩
    · have a1 : ∀ g : Nat → Int32, q_up J (240 + 1) g 240 = J 240 := fun g => q_up_ne (by decide)
      show jd 231 2 _ _ _ = jd 231 2 _ _ _
      rw [hv, E_231_7]
      simp only [rem4 (a := k) (by omega), show (8 : Int32) = w 8 from rfl, show (24 : Int32) = w 24 from rfl, show ¬ (4 : Int32) = 0 by decide, w_mul, w_sub (a := 24) (b := 8 * (k % 4)) (by omega) (by omega), ↓reduceIte, q_i, q_l, q_k, q_r, q_z, q_si, q_sl, jx_lt, jx_ri, jx_rl, jx_rv, if_true, if_false, Nat.reduceLeDiff, Nat.add_one_ne_zero, and_self, true_or, or_true, Nat.reduceEqDiff, or_self, or_false, false_or, mo_k hm, mo_r5 hm, mo_k5 hm, mo_z5 hm, h3, w_nn (a := T + k) (by omega), show ¬ 1100 ≤ T + k by omega, w_tc (a := T + k) (by omega), a1, w_inc]
      rfl
    · rw [q_up_ne (by decide), q_up_eq]
      by_cases c : j = T + k
      · subst c
        rw [q_set_eq, if_pos (by omega), Nat.add_sub_cancel_left, byte_and, byte_and]
      · rw [q_set_ne c, h5]
        by_cases c2 : T ≤ j ∧ j < T + k
        · rw [if_pos c2, if_pos (by omega)]
        · rw [if_neg c2, if_neg (by omega)]) (mZ I 240) ⟨fun a z1 z2 => q_up_ne z1, fun j z1 z2 => by rw [mZ, q_up_eq, q_set_ne z1], by rw [mZ, q_up_eq, q_set_ne (by decide)]; exact hT, fun j => by rw [if_neg (by omega)]; rfl⟩
  have z6 : mZ I 240 240 6 = w T := by rw [mZ, q_up_eq, q_set_ne (by decide)]; exact hT
  refine ⟨J, ?_, h1, h2, h3, h4⟩
  rw [D_231, E_231_0]
  simp only [↓reduceIte, q_i, q_l, q_k, q_r, q_z, q_si, q_sl, jx_lt, jx_ri, jx_rl, jx_rv, if_true, if_false, Nat.reduceLeDiff, Nat.add_one_ne_zero, and_self, true_or, or_true, Nat.reduceEqDiff, or_self, or_false, false_or, mo_k hm, q_mZ, z6, show (20 : Int32) = w 20 from rfl, w_add, show (1100 : Int32) = w 1100 from rfl, w_le' h20 (by omega), E_231_1]
  refine Eq.trans e ?_
  show jd 231 2 _ _ _ = _
  rw [E_231_2, if_pos (by decide), E_231_8]
  simp only [↓reduceIte, q_i, q_l, q_k, q_r, q_z, q_si, q_sl, jx_lt, jx_ri, jx_rl, jx_rv, if_true, if_false, Nat.reduceLeDiff, Nat.add_one_ne_zero, and_self, true_or, or_true, Nat.reduceEqDiff, or_self, or_false, false_or, mo_k hm, h3]
theorem s_feed (ok : qOk I L s t t' X N) (a b c d e : Int32) : qStep I L s X N 114 [.ref 100, .int a, .int b, .int c, .int d, .int e] 231 [.ref 240, .int a, .int b, .int c, .int d, .int e] := by
  have hx := st_x ok.2.2.2.1
  have hm := st_m ok.2.2.2.1
  obtain ⟨o1, o2, o3, o4, o5⟩ := id ok
  obtain ⟨⟨T, e1, hT, e2⟩, o22⟩ := o2
  by_cases h20 : T + 20 ≤ 1100
  · obtain ⟨J1, c1, c2, c3, c4, c5⟩ := fed_c (L := L) hx e1 h20 a b c d e
    obtain ⟨J2, m1, m2, m3, m4, m5⟩ := fed_m (I := J1) (L := L) hm (T := T) (by rw [c2 240 (by decide) (by decide)]; exact e2) h20 a b c d e
    have c240 : J1 240 = I 240 := c2 240 (by decide) (by decide)
    have j100 : J2 100 = J1 100 := m2 100 (by decide) (by decide)
    have jj : ∀ a, a ≠ 240 → a ≠ 240 + 1 → a ≠ 100 → a ≠ 179 + 1 → J2 a = I a := fun a z1 z2 z3 z4 => by rw [m2 a z1 z2, c2 a z3 z4]
    have hW : qFrW I J2 t' (qn s) := by
      refine ⟨fun a z1 z2 z3 _ _ => jj a (fun z => z1 (by subst z; unfold qSc; omega)) (by omega) (fun z => z1 (by subst z; unfold qSc; omega)) (by omega), ?_, ?_⟩
      · rw [m3 19 (by decide) (by decide), c240]
      · rw [m3 20 (by decide) (by decide), c240]
    refine ⟨.int (w (T + 20)), J1, L, s, J2, L, s, t, t', c1, m1, (c2 1 (by decide) (by decide)).trans o5.1, o5.2.1, o5.2.2.1, hm.1, ⟨nm_fr (fun _ => rfl) (jj _ (by decide) (by decide) (by decide) (by decide)) (jj _ (by decide) (by decide) (by decide) (by decide)) o1, ⟨⟨T + 20, by rw [j100]; exact c4, h20, m4⟩, fun k hk => ?_⟩, ⟨?_, ?_, ?_⟩, st_W o5.2.2.2.2.2.2 o4 hW (kw_of ks_refl), sx_kw o5 (jj 1 (by decide) (by decide) (by decide) (by decide)) (kw_of ks_refl)⟩, Nat.le_add_right _ _, Nat.le_add_right _ _⟩
    · rw [m5, m2 (179 + 1) (by decide) (by decide), c5]
      by_cases ck : T ≤ k ∧ k < T + 20
      · rw [if_pos ck, if_pos ck]
        obtain ⟨b9, z1, z2⟩ := and_255 (q_fed a b c d e (k - T))
        exact ⟨b9, z1, z2, z2⟩
      · rw [if_neg ck, if_neg ck, c2 (240 + 1) (by decide) (by decide)]
        exact o22 k hk
    · rw [j100, c3 14 (by decide), m3 13 (by decide) (by decide), c240]; exact o3.1
    · rw [j100, c3 13 (by decide), m3 1 (by decide) (by decide), c240]; exact o3.2.1
    · rw [j100, c3 13 (by decide), c3 15 (by decide), m3 2 (by decide) (by decide), c240]; exact o3.2.2
  · have hno : ¬ w (T + 20) ≤ w 1100 := by rw [w_le (by omega) (by omega)]; exact h20
    have z6 : mZ I 240 240 6 = w T := by rw [mZ, q_up_eq, q_set_ne (by decide)]; exact e2
    refine step_Z (v := .int (-1)) ok ?_ ?_
    · simp only [D_114, E_114_0, ↓reduceIte, q_i, q_l, q_k, q_r, q_z, q_si, q_sl, jx_lt, jx_ri, jx_rl, jx_rv, if_true, if_false, Nat.reduceLeDiff, Nat.add_one_ne_zero, and_self, true_or, or_true, Nat.reduceEqDiff, or_self, or_false, false_or, xo_k hx, e1, show (20 : Int32) = w 20 from rfl, w_add, show (1100 : Int32) = w 1100 from rfl, hno]
    · simp only [D_231, E_231_0, ↓reduceIte, q_i, q_l, q_k, q_r, q_z, q_si, q_sl, jx_lt, jx_ri, jx_rl, jx_rv, if_true, if_false, Nat.reduceLeDiff, Nat.add_one_ne_zero, and_self, true_or, or_true, Nat.reduceEqDiff, or_self, or_false, false_or, mo_k hm, q_mZ, z6, show (20 : Int32) = w 20 from rfl, w_add, show (1100 : Int32) = w 1100 from rfl, hno]
/-! led -/
theorem Y_fall {D : Nat → Nat → Int32} {P : Nat → Int32} {U : Nat} {sd : Int32} : ∀ n, n ≤ 20 → ∀ u, (q_Y D P U sd n).2.2.1 u = -2 ∨ ¬ (q_Y D P U sd n).2.2.1 u < 0 := by
  intro n
  induction n with
  | zero => exact fun _ u => Or.inl rfl
  | succ n ih =>
    intro hn
    have key : ∀ (ai fl : Nat → Int32) (k : Nat) (x : qY), (∀ u, x.2.2.1 u = -2 ∨ ¬ x.2.2.1 u < 0) → ∀ u, (q_it (q_move D ai fl n) k x).2.2.1 u = -2 ∨ ¬ (q_it (q_move D ai fl n) k x).2.2.1 u < 0 := by
      intro ai fl k
      induction k with
      | zero => exact fun x h => h
      | succ k ik =>
        intro x h u
        have h2 := ik x h
        show (q_move D ai fl n k (q_it _ k x)).2.2.1 u = -2 ∨ ¬ (q_move D ai fl n k (q_it _ k x)).2.2.1 u < 0
        generalize q_it (q_move D ai fl n) k x = z at h2
        unfold q_move
        split
        · exact h2 u
        · split
          · exact h2 u
          · show q_set z.2.2.1 k (w n) u = -2 ∨ ¬ q_set z.2.2.1 k (w n) u < 0
            unfold q_set
            split
            · exact Or.inr (w_nn (by omega))
            · exact h2 u
    exact key _ _ U _ (ih (by omega))
def q_led (fa : Nat → Int32) (a : Int32) (U : Nat) : Nat → Int32 → Option Nat
  | 0, _ => none
  | k + 1, c => if fa (U - (k + 1)) < 0 then q_led fa a U k c else if c = a then some (U - (k + 1)) else q_led fa a U k (c + 1)
def q_thr (s : qS) : qS := (s.1, s.2.1, s.2.2.1, s.2.2.2.1 + 1, s.2.2.2.2 + 6)
def qLf (I K : qI) : Prop := qFr I K ∧ K 100 = I 100 ∧ K 240 1 = I 240 1 ∧ K 240 2 = I 240 2
/-- led: both answer the same, or both refuse -/
def qLed (I : qI) (L : qL) (s : qS) (a : Int32) : Prop :=
  (∃ v, jD 160 [.ref 100, .int a] (I, L, s) = some (some (.int v), I, L, s) ∧ ∀ L', ∃ K, jD 312 [.ref 240, .int a] (I, L', s) = some (some (.int v), K, L', s) ∧ K 240 0 = 0 ∧ qLf I K) ∨
  (jD 160 [.ref 100, .int a] (I, L, s) = some (some .null, I, L, q_thr s) ∧ ∃ K, jD 312 [.ref 240, .int a] (I, L, q_thr s) = some (some (.int 0), K, L, q_thr s) ∧ K 240 0 = 1 ∧ qLf I K)
theorem led_m {f U S dn R O W : Nat} (h1 : qH1 I s t t' f U S dn R O W) (hy : qYY I t U dn) (L : qL) (a : Int32) : ∃ K, jD 312 [.ref 240, .int a] (I, L, s) = some (match q_led (I (199 + 1 + 2 * 3 + 1)) a U U 0 with
    | some v => (some (.int (w v)), K, L, s)
    | none => (some (.int 0), K, L, s)) ∧ K 240 0 = (match q_led (I (199 + 1 + 2 * 3 + 1)) a U U 0 with
    | some _ => 0
    | none => 1) ∧ qLf I K := by
  obtain ⟨hU, hU9⟩ := h1_U h1
  obtain ⟨hd, hd0, hd9⟩ := h1_d h1
  obtain ⟨hx, hm, hf, hT⟩ := id h1
  obtain ⟨xi, xl, xp, xs, xf, xa, xt, sd, e1, -, h2⟩ := mY (L := L) h1 hy (J := mZ I 240) (tie_Z (by omega) hT)
  have ht := tie_mm (xi := xi) (xl := xl) (xp := xp) (xs := xs) (xf := xf) (xa := xa) (xt := xt) (sd := sd) (by omega) (tie_Z (by omega) hT)
  generalize hK : q_mm (mZ I 240) 240 xi xl xp xs xf xa xt sd = K at e1 ht
  have k250 : K (240 + 10) = xa := by rw [← hK]; exact q_mm_xa
  have kfr : qFr I K := by rw [← hK]; exact fr_zm
  have k100 : K 100 = I 100 := by rw [← hK]; exact mm_x
  have k240 : ∀ j, j ≠ 0 → j ≠ 28 → K 240 j = I 240 j := fun j z1 z2 => by
    rw [← hK, q_mm_o, q_set_ne z2, mZ, q_up_eq, q_set_ne z1]
  have k0 : K 240 0 = 0 := by rw [← hK, q_mm_o, q_set_ne (by decide), mZ, q_up_eq, q_set_eq]
  have hfa : ∀ u, u < U → (xa u = -2 ↔ I (199 + 1 + 2 * 3 + 1) u < 0) := fun u hu => by
    rw [(h2 u hu).2.2.1, (hy.2.1 u hu).2.2]
    rcases Y_fall (D := qd I t) (P := I (188 + 2)) (U := U) (sd := -1) dn hd9 u with z | z
    · rw [z]; exact ⟨fun _ => m2_lt, fun _ => rfl⟩
    · exact ⟨fun e => absurd (by rw [e]; exact m2_lt) z, fun e => absurd e z⟩
  have key : ∀ k u (c : Int32), u + k = U → jd 312 2 [some (.ref 240), some (.int a), some (.int c), some (.int (w u))] [] (K, L, s) = some (match q_led (I (199 + 1 + 2 * 3 + 1)) a U k c with
      | some v => (some (.int (w v)), K, L, s)
      | none => (some (.int 0), q_up K 240 (q_set (K 240) 0 1), L, s)) := by
    intro k
    induction k with
    | zero =>
      intro u c hu
      obtain rfl : u = U := by omega
      rw [E_312_2]
      simp only [↓reduceIte, q_i, q_l, q_k, q_r, q_z, q_si, q_sl, jx_lt, jx_ri, jx_rl, jx_rv, if_true, if_false, Nat.reduceLeDiff, Nat.add_one_ne_zero, and_self, true_or, or_true, Nat.reduceEqDiff, or_self, or_false, false_or, mo_k hm.1, mo_r5 hm.1, mo_k5 hm.1, mo_z5 hm.1, mo_r16 hm.1, mo_k16 hm.1, mo_z16 hm.1, mo_r17 hm.1, mo_k17 hm.1, mo_z17 hm.1, mo_r18 hm.1, mo_k18 hm.1, mo_z18 hm.1, mo_r21 hm.1, mo_k21 hm.1, mo_z21 hm.1, mo_r22 hm.1, mo_k22 hm.1, mo_z22 hm.1, mo_r23 hm.1, mo_k23 hm.1, mo_z23 hm.1, mo_r24 hm.1, mo_k24 hm.1, mo_z24 hm.1, mo_r25 hm.1, mo_k25 hm.1, mo_z25 hm.1, mo_r26 hm.1, mo_k26 hm.1, mo_z26 hm.1, mo_r27 hm.1, mo_k27 hm.1, mo_z27 hm.1, mo_r29 hm.1, mo_k29 hm.1, mo_z29 hm.1, mo_r30 hm.1, mo_k30 hm.1, mo_z30 hm.1, mo_r31 hm.1, mo_k31 hm.1, mo_z31 hm.1, mo_r32 hm.1, mo_k32 hm.1, mo_z32 hm.1, mo_r40 hm.1, mo_k40 hm.1, mo_z40 hm.1, mo_r43 hm.1, mo_k43 hm.1, mo_z43 hm.1, mo_r44 hm.1, mo_k44 hm.1, mo_z44 hm.1, mf_k hm.2.1, mf_r14 hm.2.1, mf_k14 hm.2.1, mf_z14 hm.2.1, mf_r15 hm.2.1, mf_k15 hm.2.1, mf_z15 hm.2.1, mf_r16 hm.2.1, mf_k16 hm.2.1, mf_z16 hm.2.1, mf_r17 hm.2.1, mf_k17 hm.2.1, mf_z17 hm.2.1, mf_r18 hm.2.1, mf_k18 hm.2.1, mf_z18 hm.2.1, mf_r19 hm.2.1, mf_k19 hm.2.1, mf_z19 hm.2.1, mf_r20 hm.2.1, mf_k20 hm.2.1, mf_z20 hm.2.1, mf_r21 hm.2.1, mf_k21 hm.2.1, mf_z21 hm.2.1, mf_r22 hm.2.1, mf_k22 hm.2.1, mf_z22 hm.2.1, mf_r23 hm.2.1, mf_k23 hm.2.1, mf_z23 hm.2.1, mf_r24 hm.2.1, mf_k24 hm.2.1, mf_z24 hm.2.1, mf_r25 hm.2.1, mf_k25 hm.2.1, mf_z25 hm.2.1, mf_r26 hm.2.1, mf_k26 hm.2.1, mf_z26 hm.2.1, mf_r27 hm.2.1, mf_k27 hm.2.1, mf_z27 hm.2.1, mf_r28 hm.2.1, mf_k28 hm.2.1, mf_z28 hm.2.1, mf_r29 hm.2.1, mf_k29 hm.2.1, mf_z29 hm.2.1, mf_r30 hm.2.1, mf_k30 hm.2.1, mf_z30 hm.2.1, mf_r31 hm.2.1, mf_k31 hm.2.1, mf_z31 hm.2.1, mf_r32 hm.2.1, mf_k32 hm.2.1, mf_z32 hm.2.1, mf_r33 hm.2.1, mf_k33 hm.2.1, mf_z33 hm.2.1, mf_r34 hm.2.1, mf_k34 hm.2.1, mf_z34 hm.2.1, mf_r35 hm.2.1, mf_k35 hm.2.1, mf_z35 hm.2.1, mf_r36 hm.2.1, mf_k36 hm.2.1, mf_z36 hm.2.1, hm.2.2.1, hm.2.2.2, tie_5 ht, Int32.le_refl, E_312_6, q_led]
    | succ k ih =>
      intro u c hu
      rw [E_312_2]
      have e9 : q_led (I (199 + 1 + 2 * 3 + 1)) a U (k + 1) c = if I (199 + 1 + 2 * 3 + 1) u < 0 then q_led (I (199 + 1 + 2 * 3 + 1)) a U k c else if c = a then some u else q_led (I (199 + 1 + 2 * 3 + 1)) a U k (c + 1) := by
        show (if I (199 + 1 + 2 * 3 + 1) (U - (k + 1)) < 0 then _ else if c = a then some (U - (k + 1)) else _) = _
        rw [show U - (k + 1) = u by omega]
      rw [e9]
      have hf2 := hfa u (by omega)
      by_cases c1 : I (199 + 1 + 2 * 3 + 1) u < 0
      · rw [if_pos c1]
        simp only [↓reduceIte, q_i, q_l, q_k, q_r, q_z, q_si, q_sl, jx_lt, jx_ri, jx_rl, jx_rv, if_true, if_false, Nat.reduceLeDiff, Nat.add_one_ne_zero, and_self, true_or, or_true, Nat.reduceEqDiff, or_self, or_false, false_or, mo_k hm.1, mo_r5 hm.1, mo_k5 hm.1, mo_z5 hm.1, mo_r16 hm.1, mo_k16 hm.1, mo_z16 hm.1, mo_r17 hm.1, mo_k17 hm.1, mo_z17 hm.1, mo_r18 hm.1, mo_k18 hm.1, mo_z18 hm.1, mo_r21 hm.1, mo_k21 hm.1, mo_z21 hm.1, mo_r22 hm.1, mo_k22 hm.1, mo_z22 hm.1, mo_r23 hm.1, mo_k23 hm.1, mo_z23 hm.1, mo_r24 hm.1, mo_k24 hm.1, mo_z24 hm.1, mo_r25 hm.1, mo_k25 hm.1, mo_z25 hm.1, mo_r26 hm.1, mo_k26 hm.1, mo_z26 hm.1, mo_r27 hm.1, mo_k27 hm.1, mo_z27 hm.1, mo_r29 hm.1, mo_k29 hm.1, mo_z29 hm.1, mo_r30 hm.1, mo_k30 hm.1, mo_z30 hm.1, mo_r31 hm.1, mo_k31 hm.1, mo_z31 hm.1, mo_r32 hm.1, mo_k32 hm.1, mo_z32 hm.1, mo_r40 hm.1, mo_k40 hm.1, mo_z40 hm.1, mo_r43 hm.1, mo_k43 hm.1, mo_z43 hm.1, mo_r44 hm.1, mo_k44 hm.1, mo_z44 hm.1, mf_k hm.2.1, mf_r14 hm.2.1, mf_k14 hm.2.1, mf_z14 hm.2.1, mf_r15 hm.2.1, mf_k15 hm.2.1, mf_z15 hm.2.1, mf_r16 hm.2.1, mf_k16 hm.2.1, mf_z16 hm.2.1, mf_r17 hm.2.1, mf_k17 hm.2.1, mf_z17 hm.2.1, mf_r18 hm.2.1, mf_k18 hm.2.1, mf_z18 hm.2.1, mf_r19 hm.2.1, mf_k19 hm.2.1, mf_z19 hm.2.1, mf_r20 hm.2.1, mf_k20 hm.2.1, mf_z20 hm.2.1, mf_r21 hm.2.1, mf_k21 hm.2.1, mf_z21 hm.2.1, mf_r22 hm.2.1, mf_k22 hm.2.1, mf_z22 hm.2.1, mf_r23 hm.2.1, mf_k23 hm.2.1, mf_z23 hm.2.1, mf_r24 hm.2.1, mf_k24 hm.2.1, mf_z24 hm.2.1, mf_r25 hm.2.1, mf_k25 hm.2.1, mf_z25 hm.2.1, mf_r26 hm.2.1, mf_k26 hm.2.1, mf_z26 hm.2.1, mf_r27 hm.2.1, mf_k27 hm.2.1, mf_z27 hm.2.1, mf_r28 hm.2.1, mf_k28 hm.2.1, mf_z28 hm.2.1, mf_r29 hm.2.1, mf_k29 hm.2.1, mf_z29 hm.2.1, mf_r30 hm.2.1, mf_k30 hm.2.1, mf_z30 hm.2.1, mf_r31 hm.2.1, mf_k31 hm.2.1, mf_z31 hm.2.1, mf_r32 hm.2.1, mf_k32 hm.2.1, mf_z32 hm.2.1, mf_r33 hm.2.1, mf_k33 hm.2.1, mf_z33 hm.2.1, mf_r34 hm.2.1, mf_k34 hm.2.1, mf_z34 hm.2.1, mf_r35 hm.2.1, mf_k35 hm.2.1, mf_z35 hm.2.1, mf_r36 hm.2.1, mf_k36 hm.2.1, mf_z36 hm.2.1, hm.2.2.1, hm.2.2.2, tie_5 ht, w_nle (k := u) (n := U) (by omega) (by omega), w_nn (a := u) (by omega), show ¬ 6 ≤ u by omega, w_tc (a := u) (by omega), k250, hf2.mpr c1, E_312_5, w_inc]
        exact ih (u + 1) c (by omega)
      · rw [if_neg c1]
        have c1' : ¬ xa u = -2 := fun z => c1 (hf2.mp z)
        simp only [↓reduceIte, q_i, q_l, q_k, q_r, q_z, q_si, q_sl, jx_lt, jx_ri, jx_rl, jx_rv, if_true, if_false, Nat.reduceLeDiff, Nat.add_one_ne_zero, and_self, true_or, or_true, Nat.reduceEqDiff, or_self, or_false, false_or, mo_k hm.1, mo_r5 hm.1, mo_k5 hm.1, mo_z5 hm.1, mo_r16 hm.1, mo_k16 hm.1, mo_z16 hm.1, mo_r17 hm.1, mo_k17 hm.1, mo_z17 hm.1, mo_r18 hm.1, mo_k18 hm.1, mo_z18 hm.1, mo_r21 hm.1, mo_k21 hm.1, mo_z21 hm.1, mo_r22 hm.1, mo_k22 hm.1, mo_z22 hm.1, mo_r23 hm.1, mo_k23 hm.1, mo_z23 hm.1, mo_r24 hm.1, mo_k24 hm.1, mo_z24 hm.1, mo_r25 hm.1, mo_k25 hm.1, mo_z25 hm.1, mo_r26 hm.1, mo_k26 hm.1, mo_z26 hm.1, mo_r27 hm.1, mo_k27 hm.1, mo_z27 hm.1, mo_r29 hm.1, mo_k29 hm.1, mo_z29 hm.1, mo_r30 hm.1, mo_k30 hm.1, mo_z30 hm.1, mo_r31 hm.1, mo_k31 hm.1, mo_z31 hm.1, mo_r32 hm.1, mo_k32 hm.1, mo_z32 hm.1, mo_r40 hm.1, mo_k40 hm.1, mo_z40 hm.1, mo_r43 hm.1, mo_k43 hm.1, mo_z43 hm.1, mo_r44 hm.1, mo_k44 hm.1, mo_z44 hm.1, mf_k hm.2.1, mf_r14 hm.2.1, mf_k14 hm.2.1, mf_z14 hm.2.1, mf_r15 hm.2.1, mf_k15 hm.2.1, mf_z15 hm.2.1, mf_r16 hm.2.1, mf_k16 hm.2.1, mf_z16 hm.2.1, mf_r17 hm.2.1, mf_k17 hm.2.1, mf_z17 hm.2.1, mf_r18 hm.2.1, mf_k18 hm.2.1, mf_z18 hm.2.1, mf_r19 hm.2.1, mf_k19 hm.2.1, mf_z19 hm.2.1, mf_r20 hm.2.1, mf_k20 hm.2.1, mf_z20 hm.2.1, mf_r21 hm.2.1, mf_k21 hm.2.1, mf_z21 hm.2.1, mf_r22 hm.2.1, mf_k22 hm.2.1, mf_z22 hm.2.1, mf_r23 hm.2.1, mf_k23 hm.2.1, mf_z23 hm.2.1, mf_r24 hm.2.1, mf_k24 hm.2.1, mf_z24 hm.2.1, mf_r25 hm.2.1, mf_k25 hm.2.1, mf_z25 hm.2.1, mf_r26 hm.2.1, mf_k26 hm.2.1, mf_z26 hm.2.1, mf_r27 hm.2.1, mf_k27 hm.2.1, mf_z27 hm.2.1, mf_r28 hm.2.1, mf_k28 hm.2.1, mf_z28 hm.2.1, mf_r29 hm.2.1, mf_k29 hm.2.1, mf_z29 hm.2.1, mf_r30 hm.2.1, mf_k30 hm.2.1, mf_z30 hm.2.1, mf_r31 hm.2.1, mf_k31 hm.2.1, mf_z31 hm.2.1, mf_r32 hm.2.1, mf_k32 hm.2.1, mf_z32 hm.2.1, mf_r33 hm.2.1, mf_k33 hm.2.1, mf_z33 hm.2.1, mf_r34 hm.2.1, mf_k34 hm.2.1, mf_z34 hm.2.1, mf_r35 hm.2.1, mf_k35 hm.2.1, mf_z35 hm.2.1, mf_r36 hm.2.1, mf_k36 hm.2.1, mf_z36 hm.2.1, hm.2.2.1, hm.2.2.2, tie_5 ht, w_nle (k := u) (n := U) (by omega) (by omega), w_nn (a := u) (by omega), show ¬ 6 ≤ u by omega, w_tc (a := u) (by omega), k250, c1', E_312_3]
        by_cases c2 : c = a
        · rw [if_pos c2, if_pos c2]
        · rw [if_neg c2, if_neg c2, E_312_4, E_312_5, w_inc]
          exact ih (u + 1) (c + 1) (by omega)
  have e9 : jD 312 [.ref 240, .int a] (I, L, s) = jd 312 2 [some (.ref 240), some (.int a), some (.int 0), some (.int (w 0))] [] (K, L, s) := by
    rw [D_312, E_312_0]
    simp only [↓reduceIte, q_i, q_l, q_k, q_r, q_z, q_si, q_sl, jx_lt, jx_ri, jx_rl, jx_rv, if_true, if_false, Nat.reduceLeDiff, Nat.add_one_ne_zero, and_self, true_or, or_true, Nat.reduceEqDiff, or_self, or_false, false_or, mo_k hm.1, mo_r5 hm.1, mo_k5 hm.1, mo_z5 hm.1, mo_r16 hm.1, mo_k16 hm.1, mo_z16 hm.1, mo_r17 hm.1, mo_k17 hm.1, mo_z17 hm.1, mo_r18 hm.1, mo_k18 hm.1, mo_z18 hm.1, mo_r21 hm.1, mo_k21 hm.1, mo_z21 hm.1, mo_r22 hm.1, mo_k22 hm.1, mo_z22 hm.1, mo_r23 hm.1, mo_k23 hm.1, mo_z23 hm.1, mo_r24 hm.1, mo_k24 hm.1, mo_z24 hm.1, mo_r25 hm.1, mo_k25 hm.1, mo_z25 hm.1, mo_r26 hm.1, mo_k26 hm.1, mo_z26 hm.1, mo_r27 hm.1, mo_k27 hm.1, mo_z27 hm.1, mo_r29 hm.1, mo_k29 hm.1, mo_z29 hm.1, mo_r30 hm.1, mo_k30 hm.1, mo_z30 hm.1, mo_r31 hm.1, mo_k31 hm.1, mo_z31 hm.1, mo_r32 hm.1, mo_k32 hm.1, mo_z32 hm.1, mo_r40 hm.1, mo_k40 hm.1, mo_z40 hm.1, mo_r43 hm.1, mo_k43 hm.1, mo_z43 hm.1, mo_r44 hm.1, mo_k44 hm.1, mo_z44 hm.1, mf_k hm.2.1, mf_r14 hm.2.1, mf_k14 hm.2.1, mf_z14 hm.2.1, mf_r15 hm.2.1, mf_k15 hm.2.1, mf_z15 hm.2.1, mf_r16 hm.2.1, mf_k16 hm.2.1, mf_z16 hm.2.1, mf_r17 hm.2.1, mf_k17 hm.2.1, mf_z17 hm.2.1, mf_r18 hm.2.1, mf_k18 hm.2.1, mf_z18 hm.2.1, mf_r19 hm.2.1, mf_k19 hm.2.1, mf_z19 hm.2.1, mf_r20 hm.2.1, mf_k20 hm.2.1, mf_z20 hm.2.1, mf_r21 hm.2.1, mf_k21 hm.2.1, mf_z21 hm.2.1, mf_r22 hm.2.1, mf_k22 hm.2.1, mf_z22 hm.2.1, mf_r23 hm.2.1, mf_k23 hm.2.1, mf_z23 hm.2.1, mf_r24 hm.2.1, mf_k24 hm.2.1, mf_z24 hm.2.1, mf_r25 hm.2.1, mf_k25 hm.2.1, mf_z25 hm.2.1, mf_r26 hm.2.1, mf_k26 hm.2.1, mf_z26 hm.2.1, mf_r27 hm.2.1, mf_k27 hm.2.1, mf_z27 hm.2.1, mf_r28 hm.2.1, mf_k28 hm.2.1, mf_z28 hm.2.1, mf_r29 hm.2.1, mf_k29 hm.2.1, mf_z29 hm.2.1, mf_r30 hm.2.1, mf_k30 hm.2.1, mf_z30 hm.2.1, mf_r31 hm.2.1, mf_k31 hm.2.1, mf_z31 hm.2.1, mf_r32 hm.2.1, mf_k32 hm.2.1, mf_z32 hm.2.1, mf_r33 hm.2.1, mf_k33 hm.2.1, mf_z33 hm.2.1, mf_r34 hm.2.1, mf_k34 hm.2.1, mf_z34 hm.2.1, mf_r35 hm.2.1, mf_k35 hm.2.1, mf_z35 hm.2.1, mf_r36 hm.2.1, mf_k36 hm.2.1, mf_z36 hm.2.1, hm.2.2.1, hm.2.2.2, q_mZ, e1, E_312_1]
    rfl
  rw [key U 0 0 (by omega)] at e9
  cases hq : q_led (I (199 + 1 + 2 * 3 + 1)) a U U 0 with
  | some v =>
    rw [hq] at e9
    exact ⟨K, e9, k0, kfr, k100, k240 1 (by decide) (by decide), k240 2 (by decide) (by decide)⟩
  | none =>
    rw [hq] at e9
    refine ⟨_, e9, by rw [q_up_eq, q_set_eq], fr_trans kfr (fr_m (by simp [q_set])), by rw [q_up_ne (by decide)]; exact k100, ?_, ?_⟩
    · rw [q_up_eq, q_set_ne (by decide)]; exact k240 1 (by decide) (by decide)
    · rw [q_up_eq, q_set_ne (by decide)]; exact k240 2 (by decide) (by decide)
theorem led_c {f U S dn R O W : Nat} (h1 : qH1 I s t t' f U S dn R O W) (L : qL) (a : Int32) : jD 160 [.ref 100, .int a] (I, L, s) = some (match q_led (I (199 + 1 + 2 * 3 + 1)) a U U 0 with
    | some v => (some (.int (w v)), I, L, s)
    | none => (some .null, I, L, q_thr s)) := by
  obtain ⟨hU, hU9⟩ := h1_U h1
  obtain ⟨hx, hm, hf, hT⟩ := id h1
  have ry := yr_k (xo_yr hx).1 (k := 3) (n := 6) (by omega) rfl
  have key : ∀ k u (c : Int32), u + k = U → jd 160 1 [some (.ref 100), some (.int a), some (.int c), some (.int (w u))] [] (I, L, s) = some (match q_led (I (199 + 1 + 2 * 3 + 1)) a U k c with
      | some v => (some (.int (w v)), I, L, s)
      | none => (some .null, I, L, q_thr s)) := by
    intro k
    induction k with
    | zero =>
      intro u c hu
      obtain rfl : u = U := by omega
      rw [E_160_1]
      simp only [↓reduceIte, q_i, q_l, q_k, q_r, q_z, q_si, q_sl, jx_lt, jx_ri, jx_rl, jx_rv, if_true, if_false, Nat.reduceLeDiff, Nat.add_one_ne_zero, and_self, true_or, or_true, Nat.reduceEqDiff, or_self, or_false, false_or, xo_k hx, xo_r0 hx, xo_r1 hx, xo_r2 hx, xo_r3 hx, xo_r4 hx, xo_r5 hx, xo_r6 hx, xo_r7 hx, xo_r8 hx, xo_r9 hx, xo_r10 hx, xo_r11 hx, xo_ka hx, xo_ra0 hx, xo_ra1 hx, xo_ko hx, xo_ro0 hx, xo_ro1 hx, xo_kf hx, xo_rf0 hx, xo_kh hx, xo_rh0 hx, xo_ke hx, xo_re0 hx, xo_re1 hx, xo_kn hx, xo_zn hx, xo_re2 hx, xo_re3 hx, xo_kt hx, xo_rt0 hx, xo_t0 hx, (xo_ft hx).1, (xo_now hx).1, (xo_now hx).2.1, (xo_now hx).2.2.1, (xo_try hx).1, (xo_yr hx).1.1, (xo_ty hx).1, (xo_ft hx).1, umbs_eq (xo_ft hx), hU, Int32.le_refl, E_160_4, q_led]
      rfl
    | succ k ih =>
      intro u c hu
      rw [E_160_1]
      have e9 : q_led (I (199 + 1 + 2 * 3 + 1)) a U (k + 1) c = if I (199 + 1 + 2 * 3 + 1) u < 0 then q_led (I (199 + 1 + 2 * 3 + 1)) a U k c else if c = a then some u else q_led (I (199 + 1 + 2 * 3 + 1)) a U k (c + 1) := by
        show (if I (199 + 1 + 2 * 3 + 1) (U - (k + 1)) < 0 then _ else if c = a then some (U - (k + 1)) else _) = _
        rw [show U - (k + 1) = u by omega]
      rw [e9]
      simp only [↓reduceIte, q_i, q_l, q_k, q_r, q_z, q_si, q_sl, jx_lt, jx_ri, jx_rl, jx_rv, if_true, if_false, Nat.reduceLeDiff, Nat.add_one_ne_zero, and_self, true_or, or_true, Nat.reduceEqDiff, or_self, or_false, false_or, xo_k hx, xo_r0 hx, xo_r1 hx, xo_r2 hx, xo_r3 hx, xo_r4 hx, xo_r5 hx, xo_r6 hx, xo_r7 hx, xo_r8 hx, xo_r9 hx, xo_r10 hx, xo_r11 hx, xo_ka hx, xo_ra0 hx, xo_ra1 hx, xo_ko hx, xo_ro0 hx, xo_ro1 hx, xo_kf hx, xo_rf0 hx, xo_kh hx, xo_rh0 hx, xo_ke hx, xo_re0 hx, xo_re1 hx, xo_kn hx, xo_zn hx, xo_re2 hx, xo_re3 hx, xo_kt hx, xo_rt0 hx, xo_t0 hx, (xo_ft hx).1, (xo_now hx).1, (xo_now hx).2.1, (xo_now hx).2.2.1, (xo_try hx).1, (xo_yr hx).1.1, (xo_ty hx).1, (xo_ft hx).1, umbs_eq (xo_ft hx), hU, w_nle (k := u) (n := U) (by omega) (by omega), (xo_yr hx).1.1, ry.1, ry.2.1, look_eq ry.2, q_at_w (n := 6) (k := u) (by omega) (by omega)]
      by_cases c1 : I (199 + 1 + 2 * 3 + 1) u < 0
      · rw [if_pos c1, if_pos c1, E_160_3, w_inc]
        exact ih (u + 1) c (by omega)
      · rw [if_neg c1, if_neg c1]
        by_cases c2 : c = a
        · rw [if_pos c2, if_pos c2]
        · rw [if_neg c2, if_neg c2, E_160_2, E_160_3, w_inc]
          exact ih (u + 1) (c + 1) (by omega)
  rw [D_160, E_160_0]
  exact key U 0 0 (by omega)
theorem s_led (ok : qSt I s t t') (a : Int32) : qLed I L s a := by
  rcases ok with h0 | ⟨f, U, S, dn, R, O, W, hv, hfn⟩
  · obtain ⟨hx, hm, h3, h4, h5, h6⟩ := h0
    have hU : qd I t 0 5 = w 0 := h4 5 (by omega)
    have hq : qr (q_thr s) 240 3 = 0 := h3
    have hk : qk (q_thr s) 240 = 13 := hm.1
    refine Or.inr ⟨?_, q_up (mZ I 240) 240 (q_set (mZ I 240 240) 0 1), ?_, by rw [q_up_eq, q_set_eq], fr_trans fr_mZ (fr_m (by simp [q_set])), by rw [q_up_ne (by decide)]; exact fr_x13, ?_, ?_⟩
    · rw [D_160, E_160_0, E_160_1]
      simp only [↓reduceIte, q_i, q_l, q_k, q_r, q_z, q_si, q_sl, jx_lt, jx_ri, jx_rl, jx_rv, if_true, if_false, Nat.reduceLeDiff, Nat.add_one_ne_zero, and_self, true_or, or_true, Nat.reduceEqDiff, or_self, or_false, false_or, xo_k hx, xo_r0 hx, xo_r1 hx, xo_r2 hx, xo_r3 hx, xo_r4 hx, xo_r5 hx, xo_r6 hx, xo_r7 hx, xo_r8 hx, xo_r9 hx, xo_r10 hx, xo_r11 hx, xo_ka hx, xo_ra0 hx, xo_ra1 hx, xo_ko hx, xo_ro0 hx, xo_ro1 hx, xo_kf hx, xo_rf0 hx, xo_kh hx, xo_rh0 hx, xo_ke hx, xo_re0 hx, xo_re1 hx, xo_kn hx, xo_zn hx, xo_re2 hx, xo_re3 hx, xo_kt hx, xo_rt0 hx, xo_t0 hx, (xo_ft hx).1, (xo_now hx).1, (xo_now hx).2.1, (xo_now hx).2.2.1, (xo_try hx).1, (xo_yr hx).1.1, (xo_ty hx).1, (xo_ft hx).1, umbs_eq (xo_ft hx), hU, show w 0 ≤ (0 : Int32) by decide, E_160_4]
      rfl
    · rw [D_312, E_312_0]
      simp only [↓reduceIte, q_i, q_l, q_k, q_r, q_z, q_si, q_sl, jx_lt, jx_ri, jx_rl, jx_rv, if_true, if_false, Nat.reduceLeDiff, Nat.add_one_ne_zero, and_self, true_or, or_true, Nat.reduceEqDiff, or_self, or_false, false_or, hk, hq, q_mZ, E_312_1, E_312_2, E_312_6]
    · rw [q_up_eq, q_set_ne (by decide), mZ, q_up_eq, q_set_ne (by decide)]
    · rw [q_up_eq, q_set_ne (by decide), mZ, q_up_eq, q_set_ne (by decide)]
  · obtain ⟨h1, hy, -, -, -, -⟩ := hv
    have ec := led_c h1 L a
    cases hq : q_led (I (199 + 1 + 2 * 3 + 1)) a U U 0 with
    | some v =>
      rw [hq] at ec
      refine Or.inl ⟨w v, ec, fun L' => ?_⟩
      obtain ⟨K, e1, e2, e3⟩ := led_m h1 hy L' a
      rw [hq] at e1 e2
      exact ⟨K, e1, e2, e3⟩
    | none =>
      rw [hq] at ec
      have h1' : qH1 I (q_thr s) t t' f U S dn R O W := h1
      obtain ⟨K, e1, e2, e3⟩ := led_m h1' hy L a
      rw [hq] at e1 e2
      exact Or.inr ⟨ec, K, e1, e2, e3⟩
end FD
