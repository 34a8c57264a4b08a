/-! READING: the line of one that flies, both sides -/
/-- what is told while a way is read: the stops told so far are in the reference's row -/
def qZl (t f : Nat) (h9 : Nat → Int32) (h v d : Nat) (g : Nat → Nat) (C : Nat → Nat) (I : qI) (L : qL) (J : qI) (K : qL) : Prop :=
  qZp t f 0 C I L (q_up J (f + 9) h9) K ∧ (∀ u i, u ≠ v → i < 5 → J (f + 9) (5 * u + i) = h9 (5 * u + i)) ∧ (∀ i, i < d → J (f + 9) (5 * v + i) = w (g i)) ∧ q_path (qd I t) (C 3) h g d ∧ qd I t 6 v = w h ∧ qd I t 7 v = -2
theorem q_upc {J : qI} {a b : Nat} {x y : Nat → Int32} (h : a ≠ b) : q_up (q_up J a x) b y = q_up (q_up J b y) a x := by
  funext k
  unfold q_up
  by_cases c : k = b
  · rw [if_pos c, if_neg (fun z => h (z.symm.trans c)), if_pos c]
  · rw [if_neg c, if_neg c]
section PFl
variable {s s2 : qS} {t f n : Nat} {b : Nat → Nat} {I0 J0 I J : qI} {L0 K0 L K : qL} {C : Nat → Nat} {h9 : Nat → Int32} {h v d c : Nat} {g : Nat → Nat}
theorem zl_stab (ht : t = 101 ∨ t = 140) (hf : 260 ≤ f) : qStab (qZl t f h9 h v d g C) := by
  intro I L J K gg hh g' h' ⟨z1, z2, z3, z4, z5, z6⟩
  have e : qd (q_up I 187 gg) t = qd I t := qd_same fun a h1 h2 => q_up_ne (by omega)
  refine ⟨?_, ?_, ?_, ?_, ?_, ?_⟩
  · rw [q_upc (show (240 : Nat) ≠ f + 9 by omega)]
    exact zp_stab ht hf _ _ _ _ _ _ _ _ z1
  · rw [q_up_ne (show f + 9 ≠ 240 by omega)]; exact z2
  · rw [q_up_ne (show f + 9 ≠ 240 by omega)]; exact z3
  · rw [e]; exact z4
  · rw [e]; exact z5
  · rw [e]; exact z6
theorem na_l (z : qZl t f h9 h v d g C I L J K) : qNa (C 3) (C 5) (C 8) (C 3 + C 5 + C 8) 0 f I L J K := by
  have y := z.1.1
  unfold qNa at y ⊢
  rw [q_up_ne (show f ≠ f + 9 by omega), q_up_ne (show f + 22 ≠ f + 9 by omega), q_up_ne (show f + 23 ≠ f + 9 by omega)] at y
  exact y
theorem l_wind (z : qZl t f h9 h v d g C I L J K) {i : Nat} (hi : i < 64) : (qd I t 2 i < 0 ∧ J (f + 2) i = -1) ∨ (¬ qd I t 2 i < 0 ∧ ∃ a, J (f + 2) i = w a ∧ a ≤ 9) := by
  have e : qme (q_up J (f + 9) h9) f 2 = J (f + 2) := by rw [me_at (by omega), q_up_ne (by omega)]
  have y := z.1.2.2.2.1.1 i hi
  rw [e] at y
  rcases y with ⟨y1, y2⟩ | ⟨a, c, y1, y2, -, -, y3, -⟩
  · exact Or.inl ⟨by rw [y1]; decide, y2⟩
  · exact Or.inr ⟨by rw [y1]; exact w_nn (by omega), a, y3, y2⟩
theorem ix5 {a c : Nat} : 5 * w a + w c = w (5 * a + c) := by
  rw [show (5 : Int32) = w 5 from rfl, w_mul, w_add]
theorem z224_6 (hm : qMo s2 240) (hk : J 240 9 = 5) (x1 x2 x4 x6 : Int32) : jd 224 6 [some (.ref 240), some (.int x1), some (.int x2), none, some (.int x4), none, some (.int x6)] [] (J, K, s2) = some (none, J, K, s2) := by
  rw [E_224_6]
  simp only [↓reduceIte, q_i, q_l, q_k, q_r, q_z, q_si, q_sl, jx_lt, jx_ri, jx_rl, jx_rv, if_true, if_false, Nat.reduceLeDiff, Nat.add_one_ne_zero, and_self, true_or, or_true, Nat.reduceEqDiff, or_self, or_false, false_or, mo_k hm, z202 hm hk, hk]
theorem z224_5 (hm : qMo s2 240) (hk : J 240 9 = 5) (x1 x2 x3 x4 x6 : Int32) : jd 224 5 [some (.ref 240), some (.int x1), some (.int x2), some (.int x3), some (.int x4), none, some (.int x6)] [] (J, K, s2) = some (none, J, K, s2) := by
  rw [E_224_5]
  simp only [↓reduceIte, q_i, q_l, q_k, q_r, q_z, q_si, q_sl, jx_lt, jx_ri, jx_rl, jx_rv, if_true, if_false, Nat.reduceLeDiff, Nat.add_one_ne_zero, and_self, true_or, or_true, Nat.reduceEqDiff, or_self, or_false, false_or, mo_k hm, hk, z224_6 hm hk]
theorem z224_3 (hm : qMo s2 240) (h4 : qr s2 240 4 = f) (hf : qMf s2 f) (h0 : f ≠ 0) (hc : c ≤ 20) (h13 : J f 13 = w c) (hk : J 240 9 = 5) (x1 x2 x3 : Int32) : jd 224 3 [some (.ref 240), some (.int x1), some (.int x2), none, none, none, none] [.int x3] (J, K, s2) = some (none, J, K, s2) := by
  rw [E_224_3, E_224_4, if_neg (by decide)]
  simp only [↓reduceIte, q_i, q_l, q_k, q_r, q_z, q_si, q_sl, jx_lt, jx_ri, jx_rl, jx_rv, if_true, if_false, Nat.reduceLeDiff, Nat.add_one_ne_zero, and_self, true_or, or_true, Nat.reduceEqDiff, or_self, or_false, false_or, mo_k hm, z215 hm h4 hf h0 hc h13 hk, show ¬ (0 : Int32) = 5 by decide, z224_5 hm hk]
theorem z224_1 (hm : qMo s2 240) (h4 : qr s2 240 4 = f) (hf : qMf s2 f) (h0 : f ≠ 0) (hc : c ≤ 20) (h13 : J f 13 = w c) (hk : J 240 9 = 5) (x1 : Int32) : jd 224 1 [some (.ref 240), some (.int x1), none, none, none, none, none] [] (J, K, s2) = some (none, J, K, s2) := by
  rw [E_224_1]
  simp only [↓reduceIte, q_i, q_l, q_k, q_r, q_z, q_si, q_sl, jx_lt, jx_ri, jx_rl, jx_rv, if_true, if_false, Nat.reduceLeDiff, Nat.add_one_ne_zero, and_self, true_or, or_true, Nat.reduceEqDiff, or_self, or_false, false_or, mo_k hm, z202 hm hk, z210 hm h4 hf h0 hk, hk, z224_3 hm h4 hf h0 hc h13 hk]
/-- the reference takes a sign where it stands -/
theorem m205_y (hm : qMo s2 240) {x : Int32} (k9 : J 240 9 = 4) (k11 : J 240 11 = x) {J1 : qI} {K1 : qL} (e : jD 202 [.ref 240] (J, K, s2) = some (none, J1, K1, s2)) : jD 205 [.ref 240, .int x] (J, K, s2) = some (some (.int 1), J1, K1, s2) := by
  rw [D_205, E_205_0]
  simp only [↓reduceIte, q_i, q_l, q_k, q_r, q_z, q_si, q_sl, jx_lt, jx_ri, jx_rl, jx_rv, if_true, if_false, Nat.reduceLeDiff, Nat.add_one_ne_zero, and_self, true_or, or_true, Nat.reduceEqDiff, or_self, or_false, false_or, mo_k hm, k9, k11]
  rw [E_205_2, if_neg (by decide)]
  simp only [↓reduceIte, q_i, q_l, q_k, q_r, q_z, q_si, q_sl, jx_lt, jx_ri, jx_rl, jx_rv, if_true, if_false, Nat.reduceLeDiff, Nat.add_one_ne_zero, and_self, true_or, or_true, Nat.reduceEqDiff, or_self, or_false, false_or, mo_k hm, e]
  rw [E_205_3, if_pos (Or.inr rfl)]
theorem m205_n (hm : qMo s2 240) {x : Int32} (hk : ¬ (J 240 9 = 4 ∧ J 240 11 = x)) : jD 205 [.ref 240, .int x] (J, K, s2) = some (some (.int 0), J, K, s2) := by
  have e : jd 205 1 [some (.ref 240), none, none] [] (J, K, s2) = some (some (.int 0), J, K, s2) := by
    rw [E_205_1, E_205_2, if_pos rfl, E_205_3, if_pos (Or.inl rfl)]
  rw [D_205, E_205_0]
  by_cases c1 : J 240 9 = 4
  · have c2 : ¬ J 240 11 = x := fun z => hk ⟨c1, z⟩
    simp only [↓reduceIte, q_i, q_l, q_k, q_r, q_z, q_si, q_sl, jx_lt, jx_ri, jx_rl, jx_rv, if_true, if_false, Nat.reduceLeDiff, Nat.add_one_ne_zero, and_self, true_or, or_true, Nat.reduceEqDiff, or_self, or_false, false_or, mo_k hm, c1, c2, e]
  · simp only [↓reduceIte, q_i, q_l, q_k, q_r, q_z, q_si, q_sl, jx_lt, jx_ri, jx_rl, jx_rv, if_true, if_false, Nat.reduceLeDiff, Nat.add_one_ne_zero, and_self, true_or, or_true, Nat.reduceEqDiff, or_self, or_false, false_or, mo_k hm, c1, e]
theorem route_rel (cx : qCx s s2 t f n b I0 J0) (hv : v < 6) (hh : h < C 3) (l3 : C 3 ≤ 8) (dd : Int32) : ∀ m d g I L J K, d + m = 5 → qGo (qZl t f h9 h v d g C) t f n I0 L0 J0 K0 I L J K → (∃ k g' I' L' J' K', 0 < k ∧ k ≤ 5 ∧ jd 61 1 [some (.ref 181), none, some (.int (w (q_cd g d))), some (.int (w (if d = 0 then h else g (d - 1)))), some (.int 1), some (.int (w d)), none] [] (I, L, s) = some (some (.int (w (q_cd g' k))), I', L', s) ∧ jd 224 4 [some (.ref 240), some (.int (w v)), some (.int dd), some (.int (w (if d = 0 then h else g (d - 1)))), some (.int (w d)), some (.int 1), none] [] (J, K, s2) = jd 224 8 [some (.ref 240), some (.int (w v)), some (.int dd), none, some (.int (w k)), none, none] [] (J', K', s2) ∧ qGo (qZl t f h9 h v k g' C) t f n I0 L0 J0 K0 I' L' J' K') ∨ (∃ I' L' J' K', jd 61 1 [some (.ref 181), none, some (.int (w (q_cd g d))), some (.int (w (if d = 0 then h else g (d - 1)))), some (.int 1), some (.int (w d)), none] [] (I, L, s) = some (some (.int (-1)), I', L', s) ∧ jd 224 4 [some (.ref 240), some (.int (w v)), some (.int dd), some (.int (w (if d = 0 then h else g (d - 1)))), some (.int (w d)), some (.int 1), none] [] (J, K, s2) = some (none, J', K', s2) ∧ qFa t f n I0 L0 J0 K0 I' L' J' K') := by
  obtain ⟨hr, hn, -, hm, h4, hf, hf0, hf9, -, -, htx⟩ := id cx
  obtain ⟨k6, r0, r1, r2, r3, r5, k182, z182, row2, row3, k7, r7, rt, hfl, ht⟩ := id hr
  have t0 : ¬ t = 0 := by omega
  intro m
  induction m with
  | zero =>
    intro d g I L J K hd hg
    have h55 : w d = (5 : Int32) := by rw [show d = 5 by omega]; rfl
    have hlt : ¬ (5 : Int32) < w d := by rw [h55]; decide
    obtain ⟨cu, hcu⟩ : ∃ cu, cu = (if d = 0 then h else g (d - 1)) := ⟨_, rfl⟩
    rw [← hcu]
    right
    rcases go_find (kc := 3) (kr := 0) (N := C 3) cx hg (na_l hg.2.2.2.2) (fun z => absurd z (by decide)) (Or.inl ⟨rfl, rfl, rfl⟩) with ⟨x, hx, cs, e72, e215⟩ | ⟨I', J', e72, e215, fa⟩
    · have fa := go_fault cx hg (r := 5) (by decide) (by decide)
      have h51 : (q_up J 240 (q_set (q_set (q_set (J 240) 13 5) 14 (J 240 10)) 9 5)) 240 9 = 5 := fa_5 fa
      refine ⟨_, _, _, _, ?_, ?_, fa⟩
      · rw [E_61_1, if_neg hlt, if_neg (by decide)]
        simp only [↓reduceIte, q_i, q_l, q_k, q_r, q_z, q_si, q_sl, jx_lt, jx_ri, jx_rl, jx_rv, if_true, if_false, Nat.reduceLeDiff, Nat.add_one_ne_zero, and_self, true_or, or_true, Nat.reduceEqDiff, or_self, or_false, false_or, k6, e72, show ¬ w x = (-1 : Int32) from w_m1 (by omega)]
        rw [E_61_2, if_pos h55]
        simp only [↓reduceIte, q_i, q_l, q_k, q_r, q_z, q_si, q_sl, jx_lt, jx_ri, jx_rl, jx_rv, if_true, if_false, Nat.reduceLeDiff, Nat.add_one_ne_zero, and_self, true_or, or_true, Nat.reduceEqDiff, or_self, or_false, false_or, k6, c52 hr]
        rfl
      · rw [E_224_4, if_neg (by decide)]
        simp only [↓reduceIte, q_i, q_l, q_k, q_r, q_z, q_si, q_sl, jx_lt, jx_ri, jx_rl, jx_rv, if_true, if_false, Nat.reduceLeDiff, Nat.add_one_ne_zero, and_self, true_or, or_true, Nat.reduceEqDiff, or_self, or_false, false_or, mo_k hm, e215]
        rw [if_pos h55]
        simp only [↓reduceIte, q_i, q_l, q_k, q_r, q_z, q_si, q_sl, jx_lt, jx_ri, jx_rl, jx_rv, if_true, if_false, Nat.reduceLeDiff, Nat.add_one_ne_zero, and_self, true_or, or_true, Nat.reduceEqDiff, or_self, or_false, false_or, mo_k hm, m203 hm hg.2.2.1, z224_5 hm h51]
        rfl
    · have h5 := fa_5 fa
      refine ⟨_, _, _, _, ?_, ?_, fa⟩
      · rw [E_61_1, if_neg hlt, if_neg (by decide)]
        simp only [↓reduceIte, q_i, q_l, q_k, q_r, q_z, q_si, q_sl, jx_lt, jx_ri, jx_rl, jx_rv, if_true, if_false, Nat.reduceLeDiff, Nat.add_one_ne_zero, and_self, true_or, or_true, Nat.reduceEqDiff, or_self, or_false, false_or, k6, e72]
      · rw [E_224_4, if_neg (by decide)]
        simp only [↓reduceIte, q_i, q_l, q_k, q_r, q_z, q_si, q_sl, jx_lt, jx_ri, jx_rl, jx_rv, if_true, if_false, Nat.reduceLeDiff, Nat.add_one_ne_zero, and_self, true_or, or_true, Nat.reduceEqDiff, or_self, or_false, false_or, mo_k hm, e215]
        rw [if_pos h55]
        simp only [↓reduceIte, q_i, q_l, q_k, q_r, q_z, q_si, q_sl, jx_lt, jx_ri, jx_rl, jx_rv, if_true, if_false, Nat.reduceLeDiff, Nat.add_one_ne_zero, and_self, true_or, or_true, Nat.reduceEqDiff, or_self, or_false, false_or, mo_k hm, z203 hm h5, z224_5 hm h5]
  | succ m ih =>
    intro d g I L J K hd hg
    have h55 : ¬ w d = (5 : Int32) := fun z => by
      have := (w_eq (a := d) (b := 5) (by omega) (by omega)).mp z
      omega
    have hlt : ¬ (5 : Int32) < w d := by rw [show (5 : Int32) = w 5 from rfl, w_lt (by omega) (by omega)]; omega
    have hlt' : ¬ (5 : Int32) < w (d + 1) := by rw [show (5 : Int32) = w 5 from rfl, w_lt (by omega) (by omega)]; omega
    have hp := hg.2.2.2.2.2.2.2.1
    obtain ⟨cu, hcu⟩ : ∃ cu, cu = (if d = 0 then h else g (d - 1)) := ⟨_, rfl⟩
    have cu8 : cu < C 3 := by
      rw [hcu]
      by_cases z : d = 0
      · rw [if_pos z]; exact hh
      · rw [if_neg z]; exact hp.1 _ (by omega)
    have h1z : ¬ (1 : Int32) = 0 := by decide
    rcases go_find (kc := 3) (kr := 0) (N := C 3) cx hg (na_l hg.2.2.2.2) (fun z => absurd z (by decide)) (Or.inl ⟨rfl, rfl, rfl⟩) with ⟨x, hx, cs, e72, e215⟩ | ⟨I', J', e72, e215, fa⟩
    · have mx : ¬ w x = (-1 : Int32) := w_m1 (by omega)
      have hwi : jD 22 [.ref t, .int (w cu), .int (w x)] (I, L, s) = some (some (.int (qd I t 2 (8 * cu + x))), I, L, s) := by
        rw [windOf_eq hfl, ix8.1, q_at_w (by omega) (by omega)]
      rcases l_wind hg.2.2.2.2 (i := 8 * cu + x) (by omega) with ⟨hw, hJw⟩ | ⟨hw, a, hJw, ha9⟩
      · right
        rw [← hcu]
        have fa := go_fault cx hg (r := 7) (by decide) (by decide)
        have h51 : (q_up J 240 (q_set (q_set (q_set (J 240) 13 7) 14 (J 240 10)) 9 5)) 240 9 = 5 := fa_5 fa
        have e186 := mWay_eq (L := K) hf (a := cu) (b := x) (by omega) (by omega) hJw
        rw [if_pos rfl] at e186
        have hw0 : ¬ 0 ≤ qd I t 2 (8 * cu + x) := Int32.not_le.mpr hw
        refine ⟨_, _, _, _, ?_, ?_, fa⟩
        · rw [E_61_1, if_neg hlt, if_neg (by decide)]
          simp only [↓reduceIte, q_i, q_l, q_k, q_r, q_z, q_si, q_sl, jx_lt, jx_ri, jx_rl, jx_rv, if_true, if_false, Nat.reduceLeDiff, Nat.add_one_ne_zero, and_self, true_or, or_true, Nat.reduceEqDiff, or_self, or_false, false_or, k6, e72, mx]
          rw [E_61_2, if_neg h55, E_61_3]
          simp only [↓reduceIte, q_i, q_l, q_k, q_r, q_z, q_si, q_sl, jx_lt, jx_ri, jx_rl, jx_rv, if_true, if_false, Nat.reduceLeDiff, Nat.add_one_ne_zero, and_self, true_or, or_true, Nat.reduceEqDiff, or_self, or_false, false_or, k6, r5, t0, hfl.1, hwi, hw0, c52 hr]
          rfl
        · rw [E_224_4, if_neg (by decide)]
          simp only [↓reduceIte, q_i, q_l, q_k, q_r, q_z, q_si, q_sl, jx_lt, jx_ri, jx_rl, jx_rv, if_true, if_false, Nat.reduceLeDiff, Nat.add_one_ne_zero, and_self, true_or, or_true, Nat.reduceEqDiff, or_self, or_false, false_or, mo_k hm, e215]
          rw [if_neg h55, E_224_5]
          simp only [↓reduceIte, q_i, q_l, q_k, q_r, q_z, q_si, q_sl, jx_lt, jx_ri, jx_rl, jx_rv, if_true, if_false, Nat.reduceLeDiff, Nat.add_one_ne_zero, and_self, true_or, or_true, Nat.reduceEqDiff, or_self, or_false, false_or, mo_k hm, hg.2.2.1, h4, hf0, mf_k hf, e186, m203 hm hg.2.2.1, z224_6 hm h51]
          rfl
      · have e186 := mWay_eq (L := K) hf (a := cu) (b := x) (by omega) (by omega) hJw
        rw [if_neg (w_m1 (by omega))] at e186
        have hw0 : 0 ≤ qd I t 2 (8 * cu + x) := Int32.not_lt.mp hw
        obtain ⟨pe, ce⟩ := path_ext hp hx (by rw [← hcu]; exact hw)
        obtain ⟨g', hg'⟩ : ∃ g' : Nat → Nat, g' = fun i => if i = d then x else g i := ⟨_, rfl⟩
        rw [← hg'] at pe ce
        have hwt : q_with (w (q_cd g d)) (w d) (w x) = w (q_cd g' (d + 1)) := by
          rw [with_w (cd_lt fun i hi => by have := hp.1 i hi; omega) (by omega) (by omega), ce]
        have hcu' : (if d + 1 = 0 then h else g' (d + 1 - 1)) = x := by
          rw [if_neg (by omega), Nat.add_sub_cancel, hg']
          exact if_pos rfl
        obtain ⟨I1, L1, J1, K1, e1, d1, g1, fI1, fJ1⟩ := go_next cx (zl_stab ht hf9) hg (by rw [cs]; decide) (by rw [cs]; decide)
        obtain ⟨z1, z2, z3, z4, z5, z6⟩ := g1.2.2.2.2
        obtain ⟨J2, hJ2⟩ : ∃ J2, J2 = q_up J1 (f + 9) (q_set (J1 (f + 9)) (5 * v + d) (w x)) := ⟨_, rfl⟩
        have hq1 : qd I1 t = qd I t := qd_same fun a h1 h2 => fI1 a (by omega)
        have g2 : qGo (qZl t f h9 h v (d + 1) g' C) t f n I0 L0 J0 K0 I1 L1 J2 K1 := by
          refine go_put cx g1 (fun a _ => rfl) (fun a ha => by rw [hJ2, q_up_ne (by omega)]) (fun a _ => rfl) ?_ ⟨?_, fun u i hu hi => ?_, fun i hi => ?_, ?_, z5, z6⟩
          · obtain ⟨c, hc, e⟩ := g1.1.2.2.2.2.2.2
            exact ⟨c, hc, by rw [hJ2, q_up_ne (by omega)]; exact e⟩
          · rw [hJ2, q_up_up]; exact z1
          · rw [hJ2, q_up_eq, q_set_ne (by omega)]; exact z2 u i hu hi
          · rw [hJ2, q_up_eq, hg']
            by_cases c : i = d
            · rw [c, q_set_eq]
              show w x = w (if d = d then x else g d)
              rw [if_pos rfl]
            · rw [q_set_ne (by omega)]
              show _ = w (if i = d then x else g i)
              rw [if_neg c]; exact z3 i (by omega)
          · rw [hq1]; exact pe
        have hJ2t : J2 240 = J1 240 := by rw [hJ2, q_up_ne (by omega)]
        have tk := (tk_sort g1.2.2.2.1).2.2.2.2.2.2
        have rf : ∀ v3 J3 K3, jD 205 [.ref 240, .int 44] (J2, K1, s2) = some (some (.int v3), J3, K3, s2) → jd 224 4 [some (.ref 240), some (.int (w v)), some (.int dd), some (.int (w cu)), some (.int (w d)), some (.int 1), none] [] (J, K, s2) = jd 224 4 [some (.ref 240), some (.int (w v)), some (.int dd), some (.int (w x)), some (.int (w (d + 1))), some (.int v3), none] [] (J3, K3, s2) := fun v3 J3 K3 e => by
          rw [E_224_4, if_neg (by decide)]
          simp only [↓reduceIte, q_i, q_l, q_k, q_r, q_z, q_si, q_sl, jx_lt, jx_ri, jx_rl, jx_rv, if_true, if_false, Nat.reduceLeDiff, Nat.add_one_ne_zero, and_self, true_or, or_true, Nat.reduceEqDiff, or_self, or_false, false_or, mo_k hm, e215]
          rw [if_neg h55, E_224_5]
          simp only [↓reduceIte, q_i, q_l, q_k, q_r, q_z, q_si, q_sl, jx_lt, jx_ri, jx_rl, jx_rv, if_true, if_false, Nat.reduceLeDiff, Nat.add_one_ne_zero, and_self, true_or, or_true, Nat.reduceEqDiff, or_self, or_false, false_or, mo_k hm, hg.2.2.1, h4, hf0, mf_k hf, e186, h1z]
          rw [E_224_6]
          simp only [↓reduceIte, q_i, q_l, q_k, q_r, q_z, q_si, q_sl, jx_lt, jx_ri, jx_rl, jx_rv, if_true, if_false, Nat.reduceLeDiff, Nat.add_one_ne_zero, and_self, true_or, or_true, Nat.reduceEqDiff, or_self, or_false, false_or, mo_k hm, d1, g1.2.2.1]
          rw [E_224_7]
          rw [hJ2] at e
          simp only [↓reduceIte, q_i, q_l, q_k, q_r, q_z, q_si, q_sl, jx_lt, jx_ri, jx_rl, jx_rv, if_true, if_false, Nat.reduceLeDiff, Nat.add_one_ne_zero, and_self, true_or, or_true, Nat.reduceEqDiff, or_self, or_false, false_or, mo_k hm, h4, hf0, mf_k hf, mf_r22 hf, mf_k22 hf, mf_z22 hf, Nat.add_eq_zero_iff, and_false, ix5, w_nn (a := 5 * v + d) (by omega), show ¬ 30 ≤ 5 * v + d by omega, w_tc (a := 5 * v + d) (by omega), e, w_inc]
        by_cases cc : I1 187 4 = 4
        · have cj := tk.mp cc
          obtain ⟨I3, L3, J3, K3, e3, d3, g3, -⟩ := go_next cx (zl_stab ht hf9) g2 (by rw [cc]; decide) (by rw [cc]; decide)
          have IH := ih (d + 1) g' I3 L3 J3 K3 (by omega) g3
          have ec : jd 61 1 [some (.ref 181), none, some (.int (w (q_cd g d))), some (.int (w cu)), some (.int 1), some (.int (w d)), none] [] (I, L, s) = jd 61 1 [some (.ref 181), none, some (.int (w (q_cd g' (d + 1)))), some (.int (w x)), some (.int 1), some (.int (w (d + 1))), none] [] (I3, L3, s) := by
            rw [E_61_1, if_neg hlt, if_neg (by decide)]
            simp only [↓reduceIte, q_i, q_l, q_k, q_r, q_z, q_si, q_sl, jx_lt, jx_ri, jx_rl, jx_rv, if_true, if_false, Nat.reduceLeDiff, Nat.add_one_ne_zero, and_self, true_or, or_true, Nat.reduceEqDiff, or_self, or_false, false_or, k6, e72, mx]
            rw [E_61_2, if_neg h55, E_61_3]
            simp only [↓reduceIte, q_i, q_l, q_k, q_r, q_z, q_si, q_sl, jx_lt, jx_ri, jx_rl, jx_rv, if_true, if_false, Nat.reduceLeDiff, Nat.add_one_ne_zero, and_self, true_or, or_true, Nat.reduceEqDiff, or_self, or_false, false_or, k6, r5, t0, hfl.1, hwi, hw0]
            rw [E_61_4]
            simp only [↓reduceIte, q_i, q_l, q_k, q_r, q_z, q_si, q_sl, jx_lt, jx_ri, jx_rl, jx_rv, if_true, if_false, Nat.reduceLeDiff, Nat.add_one_ne_zero, and_self, true_or, or_true, Nat.reduceEqDiff, or_self, or_false, false_or, with_eq, hwt, k6, r0, k7, e1, cc]
            rw [E_61_6, if_neg (by decide)]
            simp only [↓reduceIte, q_i, q_l, q_k, q_r, q_z, q_si, q_sl, jx_lt, jx_ri, jx_rl, jx_rv, if_true, if_false, Nat.reduceLeDiff, Nat.add_one_ne_zero, and_self, true_or, or_true, Nat.reduceEqDiff, or_self, or_false, false_or, k6, r0, k7, e3]
            rw [E_61_7, w_inc]
          have er := rf 1 J3 K3 (m205_y hm (by rw [hJ2t]; exact cj.1) (by rw [hJ2t]; exact cj.2) d3)
          rw [← hcu, ec, er]
          rw [hcu'] at IH
          exact IH
        · left
          have cj : ¬ (J1 240 9 = 4 ∧ J1 240 11 = 44) := fun z => cc (tk.mpr z)
          have er := rf 0 J2 K1 (m205_n hm (by rw [hJ2t]; exact cj))
          rw [← hcu]
          refine ⟨d + 1, g', I1, L1, J2, K1, by omega, by omega, ?_, ?_, g2⟩
          · rw [E_61_1, if_neg hlt, if_neg (by decide)]
            simp only [↓reduceIte, q_i, q_l, q_k, q_r, q_z, q_si, q_sl, jx_lt, jx_ri, jx_rl, jx_rv, if_true, if_false, Nat.reduceLeDiff, Nat.add_one_ne_zero, and_self, true_or, or_true, Nat.reduceEqDiff, or_self, or_false, false_or, k6, e72, mx]
            rw [E_61_2, if_neg h55, E_61_3]
            simp only [↓reduceIte, q_i, q_l, q_k, q_r, q_z, q_si, q_sl, jx_lt, jx_ri, jx_rl, jx_rv, if_true, if_false, Nat.reduceLeDiff, Nat.add_one_ne_zero, and_self, true_or, or_true, Nat.reduceEqDiff, or_self, or_false, false_or, k6, r5, t0, hfl.1, hwi, hw0]
            rw [E_61_4]
            simp only [↓reduceIte, q_i, q_l, q_k, q_r, q_z, q_si, q_sl, jx_lt, jx_ri, jx_rl, jx_rv, if_true, if_false, Nat.reduceLeDiff, Nat.add_one_ne_zero, and_self, true_or, or_true, Nat.reduceEqDiff, or_self, or_false, false_or, with_eq, hwt, k6, r0, k7, e1, cc]
            rw [E_61_5, E_61_6, if_pos rfl, E_61_7, w_inc, E_61_1, if_neg hlt', if_pos rfl, E_61_8]
          · rw [er, E_224_4, if_pos rfl]
    · right
      have h5 := fa_5 fa
      refine ⟨_, _, _, _, ?_, ?_, fa⟩
      · rw [E_61_1, if_neg hlt, if_neg (by decide)]
        simp only [↓reduceIte, q_i, q_l, q_k, q_r, q_z, q_si, q_sl, jx_lt, jx_ri, jx_rl, jx_rv, if_true, if_false, Nat.reduceLeDiff, Nat.add_one_ne_zero, and_self, true_or, or_true, Nat.reduceEqDiff, or_self, or_false, false_or, k6, e72]
      · rw [E_224_4, if_neg (by decide)]
        simp only [↓reduceIte, q_i, q_l, q_k, q_r, q_z, q_si, q_sl, jx_lt, jx_ri, jx_rl, jx_rv, if_true, if_false, Nat.reduceLeDiff, Nat.add_one_ne_zero, and_self, true_or, or_true, Nat.reduceEqDiff, or_self, or_false, false_or, mo_k hm, e215]
        rw [if_neg h55]
        exact z224_5 hm h5 _ _ _ _ _
end PFl
