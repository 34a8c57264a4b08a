/-! READING: a text from its beginning -/
section PBe
variable {s sA s2 : qS} {t f n : Nat} {b : Nat → Nat} {I J : qI} {L K : qL}
theorem c15 (hfl : qFl s t) : ∃ I', jD 15 [.ref t] (I, L, s) = some (none, I', L, s) ∧ (∀ a, ¬ (t ≤ a ∧ a < t + 39) → I' a = I a) ∧ (∀ k, k < 12 → qd I' t 0 k = 0) ∧ (∀ i, i < 64 → qd I' t 2 i = -2) ∧ (∀ u, u < 6 → qd I' t 7 u = -2 ∧ qd I' t 8 u = 0 ∧ qd I' t 9 u = -2 ∧ qd I' t 14 u = 0) ∧ ∀ d, d < 20 → qd I' t 15 d = 0 := by
  have r0 := fl_k hfl (k := 0) (n := 12) (by omega) rfl
  have r2 := fl_k hfl (k := 2) (n := 64) (by omega) rfl
  have r7 := fl_k hfl (k := 7) (n := 6) (by omega) rfl
  have r8 := fl_k hfl (k := 8) (n := 6) (by omega) rfl
  have r9 := fl_k hfl (k := 9) (n := 6) (by omega) rfl
  have r14 := fl_k hfl (k := 14) (n := 6) (by omega) rfl
  have r15 := fl_k hfl (k := 15) (n := 20) (by omega) rfl
  obtain ⟨A0, h0⟩ : ∃ A, A = q_up I (t + 1 + 2 * 0 + 1) (fun k => if k < 12 then 0 else I (t + 1 + 2 * 0 + 1) k) := ⟨_, rfl⟩
  obtain ⟨A1, h1⟩ : ∃ A, A = q_up A0 (t + 1 + 2 * 2 + 1) (fun k => if k < 64 then -2 else A0 (t + 1 + 2 * 2 + 1) k) := ⟨_, rfl⟩
  obtain ⟨A2, h2⟩ : ∃ A, A = q_up A1 (t + 1 + 2 * 7 + 1) (fun k => if k < 6 then -2 else A1 (t + 1 + 2 * 7 + 1) k) := ⟨_, rfl⟩
  obtain ⟨A3, h3⟩ : ∃ A, A = q_up A2 (t + 1 + 2 * 8 + 1) (fun k => if k < 6 then 0 else A2 (t + 1 + 2 * 8 + 1) k) := ⟨_, rfl⟩
  obtain ⟨A4, h4⟩ : ∃ A, A = q_up A3 (t + 1 + 2 * 9 + 1) (fun k => if k < 6 then -2 else A3 (t + 1 + 2 * 9 + 1) k) := ⟨_, rfl⟩
  obtain ⟨A5, h5⟩ : ∃ A, A = q_up A4 (t + 1 + 2 * 14 + 1) (fun k => if k < 6 then 0 else A4 (t + 1 + 2 * 14 + 1) k) := ⟨_, rfl⟩
  obtain ⟨A6, h6⟩ : ∃ A, A = q_up A5 (t + 1 + 2 * 15 + 1) (fun k => if k < 20 then 0 else A5 (t + 1 + 2 * 15 + 1) k) := ⟨_, rfl⟩
  have f0 : jD 82 [.ref (t + 1 + 2 * 0), .int 0] (I, L, s) = some (none, A0, L, s) := by rw [h0]; exact fill_eq r0.2 0
  have f1 : jD 82 [.ref (t + 1 + 2 * 2), .int (-2)] (A0, L, s) = some (none, A1, L, s) := by rw [h1]; exact fill_eq r2.2 (-2)
  have f2 : jD 82 [.ref (t + 1 + 2 * 7), .int (-2)] (A1, L, s) = some (none, A2, L, s) := by rw [h2]; exact fill_eq r7.2 (-2)
  have f3 : jD 82 [.ref (t + 1 + 2 * 8), .int 0] (A2, L, s) = some (none, A3, L, s) := by rw [h3]; exact fill_eq r8.2 0
  have f4 : jD 82 [.ref (t + 1 + 2 * 9), .int (-2)] (A3, L, s) = some (none, A4, L, s) := by rw [h4]; exact fill_eq r9.2 (-2)
  have f5 : jD 82 [.ref (t + 1 + 2 * 14), .int 0] (A4, L, s) = some (none, A5, L, s) := by rw [h5]; exact fill_eq r14.2 0
  have f6 : jD 82 [.ref (t + 1 + 2 * 15), .int 0] (A5, L, s) = some (none, A6, L, s) := by rw [h6]; exact fill_eq r15.2 0
  refine ⟨A6, ?_, fun a ha => ?_, fun k hk => ?_, fun i hi => ?_, fun u hu => ⟨?_, ?_, ?_, ?_⟩, fun d hd => ?_⟩
  · rw [D_15, E_15_0]
    simp only [↓reduceIte, q_i, q_l, q_k, q_r, q_z, q_si, q_sl, jx_lt, jx_ri, jx_rl, jx_rv, if_true, if_false, Nat.reduceLeDiff, Nat.add_one_ne_zero, and_self, true_or, or_true, Nat.reduceEqDiff, or_self, or_false, false_or, hfl.1, r0.1, r0.2.1, f0, r2.1, r2.2.1, f1, r7.1, r7.2.1, f2, r8.1, r8.2.1, f3, r9.1, r9.2.1, f4, r14.1, r14.2.1, f5, r15.1, r15.2.1, f6]
  · rw [h6, q_up_ne (by omega), h5, q_up_ne (by omega), h4, q_up_ne (by omega), h3, q_up_ne (by omega), h2, q_up_ne (by omega), h1, q_up_ne (by omega), h0, q_up_ne (by omega)]
  · rw [qd_at (by omega), h6, q_up_ne (by omega), h5, q_up_ne (by omega), h4, q_up_ne (by omega), h3, q_up_ne (by omega), h2, q_up_ne (by omega), h1, q_up_ne (by omega), h0, q_up_eq]
    exact if_pos hk
  · rw [qd_at (by omega), h6, q_up_ne (by omega), h5, q_up_ne (by omega), h4, q_up_ne (by omega), h3, q_up_ne (by omega), h2, q_up_ne (by omega), h1, q_up_eq]
    exact if_pos hi
  · rw [qd_at (by omega), h6, q_up_ne (by omega), h5, q_up_ne (by omega), h4, q_up_ne (by omega), h3, q_up_ne (by omega), h2, q_up_eq]
    exact if_pos hu
  · rw [qd_at (by omega), h6, q_up_ne (by omega), h5, q_up_ne (by omega), h4, q_up_ne (by omega), h3, q_up_eq]
    exact if_pos hu
  · rw [qd_at (by omega), h6, q_up_ne (by omega), h5, q_up_ne (by omega), h4, q_up_eq]
    exact if_pos hu
  · rw [qd_at (by omega), h6, q_up_ne (by omega), h5, q_up_eq]
    exact if_pos hu
  · rw [qd_at (by omega), h6, q_up_eq]
    exact if_pos hd
/-- nothing is told -/
theorem fy_0 {D E : Nat → Nat → Int32} (d0 : ∀ k, k < 12 → D 0 k = 0) (d2 : ∀ i, i < 64 → D 2 i = -2) (d7 : ∀ u, u < 6 → D 7 u = -2 ∧ D 8 u = 0 ∧ D 9 u = -2 ∧ D 14 u = 0) (d15 : ∀ d, d < 20 → D 15 d = 0) (e0 : ∀ k, E 0 k = 0) (e2 : ∀ i, i < 64 → E 2 i = -1) (e8 : ∀ u, E 8 u = 0) : qFy D E (fun _ => 0) := by
  have hz : ∀ d : Int32, ¬ ((0 : Int32) >>> d) &&& 1 = 1 := fun d => by
    have : (0 : Int32) >>> d = 0 := Int32.zero_shiftRight
    rw [this]; decide
  have hc : ∀ c : Nat → Bool, (∀ u, u < 6 → c u = false) → q_cnt c 6 = 0 := fun c h => by
    have : ∀ n, n ≤ 6 → q_cnt c n = 0 := by
      intro n
      induction n with
      | zero => exact fun _ => rfl
      | succ n ih => intro hn; rw [cnt_succ, ih (by omega), h n (by omega)]; rfl
    exact this 6 (Nat.le_refl 6)
  refine ⟨⟨fun k hk => ⟨d0 k hk, Nat.zero_le _⟩, fun k hk => e0 k, e0 11, e0 12, fun _ k _ => rfl, Or.inl rfl⟩, fun i hi => absurd hi (Nat.not_lt_zero i), ⟨fun i hi => Or.inl ⟨d2 i hi, e2 i hi⟩, ?_⟩, fun u hu => absurd hu (Nat.not_lt_zero u), ⟨fun u _ hu => ⟨(d7 u hu).1, (d7 u hu).2.1, (d7 u hu).2.2.1, e8 u⟩, ?_, ?_⟩, fun r hr => absurd hr (Nat.not_lt_zero r), fun o ho => absurd ho (Nat.not_lt_zero o), fun d hd => ?_, ⟨fun k hk => absurd hk (Nat.not_lt_zero k), fun o ho d hd => ?_⟩, fun i hi => absurd hi (Nat.not_lt_zero i)⟩
  · have : ∀ a, a < 8 → q_deg D 8 a = 0 := fun a ha => by
      unfold q_deg
      rw [List.length_eq_zero_iff, List.filter_eq_nil_iff]
      intro c hc
      have h8 := List.mem_range.mp hc
      rw [d2 _ (by omega)]
      decide
    rw [sum_congr (g := fun _ => 0) 8 this]
    rfl
  · exact hc _ fun u hu => by rw [(d7 u hu).2.2.1]; rfl
  · exact hc _ fun u hu => by rw [(d7 u hu).1]; rfl
  · rw [d15 d hd, e0 10]
    exact ⟨⟨fun z => absurd z (by decide), fun z => absurd z (hz _)⟩, fun z => absurd z (by decide)⟩
  · rw [(d7 o ho).2.2.2]
    exact ⟨fun z => absurd z (hz _), fun ⟨k, hk, _⟩ => absurd hk (Nat.not_lt_zero k)⟩
theorem read_all (hk : qk s 181 = 6) (hA : q_ptr s 181 5 t = sA) (cx : qCx sA s2 t f n b I J) (hN : qNm I L) (j8 : J 240 8 = w 0) (j9 : J 240 9 = 0) (j13 : J 240 13 = 0) (jf : ∀ k, k < 24 → J (f + k) = fun i => if k = 2 ∧ i < 64 then -1 else 0) : ∃ J4 K4, jD 202 [.ref 240] (J, K, s2) = some (none, J4, K4, s2) ∧ qRead (jD 50 [.ref 181, .int (w n), .ref t] (I, L, s)) (jD 218 [.ref 240] (J4, K4, s2)) sA s2 t f n I L J K := by
  obtain ⟨hr, hn, htxt, hm, h4, hf, hf0, hf9, htm, h7, htx⟩ := id cx
  obtain ⟨k6, r0, r1, r2, r3, r5, k182, z182, row2, row3, k7, r7, rt, hfl, ht⟩ := id hr
  have t0 : ¬ t = 0 := by omega
  obtain ⟨I1, f15, i1, i2, i3, i4, i5⟩ := c15 (I := I) (L := L) hfl
  have i181 : I1 181 = I 181 := i1 181 (by omega)
  have i187 : I1 187 = I 187 := i1 187 (by omega)
  obtain ⟨I2, hI2⟩ : ∃ A, A = q_up I1 181 (q_set (q_set (q_set (I1 181) 4 11) 6 0) 7 (-1)) := ⟨_, rfl⟩
  have e187 : I2 187 = I1 187 := by rw [hI2, q_up_ne (by decide)]
  obtain ⟨I3, hI3⟩ : ∃ A, A = q_up I2 187 (q_set (q_set (I2 187) 1 (w n)) 2 0) := ⟨_, rfl⟩
  have hb3 : qTxt I3 b := fun k hk => by
    rw [hI3, q_up_ne (by decide), hI2, q_up_ne (by decide), i1 (179 + 1) (by omega)]; exact htxt k hk
  have h13 : I3 187 1 = w n := by rw [hI3, q_up_eq, q_set_ne (by decide), q_set_eq]
  have h23 : I3 187 2 = w 0 := by rw [hI3, q_up_eq, q_set_eq]; rfl
  obtain ⟨g, hh, g', h', c1, c2, c3, c4, c5, c6⟩ := next_rel (L := L) (K := K) hr hb3 hn h13 h23 hm htm h7 j8 (by rw [j9]; decide) (Nat.zero_le n)
  have hX : jD 50 [.ref 181, .int (w n), .ref t] (I, L, s) = jx_ri (jD 53 [.ref 181] (q_up I3 187 g, q_upl L 187 hh, sA)) fun v M => jd 50 1 [some (.ref 181), none, none, some (.int v), some (.int (w 0))] [] M := by
    have e85 : jD 85 [.ref 187, .int (w n)] (I2, L, sA) = some (none, q_up I3 187 g, q_upl L 187 hh, sA) := by
      rw [D_85, E_85_0]
      simp only [↓reduceIte, q_i, q_l, q_k, q_r, q_z, q_si, q_sl, jx_lt, jx_ri, jx_rl, jx_rv, if_true, if_false, Nat.reduceLeDiff, Nat.add_one_ne_zero, and_self, true_or, or_true, Nat.reduceEqDiff, or_self, or_false, false_or, k7, q_up_up, q_up_eq]
      rw [← hI3]
      simp only [↓reduceIte, q_i, q_l, q_k, q_r, q_z, q_si, q_sl, jx_lt, jx_ri, jx_rl, jx_rv, if_true, if_false, Nat.reduceLeDiff, Nat.add_one_ne_zero, and_self, true_or, or_true, Nat.reduceEqDiff, or_self, or_false, false_or, c1]
    have o1 : ∀ g, q_up I1 181 g 181 = g := fun g => q_up_eq
    rw [D_50, E_50_0]
    simp only [↓reduceIte, q_i, q_l, q_k, q_r, q_z, q_si, q_sl, jx_lt, jx_ri, jx_rl, jx_rv, if_true, if_false, Nat.reduceLeDiff, Nat.add_one_ne_zero, and_self, true_or, or_true, Nat.reduceEqDiff, or_self, or_false, false_or, t0, hk, q_sr, hA, k6, r5, hfl.1, f15, o1, q_up_up]
    rw [← hI2]
    simp only [↓reduceIte, q_i, q_l, q_k, q_r, q_z, q_si, q_sl, jx_lt, jx_ri, jx_rl, jx_rv, if_true, if_false, Nat.reduceLeDiff, Nat.add_one_ne_zero, and_self, true_or, or_true, Nat.reduceEqDiff, or_self, or_false, false_or, k6, r0, k7, e85]
    rfl
  have hY : jD 218 [.ref 240] (q_up J 240 g', q_upl K 240 h', s2) = jd 218 1 [some (.ref 240), some (.int 1)] [] (q_up J 240 g', q_upl K 240 h', s2) := by
    rw [D_218, E_218_0]
  have i3' : ∀ a, a ≠ 181 → a ≠ 187 → I3 a = I1 a := fun a x y => by rw [hI3, q_up_ne y, hI2, q_up_ne x]
  have i4' : ∀ a, a ≠ 181 → a ≠ 187 → q_up I3 187 g a = I1 a := fun a x y => by rw [q_up_ne y, i3' a x y]
  have hg : qGo (qZp t f 0 (fun _ => 0)) t f n I L J K (q_up I3 187 g) (q_upl L 187 hh) (q_up J 240 g') (q_upl K 240 h') := by
    have ed : qd (q_up I3 187 g) t = qd I1 t := qd_same fun a h1 h2 => i4' a (by omega) (by omega)
    have ej : ∀ k, k < 24 → q_up J 240 g' (f + k) = fun i => if k = 2 ∧ i < 64 then -1 else 0 := fun k hk => by rw [q_up_ne (by omega)]; exact jf k hk
    refine ⟨⟨fun a ha => ?_, fun a h1 h2 => upl_ne h2, fun a ha => ?_, fun k hk => ?_, ?_, fun k hk => ?_, 0, Nat.zero_le _, ?_⟩, ?_, ?_, c6, ⟨Nat.zero_le _, Nat.zero_le _, ?_, ?_, fun i hi => absurd hi (Nat.not_lt_zero i)⟩, ?_⟩
    · unfold qCw at ha
      rw [i4' a (by omega) (by omega)]; exact i1 a (by omega)
    · unfold qMw at ha
      rw [q_up_ne (by omega), upl_ne (by omega)]; exact ⟨rfl, rfl⟩
    · rw [q_up_eq]; exact c4 k (by omega)
    · rw [q_up_eq]; exact c3
    · obtain ⟨a1, a2, a3⟩ := hN k hk
      rw [upl_ne (by decide), i4' (183 + 1) (by decide) (by decide), i4' (185 + 1) (by decide) (by decide), i1 (183 + 1) (by omega), i1 (185 + 1) (by omega)]
      exact ⟨a1, a2, a3⟩
    · have := congrFun (ej 0 (by omega)) 13
      exact this
    · rw [q_up_eq, c4 13 (by omega), q_up_ne (by decide), hI3, q_up_ne (by decide), hI2, q_up_eq, q_set_ne (by decide), q_set_eq]; exact ⟨j13, rfl⟩
    · rw [q_up_eq]; exact c5
    · rw [q_up_ne (by decide), hI3, q_up_ne (by decide), hI2, q_up_eq, q_set_ne (by decide), q_set_ne (by decide), q_set_eq]; rfl
    · exact congrFun (ej 0 (by omega)) 13
    · rw [ed]
      refine fy_0 i2 i3 i4 i5 (fun k => ?_) (fun i hi => ?_) (fun u => ?_)
      · rw [me_at (by omega)]; exact congrFun (ej 0 (by omega)) k
      · rw [me_at (by omega)]
        exact (congrFun (ej 2 (by omega)) i).trans (if_pos ⟨rfl, hi⟩)
      · rw [me_at (by omega)]; exact congrFun (ej 8 (by omega)) u
  refine ⟨_, _, c2, ?_⟩
  rw [hX, hY]
  exact loop_rel cx 82 0 (fun _ => 0) _ _ _ _ rfl rfl hg
end PBe
