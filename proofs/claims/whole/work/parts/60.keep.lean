/-! PAIRS OF CALLS with a flight: acts -/
/-- both sides remember -/
theorem ac_push {I I1 K : qI} {D : Nat → Nat → Int32} {U S dn o n : Nat} (hU : U ≤ 6) (h3 : n ≤ 16)
    (h1 : ∀ i, i < n → qPR D U S dn (fun j => I (195 + 1) (19 * ((o + i) % 16) + j)) (fun j => I (240 + 3) (49 * i + j)))
    (ho9 : o < 16) (hp : qPR D U S dn (I (188 + 2)) (I (240 + 2)))
    (c5 : ∀ k, I1 (195 + 1) k = if (o + n) % 16 * 19 ≤ k ∧ k < (o + n) % 16 * 19 + 19 then I (188 + 1 + 1) (k - (o + n) % 16 * 19) else I (195 + 1) k)
    (m5 : n < 16 → ∀ k, k < 784 → K (240 + 3) k = if 49 * n ≤ k ∧ k < 49 * n + 49 then I (240 + 2) (k - 49 * n) else I (240 + 3) k) (m6 : ¬ n < 16 → ∀ k, k < 784 → K (240 + 3) k = if k < 735 then I (240 + 3) (k + 49) else I (240 + 2) (k - 735)) :
    ∀ i, i < (if n < 16 then n + 1 else 16) → qPR D U S dn (fun j => I1 (195 + 1) (19 * (((if n < 16 then o else (o + 1) % 16) + i) % 16) + j)) (fun j => K (240 + 3) (49 * i + j)) := by
  intro i hi
  by_cases c : n < 16
  · rw [if_pos c] at hi ⊢
    by_cases ci : i = n
    · subst ci
      refine pr_congr hU (fun j hj => ?_) (fun j hj => ?_) hp
      · show I1 (195 + 1) (19 * ((o + i) % 16) + j) = I (188 + 1 + 1) j
        rw [c5, if_pos (by omega), show 19 * ((o + i) % 16) + j - (o + i) % 16 * 19 = j by omega]
      · show K (240 + 3) (49 * i + j) = I (240 + 2) j
        rw [m5 c _ (by omega), if_pos (by omega), Nat.add_sub_cancel_left]
    · refine pr_congr hU (fun j hj => ?_) (fun j hj => ?_) (h1 i (by omega))
      · show I1 (195 + 1) (19 * ((o + i) % 16) + j) = _
        rw [c5, if_neg (by omega)]
      · show K (240 + 3) (49 * i + j) = _
        rw [m5 c _ (by omega), if_neg (by omega)]
  · obtain rfl : n = 16 := by omega
    rw [if_neg c] at hi ⊢
    by_cases ci : i = 15
    · subst ci
      refine pr_congr hU (fun j hj => ?_) (fun j hj => ?_) hp
      · show I1 (195 + 1) (19 * (((o + 1) % 16 + 15) % 16) + j) = I (188 + 1 + 1) j
        rw [c5, if_pos (by omega), show 19 * (((o + 1) % 16 + 15) % 16) + j - (o + 16) % 16 * 19 = j by omega]
      · show K (240 + 3) (49 * 15 + j) = I (240 + 2) j
        rw [m6 c _ (by omega), if_neg (by omega), show 49 * 15 + j - 735 = j by omega]
    · refine pr_congr hU (fun j hj => ?_) (fun j hj => ?_) (h1 (i + 1) (by omega))
      · show I1 (195 + 1) (19 * (((o + 1) % 16 + i) % 16) + j) = I (195 + 1) (19 * ((o + (i + 1)) % 16) + j)
        rw [c5, if_neg (by omega), show ((o + 1) % 16 + i) % 16 = (o + (i + 1)) % 16 by omega]
      · show K (240 + 3) (49 * i + j) = I (240 + 3) (49 * (i + 1) + j)
        rw [m6 c _ (by omega), if_pos (by omega), show 49 * i + j + 49 = 49 * (i + 1) + j by omega]
section AK
variable {I : qI} {L : qL} {s : qS} {t t' f U S dn R O W q : Nat}
/-- the class remembers, changes its plan, passes the year; the reference remembers, changes its plan -/
theorem act_both (h : qHV I s t t' f U S dn R O W) : ∃ I1, jD 2 [.ref 194, .ref 188] (I, L, s) = some (none, I1, L, s) ∧ (∀ a, a ≠ 194 → a ≠ 195 + 1 → I1 a = I a) ∧ ∀ P' : Nat → Int32, ∃ I2, jD 177 [.ref 100] (q_up I1 (188 + 1 + 1) P', L, s) = some (none, I2, L, s) ∧ qFrT I I2 ∧ (∀ a, a < 199 ∨ 214 ≤ a → a ≠ 194 → a ≠ 195 + 1 → a ≠ 188 + 1 + 1 → I2 a = I a) ∧
    ∀ J, qFr (cT I2 0) J → J 100 = cT I2 0 100 → ∃ K, jD 305 [.ref 240] (J, L, s) = some (none, K, L, s) ∧ K (240 + 2) = I (240 + 2) ∧ (∀ a, a ≠ 240 → a ≠ 240 + 3 → K a = J a) ∧ (∀ j, j ≠ 19 → K 240 j = J 240 j) ∧ ∀ V' : Nat → Int32, qPR (qd I t) U S dn P' V' → qFrT (cT I2 0) (q_up K (240 + 2) V') ∧ q_up K (240 + 2) V' 100 = cT I2 0 100 ∧ qHV (q_up K (240 + 2) V') s t t' f U S dn R O W := by
  obtain ⟨h1, h2, h3, h4, h5, o, n, k, g1, g2, g3, g4, g5, g6, g7, g8, g9, g10⟩ := id h
  obtain ⟨hU, hU9⟩ := h1_U h1
  obtain ⟨hd, hd0, hd9⟩ := h1_d h1
  obtain ⟨hx, hm, hf, hT⟩ := id h1
  have htt := xo_tt hx
  obtain ⟨I1, e1, c1, c2, c3, c4, c5⟩ := rem_eq (L := L) hx g1 g2 g3 g4
  refine ⟨I1, e1, c1, fun P' => ?_⟩
  generalize hK1 : q_up I1 (188 + 1 + 1) P' = K1
  have ed1 : qd K1 t = qd I t := qd_same fun a z1 z2 => by rw [← hK1, q_up_ne (by omega), c1 a (by omega) (by omega)]
  obtain ⟨I2, e2, s1, s2⟩ := settle_eq (I := K1) (L := L) hx (by rw [ed1]; exact hU) hU9 (by rw [ed1]; exact hd) hd9
  have i2 : ∀ a, a < 199 ∨ 214 ≤ a → a ≠ 194 → a ≠ 195 + 1 → a ≠ 188 + 1 + 1 → I2 a = I a := fun a z1 z2 z3 z4 => by
    rw [s1 a z1, ← hK1, q_up_ne z4, c1 a z2 z3]
  have f1 : qFrT I I2 := frT_of fun a ha => i2 a (by unfold qTo qSc at ha; omega) (fun e => ha (by subst e; unfold qTo; omega)) (fun e => ha (by subst e; unfold qTo; omega)) (fun e => ha (by subst e; unfold qTo; omega))
  refine ⟨I2, e2, f1, i2, fun J hJ hJ100 => ?_⟩
  have cT240 : cT I2 0 240 = I 240 := by
    rw [cT, q_up_ne (by decide)]
    exact i2 240 (by omega) (by omega) (by omega) (by omega)
  have hJ19 : J 240 19 = I 240 19 := by rw [hJ.2.2.2.2.1, cT240]
  have hJ20 : J 240 20 = I 240 20 := by rw [hJ.2.2.2.2.2, cT240]
  have hJs : ∀ a, ¬ qSc a → J a = I2 a := fun a ha => (hJ.1 a ha).trans (q_up_ne fun e => ha (Or.inl e))
  obtain ⟨K, e3, m1, m2, m3, m4, m5⟩ := keeps_eq (I := J) (L := L) (s := s) hm.1 (n := n) (by rw [hJ19]; exact g7) g4
  have j242 : J (240 + 2) = I (240 + 2) := by rw [hJs (240 + 2) (by unfold qSc; omega)]; exact i2 _ (by omega) (by omega) (by omega) (by omega)
  have j243 : J (240 + 3) = I (240 + 3) := by rw [hJs (240 + 3) (by unfold qSc; omega)]; exact i2 _ (by omega) (by omega) (by omega) (by omega)
  refine ⟨K, e3, by rw [m1 (240 + 2) (by omega) (by omega)]; exact j242, m1, m2, fun V' hPV => ?_⟩
  have kk : ∀ a, a ≠ 240 → a ≠ 240 + 3 → a ≠ 240 + 2 → q_up K (240 + 2) V' a = J a := fun a z1 z2 z3 => by rw [q_up_ne z3, m1 a z1 z2]
  have f2 : qFrT J (q_up K (240 + 2) V') := by
    refine ⟨fun a ha => kk a (fun e => ha (by subst e; unfold qTo qSc; omega)) (fun e => ha (by subst e; unfold qTo; omega)) (fun e => ha (by subst e; unfold qTo; omega)), ⟨?_, ?_, ?_⟩, ?_, ?_⟩
    · rw [kk 100 (by omega) (by omega) (by omega)]
    · rw [kk 100 (by omega) (by omega) (by omega)]
    · rw [kk 100 (by omega) (by omega) (by omega)]
    · rw [q_up_ne (by omega), m2 6 (by omega)]
    · rw [q_up_ne (by omega), m2 13 (by omega)]
  refine ⟨frT_trans (fr_T hJ) f2, by rw [kk 100 (by omega) (by omega) (by omega)]; exact hJ100, ?_⟩
  have jj : ∀ a, ¬ qSc a → a ≠ 240 + 3 → a ≠ 240 + 2 → q_up K (240 + 2) V' a = I2 a := fun a z1 z2 z3 => by
    rw [kk a (fun e => z1 (by subst e; unfold qSc; omega)) z2 z3, hJs a z1]
  have fall : qFrT I (q_up K (240 + 2) V') := frT_trans f1 (frT_trans (fr_T fr_cT) (frT_trans (fr_T hJ) f2))
  have e188 : q_up K (240 + 2) V' (188 + 2) = P' := by
    rw [jj (188 + 2) (by unfold qSc; omega) (by omega) (by omega), s1 _ (by omega), ← hK1]
    exact q_up_eq
  refine hv_new h fall ?_ (by rw [e188, q_up_eq]; exact hPV) ?_
  · unfold qYY at s2 ⊢
    have edJ : qd (q_up K (240 + 2) V') t = qd I2 t := qd_same fun a z1 z2 => jj a (by unfold qSc; omega) (by omega) (by omega)
    rw [edJ, jj (188 + 2) (by unfold qSc; omega) (by omega) (by omega), jj (199 + 1 + 2 * 0 + 1) (by unfold qSc; omega) (by omega) (by omega), jj (199 + 1 + 2 * 1 + 1) (by unfold qSc; omega) (by omega) (by omega), jj (199 + 1 + 2 * 2 + 1) (by unfold qSc; omega) (by omega) (by omega), jj (199 + 1 + 2 * 3 + 1) (by unfold qSc; omega) (by omega) (by omega), jj (199 + 1 + 2 * 4 + 1) (by unfold qSc; omega) (by omega) (by omega), jj (199 + 1 + 2 * 6 + 1) (by unfold qSc; omega) (by omega) (by omega)]
    exact s2
  · have k194 : q_up K (240 + 2) V' 194 = I1 194 := by
      rw [jj 194 (by unfold qSc; omega) (by omega) (by omega), s1 194 (by omega), ← hK1, q_up_ne (by decide)]
    have k196 : q_up K (240 + 2) V' (195 + 1) = I1 (195 + 1) := by
      rw [jj (195 + 1) (by unfold qSc; omega) (by omega) (by omega), s1 (195 + 1) (by omega), ← hK1, q_up_ne (by decide)]
    have k198 : q_up K (240 + 2) V' (197 + 1) = I (197 + 1) := by
      rw [jj (197 + 1) (by unfold qSc; omega) (by omega) (by omega)]
      exact i2 _ (by omega) (by omega) (by omega) (by omega)
    have k244 : q_up K (240 + 2) V' (240 + 4) = I (240 + 4) := by
      rw [jj (240 + 4) (by unfold qSc; omega) (by omega) (by omega)]
      exact i2 _ (by omega) (by omega) (by omega) (by omega)
    have k243 : q_up K (240 + 2) V' (240 + 3) = K (240 + 3) := q_up_ne (by decide)
    have k240 : q_up K (240 + 2) V' 240 = K 240 := q_up_ne (by decide)
    refine ⟨if n < 16 then o else (o + 1) % 16, if n < 16 then n + 1 else 16, k, by rw [k194]; exact c2, by split <;> omega, by rw [k194]; exact c3, by split <;> omega, by rw [k194, c4]; exact g5, g6, by rw [k240]; exact m3, by rw [k240, m2 20 (by omega), hJ20]; exact g8, ?_, ?_⟩
    · rw [k196, k243]
      refine ac_push hU9 g4 g9 g2 h5 c5 ?_ ?_
      · rw [j242, j243] at m4; exact m4
      · rw [j242, j243] at m5; exact m5
    · rw [k198, k244]
      exact g10
theorem kx1 : ∀ n, n < 64 → ∀ u, u < 6 → (w n >>> (w u &&& 31)) &&& 1 = 1 → w n &&& (((1 : Int32) <<< (w u &&& 31)) ^^^ (-1)) = w n ^^^ ((1 : Int32) <<< (w u &&& 31)) := by decide +kernel
theorem kx0 : ∀ n, n < 64 → ∀ u, u < 6 → ¬ (w n >>> (w u &&& 31)) &&& 1 = 1 → (w n &&& (((1 : Int32) <<< (w u &&& 31)) ^^^ (-1))) ||| ((1 : Int32) <<< (w u &&& 31)) = w n ^^^ ((1 : Int32) <<< (w u &&& 31)) := by decide +kernel
theorem kxb : ∀ n, n < 64 → ∀ u, u < 6 → (w n ^^^ ((1 : Int32) <<< (w u &&& 31))) = w (w n ^^^ ((1 : Int32) <<< (w u &&& 31))).toNatClampNeg ∧ (w n ^^^ ((1 : Int32) <<< (w u &&& 31))).toNatClampNeg < 64 := by decide +kernel
theorem pr_kept {D : Nat → Nat → Int32} {U S dn : Nat} {P V : Nat → Int32} (hU : U ≤ 6) {z : Int32} {n : Nat} (hz : z = w n) (hn : n < 64) (h : qPR D U S dn P V) : qPR D U S dn (q_set P 18 z) (q_set V 48 z) := by
  obtain ⟨h1, ⟨h2, h3⟩, h4, h5, h6⟩ := h
  refine ⟨fun u hu => ?_, ⟨by rw [q_set_eq, q_set_eq], fun u hu => ?_⟩, fun u hu => by rw [q_set_ne (by omega)]; exact h4 u hu, ⟨n, by rw [q_set_eq]; exact hz, hn⟩, fun u hu => by rw [q_set_ne (by omega)]; exact h6 u hu⟩
  · rw [q_set_ne (by omega), q_set_ne (by omega)]; exact h1 u hu
  · obtain ⟨a1, a2, a3⟩ := h3 u hu
    rw [q_set_ne (by omega), q_set_ne (by omega), q_set_ne (by omega), q_set_ne (by omega), q_set_ne (by omega), q_set_ne (by omega)]
    refine ⟨a1, a2, fun g e hg => ?_⟩
    obtain ⟨k, g', b1, b2, b3⟩ := a3 g e hg
    exact ⟨k, g', b1, b2, fun i hi => by have := b1.1; rw [q_set_ne (by omega)]; exact b3 i hi⟩
theorem pr_mend {D : Nat → Nat → Int32} {U S dn u a : Nat} {P V : Nat → Int32} (hU : U ≤ 6) (hu : u < U) (ha : a ≤ 30) (h : qPR D U S dn P V) : qPR D U S dn (q_set P u (w a)) (q_set V u (w a)) := by
  obtain ⟨h1, ⟨h2, h3⟩, h4, h5, h6⟩ := h
  refine ⟨fun v hv => ?_, ⟨by rw [q_set_ne (by omega), q_set_ne (by omega)]; exact h2, fun v hv => ?_⟩, fun v hv => ?_, by rw [q_set_ne (by omega)]; exact h5, fun v hv => by rw [q_set_ne (by omega)]; exact h6 v hv⟩
  · rw [q_set_ne (by omega), q_set_ne (by omega)]; exact h1 v hv
  · obtain ⟨a1, a2, a3⟩ := h3 v hv
    refine ⟨?_, by rw [q_set_ne (by omega), q_set_ne (by omega)]; exact a2, fun g e hg => ?_⟩
    · by_cases c : v = u
      · subst c; rw [q_set_eq, q_set_eq]
      · rw [q_set_ne c, q_set_ne c]; exact a1
    · obtain ⟨k, g', b1, b2, b3⟩ := a3 g e hg
      exact ⟨k, g', by rw [q_set_ne (by omega)]; exact b1, by rw [q_set_ne (by omega)]; exact b2, fun i hi => by rw [q_set_ne (by omega)]; exact b3 i hi⟩
  · by_cases c : v = u
    · subst c; exact ⟨a, q_set_eq, ha⟩
    · rw [q_set_ne c]; exact h4 v hv
theorem setKept_eq (hP : qPl s q) (u b : Int32) : jD 48 [.ref q, .int u, .int b] (I, L, s) = some (none, q_up I (q + 1 + 1) (q_set (I (q + 1 + 1)) 18 (if b = 0 then I (q + 1 + 1) 18 &&& (((1 : Int32) <<< (u &&& 31)) ^^^ (-1)) else (I (q + 1 + 1) 18 &&& (((1 : Int32) <<< (u &&& 31)) ^^^ (-1))) ||| ((1 : Int32) <<< (u &&& 31)))), L, s) := by
  rw [D_48, E_48_0]
  simp only [↓reduceIte, q_i, q_l, q_k, q_r, q_z, q_si, q_sl, jx_lt, jx_ri, jx_rl, jx_rv, if_true, if_false, Nat.reduceLeDiff, Nat.add_one_ne_zero, and_self, true_or, or_true, Nat.reduceEqDiff, or_self, or_false, false_or, hP.1, hP.2.1, hP.2.2.1, look_eq hP.2.2, show (18 : Int32) = w 18 from rfl, q_at_w (n := 19) (k := 18) (by omega) (by omega)]
  by_cases c : b = 0
  · simp only [c, ↓reduceIte, q_i, q_l, q_k, q_r, q_z, q_si, q_sl, jx_lt, jx_ri, jx_rl, jx_rv, if_true, if_false, Nat.reduceLeDiff, Nat.add_one_ne_zero, and_self, true_or, or_true, Nat.reduceEqDiff, or_self, or_false, false_or, E_48_1, E_48_2, hP.2.2.1, put_eq hP.2.2, q_put_w (n := 19) (k := 18) (by omega) (by omega)]
  · simp only [c, ↓reduceIte, q_i, q_l, q_k, q_r, q_z, q_si, q_sl, jx_lt, jx_ri, jx_rl, jx_rv, if_true, if_false, Nat.reduceLeDiff, Nat.add_one_ne_zero, and_self, true_or, or_true, Nat.reduceEqDiff, or_self, or_false, false_or, E_48_2, hP.2.2.1, put_eq hP.2.2, q_put_w (n := 19) (k := 18) (by omega) (by omega)]
theorem setStrong_eq (hP : qPl s q) {u : Nat} (hu : u < 19) (v : Int32) : jD 46 [.ref q, .int (w u), .int v] (I, L, s) = some (none, q_up I (q + 1 + 1) (q_set (I (q + 1 + 1)) u v), L, s) := by
  rw [D_46, E_46_0]
  simp only [↓reduceIte, q_i, q_l, q_k, q_r, q_z, q_si, q_sl, jx_lt, jx_ri, jx_rl, jx_rv, if_true, if_false, Nat.reduceLeDiff, Nat.add_one_ne_zero, and_self, true_or, or_true, Nat.reduceEqDiff, or_self, or_false, false_or, hP.1, hP.2.1, hP.2.2.1, put_eq hP.2.2, q_put_w (n := 19) (k := u) (by omega) hu]
theorem p_keep (h : qHV I s t t' f U S dn R O W) (a b : Int32) (hb : b = 0 ∨ b = 1) : qAnsA I L s t t' f U S dn R O W 154 [.ref 100, .int a, .int b] 306 [.ref 240, .int a, .int b] := by
  obtain ⟨h1, -, -, -, h5, -⟩ := id h
  obtain ⟨hU, hU9⟩ := h1_U h1
  obtain ⟨hx, hm, hf, hT⟩ := id h1
  have hZ := h1_Z h1
  rcases small_or a (n := U) (by omega) with ⟨u, hu, rfl⟩ | ca
  · have hum := fun r => mUmb_y (L := L) (s := s) hm (tie_5 (hZ r)) hU9 hu
    obtain ⟨n, en, hn⟩ := h5.2.2.2.1
    have v48 : I (240 + 2) 48 = w n := h5.2.1.1.trans en
    by_cases c : (if (w n >>> (w u &&& 31)) &&& 1 = 1 then (1 : Int32) else 0) = b
    · have v48' : mZ (cT I 5) 240 (240 + 2) 48 = w n := v48
      refine ansA_0 h (ans_T (v := .int 0) (r := 5) (J := mZ (cT I 5) 240) ?_ ?_ fr_mZ fr_x13 (by decide))
      · simp only [D_154, E_154_0, E_154_1, ↓reduceIte, q_i, q_l, q_k, q_r, q_z, q_si, q_sl, jx_lt, jx_ri, jx_rl, jx_rv, if_true, if_false, Nat.reduceLeDiff, Nat.add_one_ne_zero, and_self, true_or, or_true, Nat.reduceEqDiff, or_self, or_false, false_or, xo_k hx, xo_r0 hx, xo_r1 hx, xo_r2 hx, xo_r3 hx, xo_r4 hx, xo_r5 hx, xo_r6 hx, xo_r7 hx, xo_r8 hx, xo_r9 hx, xo_r10 hx, xo_r11 hx, xo_ka hx, xo_ra0 hx, xo_ra1 hx, xo_ko hx, xo_ro0 hx, xo_ro1 hx, xo_kf hx, xo_rf0 hx, xo_kh hx, xo_rh0 hx, xo_ke hx, xo_re0 hx, xo_re1 hx, xo_kn hx, xo_zn hx, xo_re2 hx, xo_re3 hx, xo_kt hx, xo_rt0 hx, xo_t0 hx, (xo_ft hx).1, (xo_now hx).1, (xo_now hx).2.1, (xo_now hx).2.2.1, (xo_try hx).1, (xo_yr hx).1.1, (xo_ty hx).1, answered_eq hx, refused_eq hx, show ¬ (1 : Int32) = 0 by decide, Nat.reduceLT, isUmb_y hx hU hU9 hu, isKept_eq (xo_now hx), en, c, isRefused_eq hx]
      · simp only [D_306, E_306_0, E_306_1, ↓reduceIte, q_i, q_l, q_k, q_r, q_z, q_si, q_sl, jx_lt, jx_ri, jx_rl, jx_rv, if_true, if_false, Nat.reduceLeDiff, Nat.add_one_ne_zero, and_self, true_or, or_true, Nat.reduceEqDiff, or_self, or_false, false_or, mo_k hm.1, mo_r5 hm.1, mo_k5 hm.1, mo_z5 hm.1, mo_r16 hm.1, mo_k16 hm.1, mo_z16 hm.1, mo_r17 hm.1, mo_k17 hm.1, mo_z17 hm.1, mo_r18 hm.1, mo_k18 hm.1, mo_z18 hm.1, mo_r21 hm.1, mo_k21 hm.1, mo_z21 hm.1, mo_r22 hm.1, mo_k22 hm.1, mo_z22 hm.1, mo_r23 hm.1, mo_k23 hm.1, mo_z23 hm.1, mo_r24 hm.1, mo_k24 hm.1, mo_z24 hm.1, mo_r25 hm.1, mo_k25 hm.1, mo_z25 hm.1, mo_r26 hm.1, mo_k26 hm.1, mo_z26 hm.1, mo_r27 hm.1, mo_k27 hm.1, mo_z27 hm.1, mo_r29 hm.1, mo_k29 hm.1, mo_z29 hm.1, mo_r30 hm.1, mo_k30 hm.1, mo_z30 hm.1, mo_r31 hm.1, mo_k31 hm.1, mo_z31 hm.1, mo_r32 hm.1, mo_k32 hm.1, mo_z32 hm.1, mo_r40 hm.1, mo_k40 hm.1, mo_z40 hm.1, mo_r43 hm.1, mo_k43 hm.1, mo_z43 hm.1, mo_r44 hm.1, mo_k44 hm.1, mo_z44 hm.1, mf_k hm.2.1, mf_r14 hm.2.1, mf_k14 hm.2.1, mf_z14 hm.2.1, mf_r15 hm.2.1, mf_k15 hm.2.1, mf_z15 hm.2.1, mf_r16 hm.2.1, mf_k16 hm.2.1, mf_z16 hm.2.1, mf_r17 hm.2.1, mf_k17 hm.2.1, mf_z17 hm.2.1, mf_r18 hm.2.1, mf_k18 hm.2.1, mf_z18 hm.2.1, mf_r19 hm.2.1, mf_k19 hm.2.1, mf_z19 hm.2.1, mf_r20 hm.2.1, mf_k20 hm.2.1, mf_z20 hm.2.1, mf_r21 hm.2.1, mf_k21 hm.2.1, mf_z21 hm.2.1, mf_r22 hm.2.1, mf_k22 hm.2.1, mf_z22 hm.2.1, mf_r23 hm.2.1, mf_k23 hm.2.1, mf_z23 hm.2.1, mf_r24 hm.2.1, mf_k24 hm.2.1, mf_z24 hm.2.1, mf_r25 hm.2.1, mf_k25 hm.2.1, mf_z25 hm.2.1, mf_r26 hm.2.1, mf_k26 hm.2.1, mf_z26 hm.2.1, mf_r27 hm.2.1, mf_k27 hm.2.1, mf_z27 hm.2.1, mf_r28 hm.2.1, mf_k28 hm.2.1, mf_z28 hm.2.1, mf_r29 hm.2.1, mf_k29 hm.2.1, mf_z29 hm.2.1, mf_r30 hm.2.1, mf_k30 hm.2.1, mf_z30 hm.2.1, mf_r31 hm.2.1, mf_k31 hm.2.1, mf_z31 hm.2.1, mf_r32 hm.2.1, mf_k32 hm.2.1, mf_z32 hm.2.1, mf_r33 hm.2.1, mf_k33 hm.2.1, mf_z33 hm.2.1, mf_r34 hm.2.1, mf_k34 hm.2.1, mf_z34 hm.2.1, mf_r35 hm.2.1, mf_k35 hm.2.1, mf_z35 hm.2.1, mf_r36 hm.2.1, mf_k36 hm.2.1, mf_z36 hm.2.1, hm.2.2.1, hm.2.2.2, q_mZ, mgood_eq hm.1, mrefused_eq hm.1, show ¬ (1 : Int32) = 0 by decide, show ¬ (1 : Int32) ≤ 0 by decide, show ¬ (2 : Int32) ≤ 0 by decide, show ¬ (6 : Int32) ≤ 0 by decide, show (0 : Int32) ≤ 0 by decide, hum, show (48 : Int32) = w 48 from rfl, w_nn (a := 48) (by omega), show ¬ 49 ≤ 48 by omega, w_tc (a := 48) (by omega), bit_eq, v48', c, mdenied_eq hm.1]
    · generalize hz : w n ^^^ ((1 : Int32) <<< (w u &&& 31)) = z
      have hzb := kxb n hn u (by omega)
      rw [hz] at hzb
      have hP' : (if b = 0 then w n &&& (((1 : Int32) <<< (w u &&& 31)) ^^^ (-1)) else (w n &&& (((1 : Int32) <<< (w u &&& 31)) ^^^ (-1))) ||| ((1 : Int32) <<< (w u &&& 31))) = z := by
        rw [← hz]
        rcases hb with rfl | rfl
        · rw [if_pos rfl]
          by_cases c2 : (w n >>> (w u &&& 31)) &&& 1 = 1
          · exact kx1 n hn u (by omega) c2
          · rw [if_neg c2] at c; exact absurd rfl c
        · rw [if_neg (by decide)]
          by_cases c2 : (w n >>> (w u &&& 31)) &&& 1 = 1
          · rw [if_pos c2] at c; exact absurd rfl c
          · exact kx0 n hn u (by omega) c2
      obtain ⟨I1, e1, c1, hh⟩ := act_both (L := L) h
      obtain ⟨I2, e2, f1, f2, hh2⟩ := hh (q_set (I (188 + 2)) 18 z)
      obtain ⟨K, e3, k1, k2, k3, hh3⟩ := hh2 (mZ (cT I2 0) 240) fr_mZ fr_x13
      obtain ⟨g1, g2, g3⟩ := hh3 (q_set (I (240 + 2)) 48 z) (pr_kept hU9 hzb.1 hzb.2 h5)
      have e9 := setKept_eq (I := I1) (L := L) (xo_now hx) (w u) b
      rw [c1 (188 + 1 + 1) (by omega) (by omega), show I (188 + 1 + 1) 18 = w n from en, hP'] at e9
      have hm5 : mZ (cT I2 0) 240 f 5 = w U := by
        have z1 : mZ (cT I2 0) 240 f = I f := by
          rw [mZ, q_up_ne (by omega), cT, q_up_ne (by omega)]
          exact f2 f (by omega) (by omega) (by omega) (by omega)
        rw [z1]; exact tie_5 hT
      have v48' : mZ (cT I2 0) 240 (240 + 2) 48 = w n := by
        rw [mZ, q_up_ne (by omega), cT, q_up_ne (by omega), f2 _ (by omega) (by omega) (by omega) (by omega)]
        exact v48
      refine ansA_T (I1 := I2) (v := .int 1) (J := q_up K (240 + 2) (q_set (I (240 + 2)) 48 z)) ?_ f1 ?_ g1 g2 g3
      · simp only [D_154, E_154_0, E_154_1, ↓reduceIte, q_i, q_l, q_k, q_r, q_z, q_si, q_sl, jx_lt, jx_ri, jx_rl, jx_rv, if_true, if_false, Nat.reduceLeDiff, Nat.add_one_ne_zero, and_self, true_or, or_true, Nat.reduceEqDiff, or_self, or_false, false_or, xo_k hx, xo_r0 hx, xo_r1 hx, xo_r2 hx, xo_r3 hx, xo_r4 hx, xo_r5 hx, xo_r6 hx, xo_r7 hx, xo_r8 hx, xo_r9 hx, xo_r10 hx, xo_r11 hx, xo_ka hx, xo_ra0 hx, xo_ra1 hx, xo_ko hx, xo_ro0 hx, xo_ro1 hx, xo_kf hx, xo_rf0 hx, xo_kh hx, xo_rh0 hx, xo_ke hx, xo_re0 hx, xo_re1 hx, xo_kn hx, xo_zn hx, xo_re2 hx, xo_re3 hx, xo_kt hx, xo_rt0 hx, xo_t0 hx, (xo_ft hx).1, (xo_now hx).1, (xo_now hx).2.1, (xo_now hx).2.2.1, (xo_try hx).1, (xo_yr hx).1.1, (xo_ty hx).1, answered_eq hx, refused_eq hx, show ¬ (1 : Int32) = 0 by decide, Nat.reduceLT, isUmb_y hx hU hU9 hu, isKept_eq (xo_now hx), en, c]
        rw [E_154_2]
        simp only [↓reduceIte, q_i, q_l, q_k, q_r, q_z, q_si, q_sl, jx_lt, jx_ri, jx_rl, jx_rv, if_true, if_false, Nat.reduceLeDiff, Nat.add_one_ne_zero, and_self, true_or, or_true, Nat.reduceEqDiff, or_self, or_false, false_or, xo_k hx, xo_r0 hx, xo_r1 hx, xo_r2 hx, xo_r3 hx, xo_r4 hx, xo_r5 hx, xo_r6 hx, xo_r7 hx, xo_r8 hx, xo_r9 hx, xo_r10 hx, xo_r11 hx, xo_ka hx, xo_ra0 hx, xo_ra1 hx, xo_ko hx, xo_ro0 hx, xo_ro1 hx, xo_kf hx, xo_rf0 hx, xo_kh hx, xo_rh0 hx, xo_ke hx, xo_re0 hx, xo_re1 hx, xo_kn hx, xo_zn hx, xo_re2 hx, xo_re3 hx, xo_kt hx, xo_rt0 hx, xo_t0 hx, (xo_ft hx).1, (xo_now hx).1, (xo_now hx).2.1, (xo_now hx).2.2.1, (xo_try hx).1, (xo_yr hx).1.1, (xo_ty hx).1, answered_eq hx, refused_eq hx, show ¬ (1 : Int32) = 0 by decide, Nat.reduceLT, e1, e9, e2, isDone_eq hx]
      · simp only [D_306, E_306_0, E_306_1, ↓reduceIte, q_i, q_l, q_k, q_r, q_z, q_si, q_sl, jx_lt, jx_ri, jx_rl, jx_rv, if_true, if_false, Nat.reduceLeDiff, Nat.add_one_ne_zero, and_self, true_or, or_true, Nat.reduceEqDiff, or_self, or_false, false_or, mo_k hm.1, mo_r5 hm.1, mo_k5 hm.1, mo_z5 hm.1, mo_r16 hm.1, mo_k16 hm.1, mo_z16 hm.1, mo_r17 hm.1, mo_k17 hm.1, mo_z17 hm.1, mo_r18 hm.1, mo_k18 hm.1, mo_z18 hm.1, mo_r21 hm.1, mo_k21 hm.1, mo_z21 hm.1, mo_r22 hm.1, mo_k22 hm.1, mo_z22 hm.1, mo_r23 hm.1, mo_k23 hm.1, mo_z23 hm.1, mo_r24 hm.1, mo_k24 hm.1, mo_z24 hm.1, mo_r25 hm.1, mo_k25 hm.1, mo_z25 hm.1, mo_r26 hm.1, mo_k26 hm.1, mo_z26 hm.1, mo_r27 hm.1, mo_k27 hm.1, mo_z27 hm.1, mo_r29 hm.1, mo_k29 hm.1, mo_z29 hm.1, mo_r30 hm.1, mo_k30 hm.1, mo_z30 hm.1, mo_r31 hm.1, mo_k31 hm.1, mo_z31 hm.1, mo_r32 hm.1, mo_k32 hm.1, mo_z32 hm.1, mo_r40 hm.1, mo_k40 hm.1, mo_z40 hm.1, mo_r43 hm.1, mo_k43 hm.1, mo_z43 hm.1, mo_r44 hm.1, mo_k44 hm.1, mo_z44 hm.1, mf_k hm.2.1, mf_r14 hm.2.1, mf_k14 hm.2.1, mf_z14 hm.2.1, mf_r15 hm.2.1, mf_k15 hm.2.1, mf_z15 hm.2.1, mf_r16 hm.2.1, mf_k16 hm.2.1, mf_z16 hm.2.1, mf_r17 hm.2.1, mf_k17 hm.2.1, mf_z17 hm.2.1, mf_r18 hm.2.1, mf_k18 hm.2.1, mf_z18 hm.2.1, mf_r19 hm.2.1, mf_k19 hm.2.1, mf_z19 hm.2.1, mf_r20 hm.2.1, mf_k20 hm.2.1, mf_z20 hm.2.1, mf_r21 hm.2.1, mf_k21 hm.2.1, mf_z21 hm.2.1, mf_r22 hm.2.1, mf_k22 hm.2.1, mf_z22 hm.2.1, mf_r23 hm.2.1, mf_k23 hm.2.1, mf_z23 hm.2.1, mf_r24 hm.2.1, mf_k24 hm.2.1, mf_z24 hm.2.1, mf_r25 hm.2.1, mf_k25 hm.2.1, mf_z25 hm.2.1, mf_r26 hm.2.1, mf_k26 hm.2.1, mf_z26 hm.2.1, mf_r27 hm.2.1, mf_k27 hm.2.1, mf_z27 hm.2.1, mf_r28 hm.2.1, mf_k28 hm.2.1, mf_z28 hm.2.1, mf_r29 hm.2.1, mf_k29 hm.2.1, mf_z29 hm.2.1, mf_r30 hm.2.1, mf_k30 hm.2.1, mf_z30 hm.2.1, mf_r31 hm.2.1, mf_k31 hm.2.1, mf_z31 hm.2.1, mf_r32 hm.2.1, mf_k32 hm.2.1, mf_z32 hm.2.1, mf_r33 hm.2.1, mf_k33 hm.2.1, mf_z33 hm.2.1, mf_r34 hm.2.1, mf_k34 hm.2.1, mf_z34 hm.2.1, mf_r35 hm.2.1, mf_k35 hm.2.1, mf_z35 hm.2.1, mf_r36 hm.2.1, mf_k36 hm.2.1, mf_z36 hm.2.1, hm.2.2.1, hm.2.2.2, q_mZ, mgood_eq hm.1, mrefused_eq hm.1, show ¬ (1 : Int32) = 0 by decide, show ¬ (1 : Int32) ≤ 0 by decide, show ¬ (2 : Int32) ≤ 0 by decide, show ¬ (6 : Int32) ≤ 0 by decide, show (0 : Int32) ≤ 0 by decide, mUmb_y hm hm5 hU9 hu, show (48 : Int32) = w 48 from rfl, w_nn (a := 48) (by omega), show ¬ 49 ≤ 48 by omega, w_tc (a := 48) (by omega), bit_eq, v48', c]
        rw [E_306_2]
        simp only [↓reduceIte, q_i, q_l, q_k, q_r, q_z, q_si, q_sl, jx_lt, jx_ri, jx_rl, jx_rv, if_true, if_false, Nat.reduceLeDiff, Nat.add_one_ne_zero, and_self, true_or, or_true, Nat.reduceEqDiff, or_self, or_false, false_or, mo_k hm.1, mo_r5 hm.1, mo_k5 hm.1, mo_z5 hm.1, mo_r16 hm.1, mo_k16 hm.1, mo_z16 hm.1, mo_r17 hm.1, mo_k17 hm.1, mo_z17 hm.1, mo_r18 hm.1, mo_k18 hm.1, mo_z18 hm.1, mo_r21 hm.1, mo_k21 hm.1, mo_z21 hm.1, mo_r22 hm.1, mo_k22 hm.1, mo_z22 hm.1, mo_r23 hm.1, mo_k23 hm.1, mo_z23 hm.1, mo_r24 hm.1, mo_k24 hm.1, mo_z24 hm.1, mo_r25 hm.1, mo_k25 hm.1, mo_z25 hm.1, mo_r26 hm.1, mo_k26 hm.1, mo_z26 hm.1, mo_r27 hm.1, mo_k27 hm.1, mo_z27 hm.1, mo_r29 hm.1, mo_k29 hm.1, mo_z29 hm.1, mo_r30 hm.1, mo_k30 hm.1, mo_z30 hm.1, mo_r31 hm.1, mo_k31 hm.1, mo_z31 hm.1, mo_r32 hm.1, mo_k32 hm.1, mo_z32 hm.1, mo_r40 hm.1, mo_k40 hm.1, mo_z40 hm.1, mo_r43 hm.1, mo_k43 hm.1, mo_z43 hm.1, mo_r44 hm.1, mo_k44 hm.1, mo_z44 hm.1, mf_k hm.2.1, mf_r14 hm.2.1, mf_k14 hm.2.1, mf_z14 hm.2.1, mf_r15 hm.2.1, mf_k15 hm.2.1, mf_z15 hm.2.1, mf_r16 hm.2.1, mf_k16 hm.2.1, mf_z16 hm.2.1, mf_r17 hm.2.1, mf_k17 hm.2.1, mf_z17 hm.2.1, mf_r18 hm.2.1, mf_k18 hm.2.1, mf_z18 hm.2.1, mf_r19 hm.2.1, mf_k19 hm.2.1, mf_z19 hm.2.1, mf_r20 hm.2.1, mf_k20 hm.2.1, mf_z20 hm.2.1, mf_r21 hm.2.1, mf_k21 hm.2.1, mf_z21 hm.2.1, mf_r22 hm.2.1, mf_k22 hm.2.1, mf_z22 hm.2.1, mf_r23 hm.2.1, mf_k23 hm.2.1, mf_z23 hm.2.1, mf_r24 hm.2.1, mf_k24 hm.2.1, mf_z24 hm.2.1, mf_r25 hm.2.1, mf_k25 hm.2.1, mf_z25 hm.2.1, mf_r26 hm.2.1, mf_k26 hm.2.1, mf_z26 hm.2.1, mf_r27 hm.2.1, mf_k27 hm.2.1, mf_z27 hm.2.1, mf_r28 hm.2.1, mf_k28 hm.2.1, mf_z28 hm.2.1, mf_r29 hm.2.1, mf_k29 hm.2.1, mf_z29 hm.2.1, mf_r30 hm.2.1, mf_k30 hm.2.1, mf_z30 hm.2.1, mf_r31 hm.2.1, mf_k31 hm.2.1, mf_z31 hm.2.1, mf_r32 hm.2.1, mf_k32 hm.2.1, mf_z32 hm.2.1, mf_r33 hm.2.1, mf_k33 hm.2.1, mf_z33 hm.2.1, mf_r34 hm.2.1, mf_k34 hm.2.1, mf_z34 hm.2.1, mf_r35 hm.2.1, mf_k35 hm.2.1, mf_z35 hm.2.1, mf_r36 hm.2.1, mf_k36 hm.2.1, mf_z36 hm.2.1, hm.2.2.1, hm.2.2.2, q_mZ, mgood_eq hm.1, mrefused_eq hm.1, show ¬ (1 : Int32) = 0 by decide, show ¬ (1 : Int32) ≤ 0 by decide, show ¬ (2 : Int32) ≤ 0 by decide, show ¬ (6 : Int32) ≤ 0 by decide, show (0 : Int32) ≤ 0 by decide, e3, show (48 : Int32) = w 48 from rfl, w_nn (a := 48) (by omega), show ¬ 49 ≤ 48 by omega, w_tc (a := 48) (by omega), k1, v48, hz, mgranted_eq hm.1]
  · refine ansA_0 h (ans_T (v := .int 0) (r := 1) (J := mZ (cT I 1) 240) ?_ ?_ fr_mZ fr_x13 (by decide))
    · simp only [D_154, E_154_0, ↓reduceIte, q_i, q_l, q_k, q_r, q_z, q_si, q_sl, jx_lt, jx_ri, jx_rl, jx_rv, if_true, if_false, Nat.reduceLeDiff, Nat.add_one_ne_zero, and_self, true_or, or_true, Nat.reduceEqDiff, or_self, or_false, false_or, xo_k hx, xo_r0 hx, xo_r1 hx, xo_r2 hx, xo_r3 hx, xo_r4 hx, xo_r5 hx, xo_r6 hx, xo_r7 hx, xo_r8 hx, xo_r9 hx, xo_r10 hx, xo_r11 hx, xo_ka hx, xo_ra0 hx, xo_ra1 hx, xo_ko hx, xo_ro0 hx, xo_ro1 hx, xo_kf hx, xo_rf0 hx, xo_kh hx, xo_rh0 hx, xo_ke hx, xo_re0 hx, xo_re1 hx, xo_kn hx, xo_zn hx, xo_re2 hx, xo_re3 hx, xo_kt hx, xo_rt0 hx, xo_t0 hx, (xo_ft hx).1, (xo_now hx).1, (xo_now hx).2.1, (xo_now hx).2.2.1, (xo_try hx).1, (xo_yr hx).1.1, (xo_ty hx).1, answered_eq hx, refused_eq hx, show ¬ (1 : Int32) = 0 by decide, Nat.reduceLT, isUmb_n hx hU ca, isRefused_eq hx]
    · simp only [D_306, E_306_0, ↓reduceIte, q_i, q_l, q_k, q_r, q_z, q_si, q_sl, jx_lt, jx_ri, jx_rl, jx_rv, if_true, if_false, Nat.reduceLeDiff, Nat.add_one_ne_zero, and_self, true_or, or_true, Nat.reduceEqDiff, or_self, or_false, false_or, mo_k hm.1, mo_r5 hm.1, mo_k5 hm.1, mo_z5 hm.1, mo_r16 hm.1, mo_k16 hm.1, mo_z16 hm.1, mo_r17 hm.1, mo_k17 hm.1, mo_z17 hm.1, mo_r18 hm.1, mo_k18 hm.1, mo_z18 hm.1, mo_r21 hm.1, mo_k21 hm.1, mo_z21 hm.1, mo_r22 hm.1, mo_k22 hm.1, mo_z22 hm.1, mo_r23 hm.1, mo_k23 hm.1, mo_z23 hm.1, mo_r24 hm.1, mo_k24 hm.1, mo_z24 hm.1, mo_r25 hm.1, mo_k25 hm.1, mo_z25 hm.1, mo_r26 hm.1, mo_k26 hm.1, mo_z26 hm.1, mo_r27 hm.1, mo_k27 hm.1, mo_z27 hm.1, mo_r29 hm.1, mo_k29 hm.1, mo_z29 hm.1, mo_r30 hm.1, mo_k30 hm.1, mo_z30 hm.1, mo_r31 hm.1, mo_k31 hm.1, mo_z31 hm.1, mo_r32 hm.1, mo_k32 hm.1, mo_z32 hm.1, mo_r40 hm.1, mo_k40 hm.1, mo_z40 hm.1, mo_r43 hm.1, mo_k43 hm.1, mo_z43 hm.1, mo_r44 hm.1, mo_k44 hm.1, mo_z44 hm.1, mf_k hm.2.1, mf_r14 hm.2.1, mf_k14 hm.2.1, mf_z14 hm.2.1, mf_r15 hm.2.1, mf_k15 hm.2.1, mf_z15 hm.2.1, mf_r16 hm.2.1, mf_k16 hm.2.1, mf_z16 hm.2.1, mf_r17 hm.2.1, mf_k17 hm.2.1, mf_z17 hm.2.1, mf_r18 hm.2.1, mf_k18 hm.2.1, mf_z18 hm.2.1, mf_r19 hm.2.1, mf_k19 hm.2.1, mf_z19 hm.2.1, mf_r20 hm.2.1, mf_k20 hm.2.1, mf_z20 hm.2.1, mf_r21 hm.2.1, mf_k21 hm.2.1, mf_z21 hm.2.1, mf_r22 hm.2.1, mf_k22 hm.2.1, mf_z22 hm.2.1, mf_r23 hm.2.1, mf_k23 hm.2.1, mf_z23 hm.2.1, mf_r24 hm.2.1, mf_k24 hm.2.1, mf_z24 hm.2.1, mf_r25 hm.2.1, mf_k25 hm.2.1, mf_z25 hm.2.1, mf_r26 hm.2.1, mf_k26 hm.2.1, mf_z26 hm.2.1, mf_r27 hm.2.1, mf_k27 hm.2.1, mf_z27 hm.2.1, mf_r28 hm.2.1, mf_k28 hm.2.1, mf_z28 hm.2.1, mf_r29 hm.2.1, mf_k29 hm.2.1, mf_z29 hm.2.1, mf_r30 hm.2.1, mf_k30 hm.2.1, mf_z30 hm.2.1, mf_r31 hm.2.1, mf_k31 hm.2.1, mf_z31 hm.2.1, mf_r32 hm.2.1, mf_k32 hm.2.1, mf_z32 hm.2.1, mf_r33 hm.2.1, mf_k33 hm.2.1, mf_z33 hm.2.1, mf_r34 hm.2.1, mf_k34 hm.2.1, mf_z34 hm.2.1, mf_r35 hm.2.1, mf_k35 hm.2.1, mf_z35 hm.2.1, mf_r36 hm.2.1, mf_k36 hm.2.1, mf_z36 hm.2.1, hm.2.2.1, hm.2.2.2, q_mZ, mgood_eq hm.1, mrefused_eq hm.1, show ¬ (1 : Int32) = 0 by decide, show ¬ (1 : Int32) ≤ 0 by decide, show ¬ (2 : Int32) ≤ 0 by decide, show ¬ (6 : Int32) ≤ 0 by decide, show (0 : Int32) ≤ 0 by decide, mUmb_n hm (tie_5 (hZ 1)) ca, mdenied_eq hm.1]
theorem p_mend (h : qHV I s t t' f U S dn R O W) (a : Int32) : qAnsA I L s t t' f U S dn R O W 156 [.ref 100, .int a] 308 [.ref 240, .int a] := by
  obtain ⟨h1, -, -, -, h5, -⟩ := id h
  obtain ⟨hU, hU9⟩ := h1_U h1
  obtain ⟨hx, hm, hf, hT⟩ := id h1
  have hZ := h1_Z h1
  rcases small_or a (n := U) (by omega) with ⟨u, hu, rfl⟩ | ca
  · have hum := fun r => mUmb_y (L := L) (s := s) hm (tie_5 (hZ r)) hU9 hu
    obtain ⟨n, en, hn⟩ := h5.2.2.1 u hu
    have vu : I (240 + 2) u = w n := (h5.2.1.2 u hu).1.trans en
    by_cases c : n = 30
    · have vu' : mZ (cT I 5) 240 (240 + 2) u = w 30 := vu.trans (by rw [c])
      refine ansA_0 h (ans_T (v := .int (-1)) (r := 5) (J := mZ (cT I 5) 240) ?_ ?_ fr_mZ fr_x13 (by decide))
      · simp only [D_156, E_156_0, E_156_1, ↓reduceIte, q_i, q_l, q_k, q_r, q_z, q_si, q_sl, jx_lt, jx_ri, jx_rl, jx_rv, if_true, if_false, Nat.reduceLeDiff, Nat.add_one_ne_zero, and_self, true_or, or_true, Nat.reduceEqDiff, or_self, or_false, false_or, xo_k hx, xo_r0 hx, xo_r1 hx, xo_r2 hx, xo_r3 hx, xo_r4 hx, xo_r5 hx, xo_r6 hx, xo_r7 hx, xo_r8 hx, xo_r9 hx, xo_r10 hx, xo_r11 hx, xo_ka hx, xo_ra0 hx, xo_ra1 hx, xo_ko hx, xo_ro0 hx, xo_ro1 hx, xo_kf hx, xo_rf0 hx, xo_kh hx, xo_rh0 hx, xo_ke hx, xo_re0 hx, xo_re1 hx, xo_kn hx, xo_zn hx, xo_re2 hx, xo_re3 hx, xo_kt hx, xo_rt0 hx, xo_t0 hx, (xo_ft hx).1, (xo_now hx).1, (xo_now hx).2.1, (xo_now hx).2.2.1, (xo_try hx).1, (xo_yr hx).1.1, (xo_ty hx).1, answered_eq hx, refused_eq hx, show ¬ (1 : Int32) = 0 by decide, Nat.reduceLT, isUmb_y hx hU hU9 hu, strongOf_eq (xo_now hx), q_at_w (n := 19) (k := u) (by omega) (by omega), en, c, show ¬ w 30 < (30 : Int32) by decide]
      · simp only [D_308, E_308_0, E_308_1, ↓reduceIte, q_i, q_l, q_k, q_r, q_z, q_si, q_sl, jx_lt, jx_ri, jx_rl, jx_rv, if_true, if_false, Nat.reduceLeDiff, Nat.add_one_ne_zero, and_self, true_or, or_true, Nat.reduceEqDiff, or_self, or_false, false_or, mo_k hm.1, mo_r5 hm.1, mo_k5 hm.1, mo_z5 hm.1, mo_r16 hm.1, mo_k16 hm.1, mo_z16 hm.1, mo_r17 hm.1, mo_k17 hm.1, mo_z17 hm.1, mo_r18 hm.1, mo_k18 hm.1, mo_z18 hm.1, mo_r21 hm.1, mo_k21 hm.1, mo_z21 hm.1, mo_r22 hm.1, mo_k22 hm.1, mo_z22 hm.1, mo_r23 hm.1, mo_k23 hm.1, mo_z23 hm.1, mo_r24 hm.1, mo_k24 hm.1, mo_z24 hm.1, mo_r25 hm.1, mo_k25 hm.1, mo_z25 hm.1, mo_r26 hm.1, mo_k26 hm.1, mo_z26 hm.1, mo_r27 hm.1, mo_k27 hm.1, mo_z27 hm.1, mo_r29 hm.1, mo_k29 hm.1, mo_z29 hm.1, mo_r30 hm.1, mo_k30 hm.1, mo_z30 hm.1, mo_r31 hm.1, mo_k31 hm.1, mo_z31 hm.1, mo_r32 hm.1, mo_k32 hm.1, mo_z32 hm.1, mo_r40 hm.1, mo_k40 hm.1, mo_z40 hm.1, mo_r43 hm.1, mo_k43 hm.1, mo_z43 hm.1, mo_r44 hm.1, mo_k44 hm.1, mo_z44 hm.1, mf_k hm.2.1, mf_r14 hm.2.1, mf_k14 hm.2.1, mf_z14 hm.2.1, mf_r15 hm.2.1, mf_k15 hm.2.1, mf_z15 hm.2.1, mf_r16 hm.2.1, mf_k16 hm.2.1, mf_z16 hm.2.1, mf_r17 hm.2.1, mf_k17 hm.2.1, mf_z17 hm.2.1, mf_r18 hm.2.1, mf_k18 hm.2.1, mf_z18 hm.2.1, mf_r19 hm.2.1, mf_k19 hm.2.1, mf_z19 hm.2.1, mf_r20 hm.2.1, mf_k20 hm.2.1, mf_z20 hm.2.1, mf_r21 hm.2.1, mf_k21 hm.2.1, mf_z21 hm.2.1, mf_r22 hm.2.1, mf_k22 hm.2.1, mf_z22 hm.2.1, mf_r23 hm.2.1, mf_k23 hm.2.1, mf_z23 hm.2.1, mf_r24 hm.2.1, mf_k24 hm.2.1, mf_z24 hm.2.1, mf_r25 hm.2.1, mf_k25 hm.2.1, mf_z25 hm.2.1, mf_r26 hm.2.1, mf_k26 hm.2.1, mf_z26 hm.2.1, mf_r27 hm.2.1, mf_k27 hm.2.1, mf_z27 hm.2.1, mf_r28 hm.2.1, mf_k28 hm.2.1, mf_z28 hm.2.1, mf_r29 hm.2.1, mf_k29 hm.2.1, mf_z29 hm.2.1, mf_r30 hm.2.1, mf_k30 hm.2.1, mf_z30 hm.2.1, mf_r31 hm.2.1, mf_k31 hm.2.1, mf_z31 hm.2.1, mf_r32 hm.2.1, mf_k32 hm.2.1, mf_z32 hm.2.1, mf_r33 hm.2.1, mf_k33 hm.2.1, mf_z33 hm.2.1, mf_r34 hm.2.1, mf_k34 hm.2.1, mf_z34 hm.2.1, mf_r35 hm.2.1, mf_k35 hm.2.1, mf_z35 hm.2.1, mf_r36 hm.2.1, mf_k36 hm.2.1, mf_z36 hm.2.1, hm.2.2.1, hm.2.2.2, q_mZ, mgood_eq hm.1, mrefused_eq hm.1, show ¬ (1 : Int32) = 0 by decide, show ¬ (1 : Int32) ≤ 0 by decide, show ¬ (2 : Int32) ≤ 0 by decide, show ¬ (6 : Int32) ≤ 0 by decide, show (0 : Int32) ≤ 0 by decide, hum, Int32.zero_add, w_nn (a := u) (by omega), show ¬ 49 ≤ u by omega, w_tc (a := u) (by omega), vu', show w 30 = (30 : Int32) from rfl]
    · obtain ⟨I1, e1, c1, hh⟩ := act_both (L := L) h
      obtain ⟨I2, e2, f1, f2, hh2⟩ := hh (q_set (I (188 + 2)) u (w (n + 1)))
      obtain ⟨K, e3, k1, k2, k3, hh3⟩ := hh2 (mZ (cT I2 0) 240) fr_mZ fr_x13
      obtain ⟨g1, g2, g3⟩ := hh3 (q_set (I (240 + 2)) u (w (n + 1))) (pr_mend hU9 hu (by omega) h5)
      have e9 := setStrong_eq (I := I1) (L := L) (xo_now hx) (u := u) (by omega) (w (n + 1))
      rw [c1 (188 + 1 + 1) (by omega) (by omega)] at e9
      have hm5 : mZ (cT I2 0) 240 f 5 = w U := by
        have z1 : mZ (cT I2 0) 240 f = I f := by
          rw [mZ, q_up_ne (by omega), cT, q_up_ne (by omega)]
          exact f2 f (by omega) (by omega) (by omega) (by omega)
        rw [z1]; exact tie_5 hT
      have vu' : mZ (cT I2 0) 240 (240 + 2) u = w n := by
        rw [mZ, q_up_ne (by omega), cT, q_up_ne (by omega), f2 _ (by omega) (by omega) (by omega) (by omega)]
        exact vu
      refine ansA_T (I1 := I2) (v := .int (w (n + 1))) (J := q_up K (240 + 2) (q_set (I (240 + 2)) u (w (n + 1)))) ?_ f1 ?_ g1 g2 g3
      · simp only [D_156, E_156_0, E_156_1, ↓reduceIte, q_i, q_l, q_k, q_r, q_z, q_si, q_sl, jx_lt, jx_ri, jx_rl, jx_rv, if_true, if_false, Nat.reduceLeDiff, Nat.add_one_ne_zero, and_self, true_or, or_true, Nat.reduceEqDiff, or_self, or_false, false_or, xo_k hx, xo_r0 hx, xo_r1 hx, xo_r2 hx, xo_r3 hx, xo_r4 hx, xo_r5 hx, xo_r6 hx, xo_r7 hx, xo_r8 hx, xo_r9 hx, xo_r10 hx, xo_r11 hx, xo_ka hx, xo_ra0 hx, xo_ra1 hx, xo_ko hx, xo_ro0 hx, xo_ro1 hx, xo_kf hx, xo_rf0 hx, xo_kh hx, xo_rh0 hx, xo_ke hx, xo_re0 hx, xo_re1 hx, xo_kn hx, xo_zn hx, xo_re2 hx, xo_re3 hx, xo_kt hx, xo_rt0 hx, xo_t0 hx, (xo_ft hx).1, (xo_now hx).1, (xo_now hx).2.1, (xo_now hx).2.2.1, (xo_try hx).1, (xo_yr hx).1.1, (xo_ty hx).1, answered_eq hx, refused_eq hx, show ¬ (1 : Int32) = 0 by decide, Nat.reduceLT, isUmb_y hx hU hU9 hu, strongOf_eq (xo_now hx), q_at_w (n := 19) (k := u) (by omega) (by omega), en, show w n < (30 : Int32) by rw [show (30 : Int32) = w 30 from rfl, w_lt (by omega) (by omega)]; omega]
        rw [E_156_2]
        simp only [↓reduceIte, q_i, q_l, q_k, q_r, q_z, q_si, q_sl, jx_lt, jx_ri, jx_rl, jx_rv, if_true, if_false, Nat.reduceLeDiff, Nat.add_one_ne_zero, and_self, true_or, or_true, Nat.reduceEqDiff, or_self, or_false, false_or, xo_k hx, xo_r0 hx, xo_r1 hx, xo_r2 hx, xo_r3 hx, xo_r4 hx, xo_r5 hx, xo_r6 hx, xo_r7 hx, xo_r8 hx, xo_r9 hx, xo_r10 hx, xo_r11 hx, xo_ka hx, xo_ra0 hx, xo_ra1 hx, xo_ko hx, xo_ro0 hx, xo_ro1 hx, xo_kf hx, xo_rf0 hx, xo_kh hx, xo_rh0 hx, xo_ke hx, xo_re0 hx, xo_re1 hx, xo_kn hx, xo_zn hx, xo_re2 hx, xo_re3 hx, xo_kt hx, xo_rt0 hx, xo_t0 hx, (xo_ft hx).1, (xo_now hx).1, (xo_now hx).2.1, (xo_now hx).2.2.1, (xo_try hx).1, (xo_yr hx).1.1, (xo_ty hx).1, answered_eq hx, refused_eq hx, show ¬ (1 : Int32) = 0 by decide, Nat.reduceLT, e1, w_inc, e9, e2]
      · simp only [D_308, E_308_0, E_308_1, ↓reduceIte, q_i, q_l, q_k, q_r, q_z, q_si, q_sl, jx_lt, jx_ri, jx_rl, jx_rv, if_true, if_false, Nat.reduceLeDiff, Nat.add_one_ne_zero, and_self, true_or, or_true, Nat.reduceEqDiff, or_self, or_false, false_or, mo_k hm.1, mo_r5 hm.1, mo_k5 hm.1, mo_z5 hm.1, mo_r16 hm.1, mo_k16 hm.1, mo_z16 hm.1, mo_r17 hm.1, mo_k17 hm.1, mo_z17 hm.1, mo_r18 hm.1, mo_k18 hm.1, mo_z18 hm.1, mo_r21 hm.1, mo_k21 hm.1, mo_z21 hm.1, mo_r22 hm.1, mo_k22 hm.1, mo_z22 hm.1, mo_r23 hm.1, mo_k23 hm.1, mo_z23 hm.1, mo_r24 hm.1, mo_k24 hm.1, mo_z24 hm.1, mo_r25 hm.1, mo_k25 hm.1, mo_z25 hm.1, mo_r26 hm.1, mo_k26 hm.1, mo_z26 hm.1, mo_r27 hm.1, mo_k27 hm.1, mo_z27 hm.1, mo_r29 hm.1, mo_k29 hm.1, mo_z29 hm.1, mo_r30 hm.1, mo_k30 hm.1, mo_z30 hm.1, mo_r31 hm.1, mo_k31 hm.1, mo_z31 hm.1, mo_r32 hm.1, mo_k32 hm.1, mo_z32 hm.1, mo_r40 hm.1, mo_k40 hm.1, mo_z40 hm.1, mo_r43 hm.1, mo_k43 hm.1, mo_z43 hm.1, mo_r44 hm.1, mo_k44 hm.1, mo_z44 hm.1, mf_k hm.2.1, mf_r14 hm.2.1, mf_k14 hm.2.1, mf_z14 hm.2.1, mf_r15 hm.2.1, mf_k15 hm.2.1, mf_z15 hm.2.1, mf_r16 hm.2.1, mf_k16 hm.2.1, mf_z16 hm.2.1, mf_r17 hm.2.1, mf_k17 hm.2.1, mf_z17 hm.2.1, mf_r18 hm.2.1, mf_k18 hm.2.1, mf_z18 hm.2.1, mf_r19 hm.2.1, mf_k19 hm.2.1, mf_z19 hm.2.1, mf_r20 hm.2.1, mf_k20 hm.2.1, mf_z20 hm.2.1, mf_r21 hm.2.1, mf_k21 hm.2.1, mf_z21 hm.2.1, mf_r22 hm.2.1, mf_k22 hm.2.1, mf_z22 hm.2.1, mf_r23 hm.2.1, mf_k23 hm.2.1, mf_z23 hm.2.1, mf_r24 hm.2.1, mf_k24 hm.2.1, mf_z24 hm.2.1, mf_r25 hm.2.1, mf_k25 hm.2.1, mf_z25 hm.2.1, mf_r26 hm.2.1, mf_k26 hm.2.1, mf_z26 hm.2.1, mf_r27 hm.2.1, mf_k27 hm.2.1, mf_z27 hm.2.1, mf_r28 hm.2.1, mf_k28 hm.2.1, mf_z28 hm.2.1, mf_r29 hm.2.1, mf_k29 hm.2.1, mf_z29 hm.2.1, mf_r30 hm.2.1, mf_k30 hm.2.1, mf_z30 hm.2.1, mf_r31 hm.2.1, mf_k31 hm.2.1, mf_z31 hm.2.1, mf_r32 hm.2.1, mf_k32 hm.2.1, mf_z32 hm.2.1, mf_r33 hm.2.1, mf_k33 hm.2.1, mf_z33 hm.2.1, mf_r34 hm.2.1, mf_k34 hm.2.1, mf_z34 hm.2.1, mf_r35 hm.2.1, mf_k35 hm.2.1, mf_z35 hm.2.1, mf_r36 hm.2.1, mf_k36 hm.2.1, mf_z36 hm.2.1, hm.2.2.1, hm.2.2.2, q_mZ, mgood_eq hm.1, mrefused_eq hm.1, show ¬ (1 : Int32) = 0 by decide, show ¬ (1 : Int32) ≤ 0 by decide, show ¬ (2 : Int32) ≤ 0 by decide, show ¬ (6 : Int32) ≤ 0 by decide, show (0 : Int32) ≤ 0 by decide, mUmb_y hm hm5 hU9 hu, Int32.zero_add, w_nn (a := u) (by omega), show ¬ 49 ≤ u by omega, w_tc (a := u) (by omega), vu', show ¬ w n = (30 : Int32) by rw [show (30 : Int32) = w 30 from rfl, w_eq (by omega) (by omega)]; exact c]
        rw [E_308_2]
        simp only [↓reduceIte, q_i, q_l, q_k, q_r, q_z, q_si, q_sl, jx_lt, jx_ri, jx_rl, jx_rv, if_true, if_false, Nat.reduceLeDiff, Nat.add_one_ne_zero, and_self, true_or, or_true, Nat.reduceEqDiff, or_self, or_false, false_or, mo_k hm.1, mo_r5 hm.1, mo_k5 hm.1, mo_z5 hm.1, mo_r16 hm.1, mo_k16 hm.1, mo_z16 hm.1, mo_r17 hm.1, mo_k17 hm.1, mo_z17 hm.1, mo_r18 hm.1, mo_k18 hm.1, mo_z18 hm.1, mo_r21 hm.1, mo_k21 hm.1, mo_z21 hm.1, mo_r22 hm.1, mo_k22 hm.1, mo_z22 hm.1, mo_r23 hm.1, mo_k23 hm.1, mo_z23 hm.1, mo_r24 hm.1, mo_k24 hm.1, mo_z24 hm.1, mo_r25 hm.1, mo_k25 hm.1, mo_z25 hm.1, mo_r26 hm.1, mo_k26 hm.1, mo_z26 hm.1, mo_r27 hm.1, mo_k27 hm.1, mo_z27 hm.1, mo_r29 hm.1, mo_k29 hm.1, mo_z29 hm.1, mo_r30 hm.1, mo_k30 hm.1, mo_z30 hm.1, mo_r31 hm.1, mo_k31 hm.1, mo_z31 hm.1, mo_r32 hm.1, mo_k32 hm.1, mo_z32 hm.1, mo_r40 hm.1, mo_k40 hm.1, mo_z40 hm.1, mo_r43 hm.1, mo_k43 hm.1, mo_z43 hm.1, mo_r44 hm.1, mo_k44 hm.1, mo_z44 hm.1, mf_k hm.2.1, mf_r14 hm.2.1, mf_k14 hm.2.1, mf_z14 hm.2.1, mf_r15 hm.2.1, mf_k15 hm.2.1, mf_z15 hm.2.1, mf_r16 hm.2.1, mf_k16 hm.2.1, mf_z16 hm.2.1, mf_r17 hm.2.1, mf_k17 hm.2.1, mf_z17 hm.2.1, mf_r18 hm.2.1, mf_k18 hm.2.1, mf_z18 hm.2.1, mf_r19 hm.2.1, mf_k19 hm.2.1, mf_z19 hm.2.1, mf_r20 hm.2.1, mf_k20 hm.2.1, mf_z20 hm.2.1, mf_r21 hm.2.1, mf_k21 hm.2.1, mf_z21 hm.2.1, mf_r22 hm.2.1, mf_k22 hm.2.1, mf_z22 hm.2.1, mf_r23 hm.2.1, mf_k23 hm.2.1, mf_z23 hm.2.1, mf_r24 hm.2.1, mf_k24 hm.2.1, mf_z24 hm.2.1, mf_r25 hm.2.1, mf_k25 hm.2.1, mf_z25 hm.2.1, mf_r26 hm.2.1, mf_k26 hm.2.1, mf_z26 hm.2.1, mf_r27 hm.2.1, mf_k27 hm.2.1, mf_z27 hm.2.1, mf_r28 hm.2.1, mf_k28 hm.2.1, mf_z28 hm.2.1, mf_r29 hm.2.1, mf_k29 hm.2.1, mf_z29 hm.2.1, mf_r30 hm.2.1, mf_k30 hm.2.1, mf_z30 hm.2.1, mf_r31 hm.2.1, mf_k31 hm.2.1, mf_z31 hm.2.1, mf_r32 hm.2.1, mf_k32 hm.2.1, mf_z32 hm.2.1, mf_r33 hm.2.1, mf_k33 hm.2.1, mf_z33 hm.2.1, mf_r34 hm.2.1, mf_k34 hm.2.1, mf_z34 hm.2.1, mf_r35 hm.2.1, mf_k35 hm.2.1, mf_z35 hm.2.1, mf_r36 hm.2.1, mf_k36 hm.2.1, mf_z36 hm.2.1, hm.2.2.1, hm.2.2.2, q_mZ, mgood_eq hm.1, mrefused_eq hm.1, show ¬ (1 : Int32) = 0 by decide, show ¬ (1 : Int32) ≤ 0 by decide, show ¬ (2 : Int32) ≤ 0 by decide, show ¬ (6 : Int32) ≤ 0 by decide, show (0 : Int32) ≤ 0 by decide, e3, Int32.zero_add, w_nn (a := u) (by omega), show ¬ 49 ≤ u by omega, w_tc (a := u) (by omega), k1, vu, w_inc, q_up_eq, q_set_eq, mgood_eq hm.1]
  · refine ansA_0 h (ans_T (v := .int (-1)) (r := 1) (J := mZ (cT I 1) 240) ?_ ?_ fr_mZ fr_x13 (by decide))
    · simp only [D_156, E_156_0, ↓reduceIte, q_i, q_l, q_k, q_r, q_z, q_si, q_sl, jx_lt, jx_ri, jx_rl, jx_rv, if_true, if_false, Nat.reduceLeDiff, Nat.add_one_ne_zero, and_self, true_or, or_true, Nat.reduceEqDiff, or_self, or_false, false_or, xo_k hx, xo_r0 hx, xo_r1 hx, xo_r2 hx, xo_r3 hx, xo_r4 hx, xo_r5 hx, xo_r6 hx, xo_r7 hx, xo_r8 hx, xo_r9 hx, xo_r10 hx, xo_r11 hx, xo_ka hx, xo_ra0 hx, xo_ra1 hx, xo_ko hx, xo_ro0 hx, xo_ro1 hx, xo_kf hx, xo_rf0 hx, xo_kh hx, xo_rh0 hx, xo_ke hx, xo_re0 hx, xo_re1 hx, xo_kn hx, xo_zn hx, xo_re2 hx, xo_re3 hx, xo_kt hx, xo_rt0 hx, xo_t0 hx, (xo_ft hx).1, (xo_now hx).1, (xo_now hx).2.1, (xo_now hx).2.2.1, (xo_try hx).1, (xo_yr hx).1.1, (xo_ty hx).1, answered_eq hx, refused_eq hx, show ¬ (1 : Int32) = 0 by decide, Nat.reduceLT, isUmb_n hx hU ca]
    · simp only [D_308, E_308_0, ↓reduceIte, q_i, q_l, q_k, q_r, q_z, q_si, q_sl, jx_lt, jx_ri, jx_rl, jx_rv, if_true, if_false, Nat.reduceLeDiff, Nat.add_one_ne_zero, and_self, true_or, or_true, Nat.reduceEqDiff, or_self, or_false, false_or, mo_k hm.1, mo_r5 hm.1, mo_k5 hm.1, mo_z5 hm.1, mo_r16 hm.1, mo_k16 hm.1, mo_z16 hm.1, mo_r17 hm.1, mo_k17 hm.1, mo_z17 hm.1, mo_r18 hm.1, mo_k18 hm.1, mo_z18 hm.1, mo_r21 hm.1, mo_k21 hm.1, mo_z21 hm.1, mo_r22 hm.1, mo_k22 hm.1, mo_z22 hm.1, mo_r23 hm.1, mo_k23 hm.1, mo_z23 hm.1, mo_r24 hm.1, mo_k24 hm.1, mo_z24 hm.1, mo_r25 hm.1, mo_k25 hm.1, mo_z25 hm.1, mo_r26 hm.1, mo_k26 hm.1, mo_z26 hm.1, mo_r27 hm.1, mo_k27 hm.1, mo_z27 hm.1, mo_r29 hm.1, mo_k29 hm.1, mo_z29 hm.1, mo_r30 hm.1, mo_k30 hm.1, mo_z30 hm.1, mo_r31 hm.1, mo_k31 hm.1, mo_z31 hm.1, mo_r32 hm.1, mo_k32 hm.1, mo_z32 hm.1, mo_r40 hm.1, mo_k40 hm.1, mo_z40 hm.1, mo_r43 hm.1, mo_k43 hm.1, mo_z43 hm.1, mo_r44 hm.1, mo_k44 hm.1, mo_z44 hm.1, mf_k hm.2.1, mf_r14 hm.2.1, mf_k14 hm.2.1, mf_z14 hm.2.1, mf_r15 hm.2.1, mf_k15 hm.2.1, mf_z15 hm.2.1, mf_r16 hm.2.1, mf_k16 hm.2.1, mf_z16 hm.2.1, mf_r17 hm.2.1, mf_k17 hm.2.1, mf_z17 hm.2.1, mf_r18 hm.2.1, mf_k18 hm.2.1, mf_z18 hm.2.1, mf_r19 hm.2.1, mf_k19 hm.2.1, mf_z19 hm.2.1, mf_r20 hm.2.1, mf_k20 hm.2.1, mf_z20 hm.2.1, mf_r21 hm.2.1, mf_k21 hm.2.1, mf_z21 hm.2.1, mf_r22 hm.2.1, mf_k22 hm.2.1, mf_z22 hm.2.1, mf_r23 hm.2.1, mf_k23 hm.2.1, mf_z23 hm.2.1, mf_r24 hm.2.1, mf_k24 hm.2.1, mf_z24 hm.2.1, mf_r25 hm.2.1, mf_k25 hm.2.1, mf_z25 hm.2.1, mf_r26 hm.2.1, mf_k26 hm.2.1, mf_z26 hm.2.1, mf_r27 hm.2.1, mf_k27 hm.2.1, mf_z27 hm.2.1, mf_r28 hm.2.1, mf_k28 hm.2.1, mf_z28 hm.2.1, mf_r29 hm.2.1, mf_k29 hm.2.1, mf_z29 hm.2.1, mf_r30 hm.2.1, mf_k30 hm.2.1, mf_z30 hm.2.1, mf_r31 hm.2.1, mf_k31 hm.2.1, mf_z31 hm.2.1, mf_r32 hm.2.1, mf_k32 hm.2.1, mf_z32 hm.2.1, mf_r33 hm.2.1, mf_k33 hm.2.1, mf_z33 hm.2.1, mf_r34 hm.2.1, mf_k34 hm.2.1, mf_z34 hm.2.1, mf_r35 hm.2.1, mf_k35 hm.2.1, mf_z35 hm.2.1, mf_r36 hm.2.1, mf_k36 hm.2.1, mf_z36 hm.2.1, hm.2.2.1, hm.2.2.2, q_mZ, mgood_eq hm.1, mrefused_eq hm.1, show ¬ (1 : Int32) = 0 by decide, show ¬ (1 : Int32) ≤ 0 by decide, show ¬ (2 : Int32) ≤ 0 by decide, show ¬ (6 : Int32) ≤ 0 by decide, show (0 : Int32) ≤ 0 by decide, mUmb_n hm (tie_5 (hZ 1)) ca]
end AK
