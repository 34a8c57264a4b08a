/-! PAIRS OF CALLS with a flight: sent another way -/
theorem cd_inj {k k' : Nat} {g g' : Nat → Nat} (hk : k ≤ 5) (hk' : k' ≤ 5) (hg : ∀ i, i < k → g i < 8) (hg' : ∀ i, i < k' → g' i < 8) (h : w (q_cd g k) = w (q_cd g' k')) : k = k' ∧ ∀ i, i < k → g i = g' i := by
  have key : ∀ i, i < 5 → ((i < k ↔ i < k') ∧ (i < k → g i = g' i)) := by
    intro i hi
    have h1 := stop_cd hk hg hi
    have h2 := stop_cd hk' hg' hi
    rw [h, h2] at h1
    by_cases c1 : i < k
    · by_cases c2 : i < k'
      · rw [if_pos c1, if_pos c2] at h1
        have q1 := hg i c1
        have q2 := hg' i c2
        rw [w_eq (by omega) (by omega)] at h1
        exact ⟨⟨fun _ => c2, fun _ => c1⟩, fun _ => h1.symm⟩
      · rw [if_pos c1, if_neg c2] at h1
        have q1 := hg i c1
        exact absurd h1.symm (w_m1 (by omega))
    · by_cases c2 : i < k'
      · rw [if_neg c1, if_pos c2] at h1
        have q2 := hg' i c2
        exact absurd h1 (w_m1 (by omega))
      · exact ⟨⟨fun z => absurd z c1, fun z => absurd z c2⟩, fun z => absurd z c1⟩
  have e : k = k' := by
    rcases Nat.lt_trichotomy k k' with z | z | z
    · have := ((key k (by omega)).1).mpr z
      omega
    · exact z
    · have := ((key k' (by omega)).1).mp z
      omega
  exact ⟨e, fun i hi => (key i (by omega)).2 hi⟩
section SE
variable {I : qI} {L : qL} {s : qS} {t t' f U S dn R O W q : Nat}
theorem setOut_eq (hP : qPl s q) {u : Nat} (hu : u < 6) (d x : Int32) : jD 47 [.ref q, .int (w u), .int d, .int x] (I, L, s) = some (none, q_up I (q + 1 + 1) (q_set (q_set (I (q + 1 + 1)) (6 + u) d) (12 + u) x), L, s) := by
  rw [D_47, E_47_0]
  simp only [↓reduceIte, q_i, q_l, q_k, q_r, q_z, q_si, q_sl, jx_lt, jx_ri, jx_rl, jx_rv, if_true, if_false, Nat.reduceLeDiff, Nat.add_one_ne_zero, and_self, true_or, or_true, Nat.reduceEqDiff, or_self, or_false, false_or, hP.1, hP.2.1, hP.2.2.1, put_eq hP.2.2, show (6 : Int32) = w 6 from rfl, show (12 : Int32) = w 12 from rfl, w_add, q_put_w (n := 19) (k := 6 + u) (by omega) (by omega), q_put_w (n := 19) (k := 12 + u) (by omega) (by omega), q_up_eq, q_up_up]
theorem pr_send {D : Nat → Nat → Int32} {u d h c : Nat} {P V V' : Nat → Int32} (hU : U ≤ 6) (hS : S ≤ 8) (hu : u < U) (hd : d < dn) (eh : D 6 u = w h) (hh : h < S) (hc : qCo D S h c)
    (hV : ∀ j, j ≠ 6 + u → j ≠ 12 + u → ¬ (18 + 5 * u ≤ j ∧ j < 18 + 5 * u + 5) → V' j = V j) (v1 : V' (6 + u) = w d) (v2 : V' (12 + u) = w (q_wy c)) (v3 : ∀ i, i < q_wy c → V' (18 + 5 * u + i) = w (q_dg c i)) (hp : qPR D U S dn P V) : qPR D U S dn (q_set (q_set P (6 + u) (w d)) (12 + u) (w c)) V' := by
  obtain ⟨h1, ⟨h2, h3⟩, h4, h5, h6⟩ := hp
  have hrt : qRt D S h (w c) (q_wy c) (q_dg c) := by
    have := path_rt hS hc.2.1 hc.2.2.2.1
    rw [← hc.2.2.1] at this
    exact this
  have p12 : ∀ v, v < U → v ≠ u → q_set (q_set P (6 + u) (w d)) (12 + u) (w c) (12 + v) = P (12 + v) := fun v hv hne => by
    rw [q_set_ne (by omega), q_set_ne (by omega)]
  have p6 : ∀ v, v < U → v ≠ u → q_set (q_set P (6 + u) (w d)) (12 + u) (w c) (6 + v) = P (6 + v) := fun v hv hne => by
    rw [q_set_ne (by omega), q_set_ne (by omega)]
  have p0 : ∀ v, v < U → q_set (q_set P (6 + u) (w d)) (12 + u) (w c) v = P v := fun v hv => by
    rw [q_set_ne (by omega), q_set_ne (by omega)]
  have pu6 : q_set (q_set P (6 + u) (w d)) (12 + u) (w c) (6 + u) = w d := by rw [q_set_ne (by omega), q_set_eq]
  have pu12 : q_set (q_set P (6 + u) (w d)) (12 + u) (w c) (12 + u) = w c := q_set_eq
  refine ⟨fun v hv => ?_, ⟨?_, fun v hv => ?_⟩, fun v hv => by rw [p0 v hv]; exact h4 v hv, ?_, fun v hv => ?_⟩
  · by_cases e : v = u
    · subst e
      rw [pu6, pu12]
      refine ⟨Or.inr ⟨d, rfl, hd⟩, fun h' e' _ => ?_⟩
      have : h' = h := by
        have := e'.symm.trans eh
        rw [w_eq (by omega) (by omega)] at this
        exact this
      subst this
      exact ⟨_, _, hrt⟩
    · rw [p6 v hv e, p12 v hv e]; exact h1 v hv
  · rw [hV 48 (by omega) (by omega) (by omega), q_set_ne (by omega), q_set_ne (by omega)]; exact h2
  · obtain ⟨a1, a2, a3⟩ := h3 v hv
    by_cases e : v = u
    · subst e
      rw [pu6, pu12, p0 v hv]
      refine ⟨by rw [hV v (by omega) (by omega) (by omega)]; exact a1, v1, fun h' e' _ => ?_⟩
      have : h' = h := by
        have := e'.symm.trans eh
        rw [w_eq (by omega) (by omega)] at this
        exact this
      subst this
      exact ⟨_, _, hrt, v2, v3⟩
    · rw [p6 v hv e, p12 v hv e, p0 v hv]
      refine ⟨by rw [hV v (by omega) (by omega) (by omega)]; exact a1, by rw [hV (6 + v) (by omega) (by omega) (by omega)]; exact a2, fun h' e' hlt => ?_⟩
      obtain ⟨k, g', b1, b2, b3⟩ := a3 h' e' hlt
      exact ⟨k, g', b1, by rw [hV (12 + v) (by omega) (by omega) (by omega)]; exact b2, fun i hi => by have := b1.1; rw [hV (18 + 5 * v + i) (by omega) (by omega) (by omega)]; exact b3 i hi⟩
  · rw [q_set_ne (by omega), q_set_ne (by omega)]; exact h5
  · by_cases e : v = u
    · subst e
      rw [pu12]
      exact ⟨q_wy c, q_dg c, hc.2.1, fun i hi => by have := hc.2.2.2.1.1 i hi; omega, by rw [← hc.2.2.1]⟩
    · rw [p12 v hv e]; exact h6 v hv
/-- whether it flies just so, on both sides -/
theorem same_iff {D : Nat → Nat → Int32} {u d h c : Nat} {P V : Nat → Int32} (hS : S ≤ 8) (hu : u < U) (eh : D 6 u = w h) (hh : h < S) (hc : qCo D S h c) (hp : qPR D U S dn P V) : (P (6 + u) = w d ∧ P (12 + u) = w c) ↔ (V (6 + u) = w d ∧ V (12 + u) = w (q_wy c) ∧ ∀ i, i < q_wy c → V (18 + 5 * u + i) = w (q_dg c i)) := by
  obtain ⟨h1, ⟨h2, h3⟩, h4, h5, h6⟩ := hp
  obtain ⟨a1, a2, a3⟩ := h3 u hu
  obtain ⟨k, g, b1, b2, b3⟩ := a3 h eh (by omega)
  obtain ⟨k0, g0, d1, d2, d3⟩ := h6 u hu
  have hk5 := b1.1
  have hc5 := hc.2.1
  have hg0 : ∀ i, i < k0 → g0 i < 8 := d2
  have hgc : ∀ i, i < q_wy c → q_dg c i < 8 := fun i hi => by have := hc.2.2.2.1.1 i hi; omega
  have hgg : ∀ i, i < k → g i < 8 := fun i hi => by have := b1.2.2.1 i hi; omega
  -- k, g are those of the class's code
  have hkk : k = k0 ∧ ∀ i, i < k → g i = g0 i := by
    have key : ∀ i, i < 5 → ((i < k ↔ i < k0) ∧ (i < k → g i = g0 i)) := by
      intro i hi
      have q1 := b1.2.1 i hi
      have q2 := stop_cd d1 hg0 hi
      rw [d3, q2] at q1
      by_cases c1 : i < k
      · by_cases c2 : i < k0
        · rw [if_pos c1, if_pos c2] at q1
          have r1 := hgg i c1
          have r2 := hg0 i c2
          rw [w_eq (by omega) (by omega)] at q1
          exact ⟨⟨fun _ => c2, fun _ => c1⟩, fun _ => q1.symm⟩
        · rw [if_pos c1, if_neg c2] at q1
          have r1 := hgg i c1
          exact absurd q1.symm (w_m1 (by omega))
      · by_cases c2 : i < k0
        · rw [if_neg c1, if_pos c2] at q1
          have r2 := hg0 i c2
          exact absurd q1 (w_m1 (by omega))
        · exact ⟨⟨fun z => absurd z c1, fun z => absurd z c2⟩, fun z => absurd z c1⟩
    have e : k = k0 := by
      rcases Nat.lt_trichotomy k k0 with z | z | z
      · have := ((key k (by omega)).1).mpr z
        omega
      · exact z
      · have := ((key k0 (by omega)).1).mp z
        omega
    exact ⟨e, fun i hi => (key i (by omega)).2 hi⟩
  rw [a2, b2, d3]
  constructor
  · rintro ⟨q1, q2⟩
    refine ⟨q1, ?_⟩
    rw [hc.2.2.1] at q2
    obtain ⟨e1, e2⟩ := cd_inj d1 hc5 hg0 hgc q2
    refine ⟨by rw [hkk.1, e1], fun i hi => ?_⟩
    rw [b3 i (by omega), hkk.2 i (by omega), e2 i (by omega)]
  · rintro ⟨q1, q2, q3⟩
    refine ⟨q1, ?_⟩
    have e1 : k = q_wy c := by
      rw [w_eq (by omega) (by omega)] at q2
      exact q2
    rw [hc.2.2.1]
    have e2 : q_cd g0 k0 = q_cd (q_dg c) (q_wy c) := by
      rw [← hkk.1, ← e1]
      refine cd_congr k fun i hi => ?_
      have q4 := q3 i (by omega)
      rw [b3 i hi] at q4
      have r1 := hgg i hi
      have r2 := hgc i (by omega)
      rw [w_eq (by omega) (by omega)] at q4
      rw [← hkk.2 i hi]
      exact q4
    rw [e2]
theorem p_send (h : qHV I s t t' f U S dn R O W) (a b c : Int32) : qAnsA I L s t t' f U S dn R O W 155 [.ref 100, .int a, .int b, .int c] 307 [.ref 240, .int a, .int b, .int c] := by
  obtain ⟨h1, -, ho, -, h5, -⟩ := id h
  obtain ⟨hU, hU9⟩ := h1_U h1
  obtain ⟨hS, hS9⟩ := h1_S h1
  obtain ⟨hd, hd0, hd9⟩ := h1_d h1
  obtain ⟨hx, hm, hf, hT⟩ := id h1
  have hZ := h1_Z h1
  rcases small_or a (n := U) (by omega) with ⟨u, hu, rfl⟩ | ca
  · have hum := fun r => mUmb_y (L := L) (s := s) hm (tie_5 (hZ r)) hU9 hu
    obtain ⟨h0, e6, hh⟩ := hT.1.1.2.2.2.2.2.2.2 u hu
    obtain ⟨b1, b2⟩ := ho u hu h0 e6 hh
    have hl := all_len (D := qd I t) hS9 hh hT.2.1.2.2.2.2.2.2.2.1
    have hlay : ∀ {J : qI}, qTie J 240 f (qd I t) (I (188 + 2)) U S dn R O W → ∃ xr xe xk xt, jD 260 [.ref 240, .int (w u)] (J, L, s) = some (none, q_mw J 240 xr xe xk xt (w (q_all (qd I t) S h0).length), L, s) ∧ qRW (qd I t) S h0 (q_all (qd I t) S h0) xr xe := fun {J} hJ => by
      obtain ⟨xr, xe, xk, xt, z1, z2, -⟩ := lays_eq (L := L) hm (by omega) hJ hu e6 hh
      exact ⟨xr, xe, xk, xt, z1, z2⟩
    rcases small_or b (n := (q_all (qd I t) S h0).length) (by omega) with ⟨e, he, rfl⟩ | cb
    · have hn3 : ¬ w e < 0 := w_nn (by omega)
      have l3 : w e < w (q_all (qd I t) S h0).length := by rw [w_lt (by omega) (by omega)]; exact he
      have hwy := isWayOut_y (L := L) hx hU hU9 hu b1 hl he
      have hco := all_co hS9 he
      generalize hcode : (q_all (qd I t) S h0).getD e 0 = cd at hco
      have hk0 := hco.1
      have hk5 := hco.2.1
      have hro := route_eq (L := L) hx (show u < 6 by omega) (show e < 300 by omega) (b2 e he)
      rw [hcode] at hro
      rcases small_or c (n := dn) (by omega) with ⟨d, hdd, rfl⟩ | cc
      · -- the reference's flag
        have flag : ∀ (J : qI) (xr xe : Nat → Int32), J (240 + 12) = xr → J (240 + 13) = xe → qRW (qd I t) S h0 (q_all (qd I t) S h0) xr xe → J (240 + 2) = I (240 + 2) → jd 307 4 [some (.ref 240), some (.int (w u)), some (.int (w e)), some (.int (w d)), none, none] [] (J, L, s) = jd 307 10 [some (.ref 240), some (.int (w u)), some (.int (w e)), some (.int (w d)), some (.int (if I (188 + 2) (6 + u) = w d ∧ I (188 + 2) (12 + u) = w cd then 1 else 0)), none] [] (J, L, s) := by
          intro J xr xe j12 j13 hrw j2
          obtain ⟨hc', x1, x2, x3⟩ := rw_std hS9 hrw he
          rw [hcode] at x1 x3
          have hiff := same_iff (d := d) hS9 hu e6 hh hco h5
          generalize hV : I (240 + 2) = V at hiff j2
          obtain ⟨y, hy, hy01, e1⟩ : ∃ y : Bool, (y = true ↔ V (6 + u) = w d ∧ V (12 + u) = w (q_wy cd)) ∧ True ∧ jd 307 4 [some (.ref 240), some (.int (w u)), some (.int (w e)), some (.int (w d)), none, none] [] (J, L, s) = jd 307 7 [some (.ref 240), some (.int (w u)), some (.int (w e)), some (.int (w d)), some (.int (if y = true then 1 else 0)), some (.int (w 0))] [] (J, L, s) := by
            refine ⟨decide (V (6 + u) = w d ∧ V (12 + u) = w (q_wy cd)), by rw [decide_eq_true_eq], trivial, ?_⟩
            rw [E_307_4]
            simp only [show (6 : Int32) = w 6 from rfl, show (12 : Int32) = w 12 from rfl, w_add, ↓reduceIte, q_i, q_l, q_k, q_r, q_z, q_si, q_sl, jx_lt, jx_ri, jx_rl, jx_rv, if_true, if_false, Nat.reduceLeDiff, Nat.add_one_ne_zero, and_self, true_or, or_true, Nat.reduceEqDiff, or_self, or_false, false_or, mo_k hm.1, mo_r16 hm.1, mo_k16 hm.1, mo_z16 hm.1, mo_r30 hm.1, mo_k30 hm.1, mo_z30 hm.1, w_nn (a := 6 + u) (by omega), show ¬ 49 ≤ 6 + u by omega, w_tc (a := 6 + u) (by omega), w_nn (a := 12 + u) (by omega), show ¬ 49 ≤ 12 + u by omega, w_tc (a := 12 + u) (by omega), w_nn (a := e) (by omega), show ¬ 1000 ≤ e by omega, w_tc (a := e) (by omega), j2, j13, x1]
            by_cases c1 : V (6 + u) = w d
            · by_cases c2 : V (12 + u) = w (q_wy cd)
              · simp only [c1, c2, ↓reduceIte, q_i, q_l, q_k, q_r, q_z, q_si, q_sl, jx_lt, jx_ri, jx_rl, jx_rv, if_true, if_false, Nat.reduceLeDiff, Nat.add_one_ne_zero, and_self, true_or, or_true, Nat.reduceEqDiff, or_self, or_false, false_or, E_307_6, decide_true]
                rfl
              · simp only [c1, c2, ↓reduceIte, q_i, q_l, q_k, q_r, q_z, q_si, q_sl, jx_lt, jx_ri, jx_rl, jx_rv, if_true, if_false, Nat.reduceLeDiff, Nat.add_one_ne_zero, and_self, true_or, or_true, Nat.reduceEqDiff, or_self, or_false, false_or, E_307_5, E_307_6, decide_false, Bool.false_eq_true]
                rfl
            · simp only [c1, ↓reduceIte, q_i, q_l, q_k, q_r, q_z, q_si, q_sl, jx_lt, jx_ri, jx_rl, jx_rv, if_true, if_false, Nat.reduceLeDiff, Nat.add_one_ne_zero, and_self, true_or, or_true, Nat.reduceEqDiff, or_self, or_false, false_or, E_307_5, E_307_6, false_and, decide_false, Bool.false_eq_true]
              rfl
          rw [e1]
          have h9 := q_loop (F := fun i (y : Bool) => jd 307 7 [some (.ref 240), some (.int (w u)), some (.int (w e)), some (.int (w d)), some (.int (if y = true then 1 else 0)), some (.int (w i))] [] (J, L, s)) (n := q_wy cd) (g := fun i y => y && decide (V (18 + 5 * u + i) = w (q_dg cd i))) (fun i y hi => by
            have x4 := x3 i hi
            rw [show 6 * e + 1 + i = 6 * e + i + 1 by omega] at x4
            show jd 307 7 _ _ _ = jd 307 7 _ _ _
            rw [E_307_7]
            simp only [show (6 : Int32) = w 6 from rfl, show (18 : Int32) = w 18 from rfl, show (5 : Int32) = w 5 from rfl, w_mul, w_add, w_inc, ↓reduceIte, q_i, q_l, q_k, q_r, q_z, q_si, q_sl, jx_lt, jx_ri, jx_rl, jx_rv, if_true, if_false, Nat.reduceLeDiff, Nat.add_one_ne_zero, and_self, true_or, or_true, Nat.reduceEqDiff, or_self, or_false, false_or, mo_k hm.1, mo_r16 hm.1, mo_k16 hm.1, mo_z16 hm.1, mo_r29 hm.1, mo_k29 hm.1, mo_z29 hm.1, mo_r30 hm.1, mo_k30 hm.1, mo_z30 hm.1, w_nn (a := e) (by omega), show ¬ 1000 ≤ e by omega, w_tc (a := e) (by omega), w_nn (a := 18 + 5 * u + i) (by omega), show ¬ 49 ≤ 18 + 5 * u + i by omega, w_tc (a := 18 + 5 * u + i) (by omega), w_nn (a := 6 * e + i + 1) (by omega), show ¬ 6000 ≤ 6 * e + i + 1 by omega, w_tc (a := 6 * e + i + 1) (by omega), j2, j12, j13, x1, x4, w_nle hi (by omega)]
            cases y with
            | false => simp only [Bool.false_eq_true, ↓reduceIte, q_i, q_l, q_k, q_r, q_z, q_si, q_sl, jx_lt, jx_ri, jx_rl, jx_rv, if_true, if_false, Nat.reduceLeDiff, Nat.add_one_ne_zero, and_self, true_or, or_true, Nat.reduceEqDiff, or_self, or_false, false_or, E_307_8, E_307_9, w_inc, Bool.false_and]
            | true =>
              by_cases c1 : V (18 + 5 * u + i) = w (q_dg cd i)
              · simp only [c1, ↓reduceIte, q_i, q_l, q_k, q_r, q_z, q_si, q_sl, jx_lt, jx_ri, jx_rl, jx_rv, if_true, if_false, Nat.reduceLeDiff, Nat.add_one_ne_zero, and_self, true_or, or_true, Nat.reduceEqDiff, or_self, or_false, false_or, show ¬ (1 : Int32) = 0 by decide, E_307_9, w_inc, decide_true, Bool.and_self]
              · simp only [c1, ↓reduceIte, q_i, q_l, q_k, q_r, q_z, q_si, q_sl, jx_lt, jx_ri, jx_rl, jx_rv, if_true, if_false, Nat.reduceLeDiff, Nat.add_one_ne_zero, and_self, true_or, or_true, Nat.reduceEqDiff, or_self, or_false, false_or, show ¬ (1 : Int32) = 0 by decide, E_307_8, E_307_9, w_inc, decide_false, Bool.and_false, Bool.false_eq_true]) y
          refine h9.trans ?_
          have hall : ∀ n, q_it (fun i y => y && decide (V (18 + 5 * u + i) = w (q_dg cd i))) n y = true ↔ y = true ∧ ∀ i, i < n → V (18 + 5 * u + i) = w (q_dg cd i) := by
            intro n
            induction n with
            | zero => exact ⟨fun z => ⟨z, fun i hi => absurd hi (Nat.not_lt_zero i)⟩, fun z => z.1⟩
            | succ n ih =>
              show (q_it _ n y && decide (V (18 + 5 * u + n) = w (q_dg cd n))) = true ↔ _
              rw [Bool.and_eq_true, ih, decide_eq_true_eq]
              constructor
              · rintro ⟨⟨z1, z2⟩, z3⟩
                refine ⟨z1, fun i hi => ?_⟩
                by_cases c : i = n
                · subst c; exact z3
                · exact z2 i (by omega)
              · rintro ⟨z1, z2⟩
                exact ⟨⟨z1, fun i hi => z2 i (by omega)⟩, z2 n (by omega)⟩
          have hfin : (if q_it (fun i y => y && decide (V (18 + 5 * u + i) = w (q_dg cd i))) (q_wy cd) y = true then (1 : Int32) else 0) = if I (188 + 2) (6 + u) = w d ∧ I (188 + 2) (12 + u) = w cd then 1 else 0 := by
            by_cases c : I (188 + 2) (6 + u) = w d ∧ I (188 + 2) (12 + u) = w cd
            · obtain ⟨z1, z2, z3⟩ := hiff.mp c
              rw [if_pos c, if_pos ((hall _).mpr ⟨hy.mpr ⟨z1, z2⟩, z3⟩)]
            · rw [if_neg c, if_neg]
              intro z
              obtain ⟨z1, z2⟩ := (hall _).mp z
              obtain ⟨z3, z4⟩ := hy.mp z1
              exact c (hiff.mpr ⟨z3, z4, z2⟩)
          show jd 307 7 _ _ _ = _
          rw [hfin, E_307_7]
          simp only [↓reduceIte, q_i, q_l, q_k, q_r, q_z, q_si, q_sl, jx_lt, jx_ri, jx_rl, jx_rv, if_true, if_false, Nat.reduceLeDiff, Nat.add_one_ne_zero, and_self, true_or, or_true, Nat.reduceEqDiff, or_self, or_false, false_or, mo_k hm.1, mo_r30 hm.1, mo_k30 hm.1, mo_z30 hm.1, w_nn (a := e) (by omega), show ¬ 1000 ≤ e by omega, w_tc (a := e) (by omega), j13, x1, Int32.le_refl]
        have hstr : jd 155 2 [some (.ref 100), some (.int (w u)), some (.int (w e)), some (.int (w d)), none] [] (I, L, s) = if I (188 + 2) (6 + u) = w d ∧ I (188 + 2) (12 + u) = w cd then some (some (.int 0), cT I 5, L, s) else jd 155 3 [some (.ref 100), some (.int (w u)), none, some (.int (w d)), some (.int (w cd))] [] (I, L, s) := by
          rw [E_155_2]
          simp only [↓reduceIte, q_i, q_l, q_k, q_r, q_z, q_si, q_sl, jx_lt, jx_ri, jx_rl, jx_rv, if_true, if_false, Nat.reduceLeDiff, Nat.add_one_ne_zero, and_self, true_or, or_true, Nat.reduceEqDiff, or_self, or_false, false_or, xo_k hx, xo_r0 hx, xo_r1 hx, xo_r2 hx, xo_r3 hx, xo_r4 hx, xo_r5 hx, xo_r6 hx, xo_r7 hx, xo_r8 hx, xo_r9 hx, xo_r10 hx, xo_r11 hx, xo_ka hx, xo_ra0 hx, xo_ra1 hx, xo_ko hx, xo_ro0 hx, xo_ro1 hx, xo_kf hx, xo_rf0 hx, xo_kh hx, xo_rh0 hx, xo_ke hx, xo_re0 hx, xo_re1 hx, xo_kn hx, xo_zn hx, xo_re2 hx, xo_re3 hx, xo_kt hx, xo_rt0 hx, xo_t0 hx, (xo_ft hx).1, (xo_now hx).1, (xo_now hx).2.1, (xo_now hx).2.2.1, (xo_try hx).1, (xo_yr hx).1.1, (xo_ty hx).1, answered_eq hx, refused_eq hx, show ¬ (1 : Int32) = 0 by decide, Nat.reduceLT, hro, setsOutOf_eq (xo_now hx), routeOf_eq (xo_now hx), show (6 : Int32) = w 6 from rfl, show (12 : Int32) = w 12 from rfl, w_add, q_at_w (n := 19) (k := 6 + u) (by omega) (by omega), q_at_w (n := 19) (k := 12 + u) (by omega) (by omega), isRefused_eq hx]
          by_cases c1 : I (188 + 2) (6 + u) = w d
          · by_cases c2 : I (188 + 2) (12 + u) = w cd
            · simp only [c1, c2, ↓reduceIte, q_i, q_l, q_k, q_r, q_z, q_si, q_sl, jx_lt, jx_ri, jx_rl, jx_rv, if_true, if_false, Nat.reduceLeDiff, Nat.add_one_ne_zero, and_self, true_or, or_true, Nat.reduceEqDiff, or_self, or_false, false_or]
            · simp only [c1, c2, ↓reduceIte, q_i, q_l, q_k, q_r, q_z, q_si, q_sl, jx_lt, jx_ri, jx_rl, jx_rv, if_true, if_false, Nat.reduceLeDiff, Nat.add_one_ne_zero, and_self, true_or, or_true, Nat.reduceEqDiff, or_self, or_false, false_or, and_false]
          · simp only [c1, ↓reduceIte, q_i, q_l, q_k, q_r, q_z, q_si, q_sl, jx_lt, jx_ri, jx_rl, jx_rv, if_true, if_false, Nat.reduceLeDiff, Nat.add_one_ne_zero, and_self, true_or, or_true, Nat.reduceEqDiff, or_self, or_false, false_or, false_and]
        by_cases hsame : I (188 + 2) (6 + u) = w d ∧ I (188 + 2) (12 + u) = w cd
        · obtain ⟨xr, xe, xk, xt, a1, a2⟩ := hlay (hZ 5)
          have hfl := flag (q_mw (mZ (cT I 5) 240) 240 xr xe xk xt (w (q_all (qd I t) S h0).length)) xr xe q_mw_xr q_mw_xe a2 (by
            unfold q_mw
            rw [if_neg (by omega), if_neg (by omega), if_neg (by omega), if_neg (by omega), if_neg (by omega)]
            rfl)
          have h0' := tie_0 (mw_tie (xr := xr) (xe := xe) (xk := xk) (xt := xt) (mn := w (q_all (qd I t) S h0).length) (by omega) (hZ 5))
          refine ansA_0 h (ans_T (v := .int 0) (r := 5) (J := q_mw (mZ (cT I 5) 240) 240 xr xe xk xt (w (q_all (qd I t) S h0).length)) ?_ ?_ fr_zw mw_x (by decide))
          · simp only [D_155, E_155_0, E_155_1, ↓reduceIte, q_i, q_l, q_k, q_r, q_z, q_si, q_sl, jx_lt, jx_ri, jx_rl, jx_rv, if_true, if_false, Nat.reduceLeDiff, Nat.add_one_ne_zero, and_self, true_or, or_true, Nat.reduceEqDiff, or_self, or_false, false_or, xo_k hx, xo_r0 hx, xo_r1 hx, xo_r2 hx, xo_r3 hx, xo_r4 hx, xo_r5 hx, xo_r6 hx, xo_r7 hx, xo_r8 hx, xo_r9 hx, xo_r10 hx, xo_r11 hx, xo_ka hx, xo_ra0 hx, xo_ra1 hx, xo_ko hx, xo_ro0 hx, xo_ro1 hx, xo_kf hx, xo_rf0 hx, xo_kh hx, xo_rh0 hx, xo_ke hx, xo_re0 hx, xo_re1 hx, xo_kn hx, xo_zn hx, xo_re2 hx, xo_re3 hx, xo_kt hx, xo_rt0 hx, xo_t0 hx, (xo_ft hx).1, (xo_now hx).1, (xo_now hx).2.1, (xo_now hx).2.2.1, (xo_try hx).1, (xo_yr hx).1.1, (xo_ty hx).1, answered_eq hx, refused_eq hx, show ¬ (1 : Int32) = 0 by decide, Nat.reduceLT, hwy, isDay_y hx hd hd9 hdd, hstr, if_pos hsame]
          · simp only [D_307, E_307_0, E_307_1, E_307_3, ↓reduceIte, q_i, q_l, q_k, q_r, q_z, q_si, q_sl, jx_lt, jx_ri, jx_rl, jx_rv, if_true, if_false, Nat.reduceLeDiff, Nat.add_one_ne_zero, and_self, true_or, or_true, Nat.reduceEqDiff, or_self, or_false, false_or, mo_k hm.1, mo_r5 hm.1, mo_k5 hm.1, mo_z5 hm.1, mo_r16 hm.1, mo_k16 hm.1, mo_z16 hm.1, mo_r17 hm.1, mo_k17 hm.1, mo_z17 hm.1, mo_r18 hm.1, mo_k18 hm.1, mo_z18 hm.1, mo_r21 hm.1, mo_k21 hm.1, mo_z21 hm.1, mo_r22 hm.1, mo_k22 hm.1, mo_z22 hm.1, mo_r23 hm.1, mo_k23 hm.1, mo_z23 hm.1, mo_r24 hm.1, mo_k24 hm.1, mo_z24 hm.1, mo_r25 hm.1, mo_k25 hm.1, mo_z25 hm.1, mo_r26 hm.1, mo_k26 hm.1, mo_z26 hm.1, mo_r27 hm.1, mo_k27 hm.1, mo_z27 hm.1, mo_r29 hm.1, mo_k29 hm.1, mo_z29 hm.1, mo_r30 hm.1, mo_k30 hm.1, mo_z30 hm.1, mo_r31 hm.1, mo_k31 hm.1, mo_z31 hm.1, mo_r32 hm.1, mo_k32 hm.1, mo_z32 hm.1, mo_r40 hm.1, mo_k40 hm.1, mo_z40 hm.1, mo_r43 hm.1, mo_k43 hm.1, mo_z43 hm.1, mo_r44 hm.1, mo_k44 hm.1, mo_z44 hm.1, mf_k hm.2.1, mf_r14 hm.2.1, mf_k14 hm.2.1, mf_z14 hm.2.1, mf_r15 hm.2.1, mf_k15 hm.2.1, mf_z15 hm.2.1, mf_r16 hm.2.1, mf_k16 hm.2.1, mf_z16 hm.2.1, mf_r17 hm.2.1, mf_k17 hm.2.1, mf_z17 hm.2.1, mf_r18 hm.2.1, mf_k18 hm.2.1, mf_z18 hm.2.1, mf_r19 hm.2.1, mf_k19 hm.2.1, mf_z19 hm.2.1, mf_r20 hm.2.1, mf_k20 hm.2.1, mf_z20 hm.2.1, mf_r21 hm.2.1, mf_k21 hm.2.1, mf_z21 hm.2.1, mf_r22 hm.2.1, mf_k22 hm.2.1, mf_z22 hm.2.1, mf_r23 hm.2.1, mf_k23 hm.2.1, mf_z23 hm.2.1, mf_r24 hm.2.1, mf_k24 hm.2.1, mf_z24 hm.2.1, mf_r25 hm.2.1, mf_k25 hm.2.1, mf_z25 hm.2.1, mf_r26 hm.2.1, mf_k26 hm.2.1, mf_z26 hm.2.1, mf_r27 hm.2.1, mf_k27 hm.2.1, mf_z27 hm.2.1, mf_r28 hm.2.1, mf_k28 hm.2.1, mf_z28 hm.2.1, mf_r29 hm.2.1, mf_k29 hm.2.1, mf_z29 hm.2.1, mf_r30 hm.2.1, mf_k30 hm.2.1, mf_z30 hm.2.1, mf_r31 hm.2.1, mf_k31 hm.2.1, mf_z31 hm.2.1, mf_r32 hm.2.1, mf_k32 hm.2.1, mf_z32 hm.2.1, mf_r33 hm.2.1, mf_k33 hm.2.1, mf_z33 hm.2.1, mf_r34 hm.2.1, mf_k34 hm.2.1, mf_z34 hm.2.1, mf_r35 hm.2.1, mf_k35 hm.2.1, mf_z35 hm.2.1, mf_r36 hm.2.1, mf_k36 hm.2.1, mf_z36 hm.2.1, hm.2.2.1, hm.2.2.2, q_mZ, mgood_eq hm.1, mrefused_eq hm.1, show ¬ (1 : Int32) = 0 by decide, show ¬ (1 : Int32) ≤ 0 by decide, show ¬ (2 : Int32) ≤ 0 by decide, show ¬ (6 : Int32) ≤ 0 by decide, show (0 : Int32) ≤ 0 by decide, hum, a1, hn3, q_mw_o, q_mw_xr, q_mw_xe, q_mw_xk, q_mw_xt, q_mw_uxr, q_mw_uxe, q_mw_uxk, q_mw_uxt, q_mw_umn, q_mw_gmn, l3, mDay_y hm h0' hd9 hdd, hfl, if_pos hsame, E_307_10, mdenied_eq hm.1]
        · obtain ⟨I1, e1, c1, hh1⟩ := act_both (L := L) h
          obtain ⟨I2, e2, f1, f2, hh2⟩ := hh1 (q_set (q_set (I (188 + 2)) (6 + u) (w d)) (12 + u) (w cd))
          have tie2 : qTie (mZ (cT I2 0) 240) 240 f (qd I t) (I (188 + 2)) U S dn R O W := by
            have em : qme (mZ (cT I2 0) 240) f = qme I f := me_congr fun k hk => by
              rw [mZ, q_up_ne (by omega), cT, q_up_ne (by omega)]
              exact f2 _ (by omega) (by omega) (by omega) (by omega)
            refine tie_congr em ?_ hT
            rw [mZ, q_up_ne (by omega), cT, q_up_ne (by omega)]
            exact f2 _ (by omega) (by omega) (by omega) (by omega)
          obtain ⟨xr, xe, xk, xt, a1, a2⟩ := hlay tie2
          have v2 : mZ (cT I2 0) 240 (240 + 2) = I (240 + 2) := by
            rw [mZ, q_up_ne (by omega), cT, q_up_ne (by omega)]
            exact f2 _ (by omega) (by omega) (by omega) (by omega)
          generalize hJ : q_mw (mZ (cT I2 0) 240) 240 xr xe xk xt (w (q_all (qd I t) S h0).length) = J at a1
          have j12 : J (240 + 12) = xr := by rw [← hJ]; exact q_mw_xr
          have j13 : J (240 + 13) = xe := by rw [← hJ]; exact q_mw_xe
          have j2 : J (240 + 2) = I (240 + 2) := by
            rw [← hJ]
            unfold q_mw
            rw [if_neg (by omega), if_neg (by omega), if_neg (by omega), if_neg (by omega), if_neg (by omega)]
            exact v2
          have j33 : J 240 33 = w (q_all (qd I t) S h0).length := by rw [← hJ, q_mw_o, q_set_eq]
          have hfl := flag J xr xe j12 j13 a2 j2
          have h0' : J f 0 = w dn := by rw [← hJ]; exact tie_0 (mw_tie (by omega) tie2)
          obtain ⟨K, e3, k1, k2, k3, hh3⟩ := hh2 J (by rw [← hJ]; exact fr_zw) (by rw [← hJ]; exact mw_x)
          obtain ⟨hc', x1, x2, x3⟩ := rw_std hS9 a2 he
          rw [hcode] at x1 x3
          have k12 : K (240 + 12) = xr := (k2 _ (by omega) (by omega)).trans j12
          have k13 : K (240 + 13) = xe := (k2 _ (by omega) (by omega)).trans j13
          -- the plan that the reference writes
          obtain ⟨V', e4, w1, w2, w3, w4⟩ : ∃ V' : Nat → Int32, jd 307 11 [some (.ref 240), some (.int (w u)), some (.int (w e)), some (.int (w d)), none, none] [] (J, L, s) = some (some (.int 1), mG (q_up K (240 + 2) V') 240 0, L, s) ∧ (∀ j, j ≠ 6 + u → j ≠ 12 + u → ¬ (18 + 5 * u ≤ j ∧ j < 18 + 5 * u + 5) → V' j = I (240 + 2) j) ∧ V' (6 + u) = w d ∧ V' (12 + u) = w (q_wy cd) ∧ ∀ i, i < q_wy cd → V' (18 + 5 * u + i) = w (q_dg cd i) := by
            have u12 : ∀ g : Nat → Int32, q_up K (240 + 2) g (240 + 12) = xr := fun g => by rw [q_up_ne (by decide)]; exact k12
            have u13 : ∀ g : Nat → Int32, q_up K (240 + 2) g (240 + 13) = xe := fun g => by rw [q_up_ne (by decide)]; exact k13
            generalize hV0 : q_set (q_set (I (240 + 2)) (6 + u) (w d)) (12 + u) (w (q_wy cd)) = V0
            obtain ⟨J9, e5, g9, hJ9, hg1, hg2⟩ := q_loopE (P := fun i (J9 : qI) => ∃ g : Nat → Int32, J9 = q_up K (240 + 2) g ∧ (∀ j, ¬ (18 + 5 * u ≤ j ∧ j < 18 + 5 * u + 5) → g j = V0 j) ∧ ∀ j, j < i → g (18 + 5 * u + j) = w (q_dg cd j)) (F := fun i J9 => jd 307 12 [some (.ref 240), some (.int (w u)), some (.int (w e)), none, none, some (.int (w i))] [] (J9, L, s)) (n := q_wy cd) (fun i J9 hi hJ9 => by
              obtain ⟨g, rfl, hg1, hg2⟩ := hJ9
              have x4 := x3 i hi
              rw [show 6 * e + 1 + i = 6 * e + i + 1 by omega] at x4
              refine ⟨q_up K (240 + 2) (q_set g (18 + 5 * u + i) (w (q_dg cd i))), ?_, _, rfl, fun j hj => ?_, fun j hj => ?_⟩
              · show jd 307 12 _ _ _ = jd 307 12 _ _ _
                rw [E_307_12]
                simp only [show (6 : Int32) = w 6 from rfl, show (18 : Int32) = w 18 from rfl, show (5 : Int32) = w 5 from rfl, w_mul, w_add, w_inc, ↓reduceIte, q_i, q_l, q_k, q_r, q_z, q_si, q_sl, jx_lt, jx_ri, jx_rl, jx_rv, if_true, if_false, Nat.reduceLeDiff, Nat.add_one_ne_zero, and_self, true_or, or_true, Nat.reduceEqDiff, or_self, or_false, false_or, mo_k hm.1, mo_r16 hm.1, mo_k16 hm.1, mo_z16 hm.1, mo_r29 hm.1, mo_k29 hm.1, mo_z29 hm.1, mo_r30 hm.1, mo_k30 hm.1, mo_z30 hm.1, w_nn (a := e) (by omega), show ¬ 1000 ≤ e by omega, w_tc (a := e) (by omega), w_nn (a := 18 + 5 * u + i) (by omega), show ¬ 49 ≤ 18 + 5 * u + i by omega, w_tc (a := 18 + 5 * u + i) (by omega), w_nn (a := 6 * e + i + 1) (by omega), show ¬ 6000 ≤ 6 * e + i + 1 by omega, w_tc (a := 6 * e + i + 1) (by omega), u12, u13, x1, x4, w_nle hi (by omega), q_up_eq, q_up_up]
              · rw [q_set_ne (by omega)]; exact hg1 j hj
              · by_cases c : j = i
                · subst c; exact q_set_eq
                · rw [q_set_ne (by omega)]; exact hg2 j (by omega)) (q_up K (240 + 2) V0) ⟨V0, rfl, fun _ _ => rfl, fun j hj => absurd hj (Nat.not_lt_zero j)⟩
            refine ⟨g9, ?_, fun j z1 z2 z3 => ?_, ?_, ?_, hg2⟩
            · rw [E_307_11]
              simp only [show (6 : Int32) = w 6 from rfl, show (12 : Int32) = w 12 from rfl, w_add, ↓reduceIte, q_i, q_l, q_k, q_r, q_z, q_si, q_sl, jx_lt, jx_ri, jx_rl, jx_rv, if_true, if_false, Nat.reduceLeDiff, Nat.add_one_ne_zero, and_self, true_or, or_true, Nat.reduceEqDiff, or_self, or_false, false_or, mo_k hm.1, mo_r16 hm.1, mo_k16 hm.1, mo_z16 hm.1, mo_r30 hm.1, mo_k30 hm.1, mo_z30 hm.1, w_nn (a := 6 + u) (by omega), show ¬ 49 ≤ 6 + u by omega, w_tc (a := 6 + u) (by omega), w_nn (a := 12 + u) (by omega), show ¬ 49 ≤ 12 + u by omega, w_tc (a := 12 + u) (by omega), w_nn (a := e) (by omega), show ¬ 1000 ≤ e by omega, w_tc (a := e) (by omega), e3, k1, q_up_eq, q_up_up, u13, x1, hV0]
              refine Eq.trans e5 ?_
              subst hJ9
              show jd 307 12 _ _ _ = _
              rw [E_307_12]
              simp only [↓reduceIte, q_i, q_l, q_k, q_r, q_z, q_si, q_sl, jx_lt, jx_ri, jx_rl, jx_rv, if_true, if_false, Nat.reduceLeDiff, Nat.add_one_ne_zero, and_self, true_or, or_true, Nat.reduceEqDiff, or_self, or_false, false_or, mo_k hm.1, mo_r30 hm.1, mo_k30 hm.1, mo_z30 hm.1, w_nn (a := e) (by omega), show ¬ 1000 ≤ e by omega, w_tc (a := e) (by omega), u13, x1, Int32.le_refl, E_307_13, mgranted_eq hm.1]
            · rw [hg1 j z3, ← hV0, q_set_ne z2, q_set_ne z1]
            · rw [hg1 _ (by omega), ← hV0, q_set_ne (by omega), q_set_eq]
            · rw [hg1 _ (by omega), ← hV0, q_set_eq]
          obtain ⟨g1, g2, g3⟩ := hh3 V' (pr_send hU9 hS9 hu hdd e6 hh hco w1 w2 w3 w4 h5)
          have e9 := setOut_eq (I := I1) (L := L) (xo_now hx) (u := u) (by omega) (w d) (w cd)
          rw [c1 (188 + 1 + 1) (by omega) (by omega)] at e9
          have hm5 : mZ (cT I2 0) 240 f 5 = w U := tie_5 tie2
          refine ansA_T (I1 := I2) (v := .int 1) (J := q_up K (240 + 2) V') ?_ f1 ?_ g1 g2 g3
          · simp only [D_155, E_155_0, E_155_1, ↓reduceIte, q_i, q_l, q_k, q_r, q_z, q_si, q_sl, jx_lt, jx_ri, jx_rl, jx_rv, if_true, if_false, Nat.reduceLeDiff, Nat.add_one_ne_zero, and_self, true_or, or_true, Nat.reduceEqDiff, or_self, or_false, false_or, xo_k hx, xo_r0 hx, xo_r1 hx, xo_r2 hx, xo_r3 hx, xo_r4 hx, xo_r5 hx, xo_r6 hx, xo_r7 hx, xo_r8 hx, xo_r9 hx, xo_r10 hx, xo_r11 hx, xo_ka hx, xo_ra0 hx, xo_ra1 hx, xo_ko hx, xo_ro0 hx, xo_ro1 hx, xo_kf hx, xo_rf0 hx, xo_kh hx, xo_rh0 hx, xo_ke hx, xo_re0 hx, xo_re1 hx, xo_kn hx, xo_zn hx, xo_re2 hx, xo_re3 hx, xo_kt hx, xo_rt0 hx, xo_t0 hx, (xo_ft hx).1, (xo_now hx).1, (xo_now hx).2.1, (xo_now hx).2.2.1, (xo_try hx).1, (xo_yr hx).1.1, (xo_ty hx).1, answered_eq hx, refused_eq hx, show ¬ (1 : Int32) = 0 by decide, Nat.reduceLT, hwy, isDay_y hx hd hd9 hdd, hstr, if_neg hsame]
            rw [E_155_3]
            simp only [↓reduceIte, q_i, q_l, q_k, q_r, q_z, q_si, q_sl, jx_lt, jx_ri, jx_rl, jx_rv, if_true, if_false, Nat.reduceLeDiff, Nat.add_one_ne_zero, and_self, true_or, or_true, Nat.reduceEqDiff, or_self, or_false, false_or, xo_k hx, xo_r0 hx, xo_r1 hx, xo_r2 hx, xo_r3 hx, xo_r4 hx, xo_r5 hx, xo_r6 hx, xo_r7 hx, xo_r8 hx, xo_r9 hx, xo_r10 hx, xo_r11 hx, xo_ka hx, xo_ra0 hx, xo_ra1 hx, xo_ko hx, xo_ro0 hx, xo_ro1 hx, xo_kf hx, xo_rf0 hx, xo_kh hx, xo_rh0 hx, xo_ke hx, xo_re0 hx, xo_re1 hx, xo_kn hx, xo_zn hx, xo_re2 hx, xo_re3 hx, xo_kt hx, xo_rt0 hx, xo_t0 hx, (xo_ft hx).1, (xo_now hx).1, (xo_now hx).2.1, (xo_now hx).2.2.1, (xo_try hx).1, (xo_yr hx).1.1, (xo_ty hx).1, answered_eq hx, refused_eq hx, show ¬ (1 : Int32) = 0 by decide, Nat.reduceLT, e1, e9, e2, isDone_eq hx]
          · simp only [D_307, E_307_0, E_307_1, E_307_3, ↓reduceIte, q_i, q_l, q_k, q_r, q_z, q_si, q_sl, jx_lt, jx_ri, jx_rl, jx_rv, if_true, if_false, Nat.reduceLeDiff, Nat.add_one_ne_zero, and_self, true_or, or_true, Nat.reduceEqDiff, or_self, or_false, false_or, mo_k hm.1, mo_r5 hm.1, mo_k5 hm.1, mo_z5 hm.1, mo_r16 hm.1, mo_k16 hm.1, mo_z16 hm.1, mo_r17 hm.1, mo_k17 hm.1, mo_z17 hm.1, mo_r18 hm.1, mo_k18 hm.1, mo_z18 hm.1, mo_r21 hm.1, mo_k21 hm.1, mo_z21 hm.1, mo_r22 hm.1, mo_k22 hm.1, mo_z22 hm.1, mo_r23 hm.1, mo_k23 hm.1, mo_z23 hm.1, mo_r24 hm.1, mo_k24 hm.1, mo_z24 hm.1, mo_r25 hm.1, mo_k25 hm.1, mo_z25 hm.1, mo_r26 hm.1, mo_k26 hm.1, mo_z26 hm.1, mo_r27 hm.1, mo_k27 hm.1, mo_z27 hm.1, mo_r29 hm.1, mo_k29 hm.1, mo_z29 hm.1, mo_r30 hm.1, mo_k30 hm.1, mo_z30 hm.1, mo_r31 hm.1, mo_k31 hm.1, mo_z31 hm.1, mo_r32 hm.1, mo_k32 hm.1, mo_z32 hm.1, mo_r40 hm.1, mo_k40 hm.1, mo_z40 hm.1, mo_r43 hm.1, mo_k43 hm.1, mo_z43 hm.1, mo_r44 hm.1, mo_k44 hm.1, mo_z44 hm.1, mf_k hm.2.1, mf_r14 hm.2.1, mf_k14 hm.2.1, mf_z14 hm.2.1, mf_r15 hm.2.1, mf_k15 hm.2.1, mf_z15 hm.2.1, mf_r16 hm.2.1, mf_k16 hm.2.1, mf_z16 hm.2.1, mf_r17 hm.2.1, mf_k17 hm.2.1, mf_z17 hm.2.1, mf_r18 hm.2.1, mf_k18 hm.2.1, mf_z18 hm.2.1, mf_r19 hm.2.1, mf_k19 hm.2.1, mf_z19 hm.2.1, mf_r20 hm.2.1, mf_k20 hm.2.1, mf_z20 hm.2.1, mf_r21 hm.2.1, mf_k21 hm.2.1, mf_z21 hm.2.1, mf_r22 hm.2.1, mf_k22 hm.2.1, mf_z22 hm.2.1, mf_r23 hm.2.1, mf_k23 hm.2.1, mf_z23 hm.2.1, mf_r24 hm.2.1, mf_k24 hm.2.1, mf_z24 hm.2.1, mf_r25 hm.2.1, mf_k25 hm.2.1, mf_z25 hm.2.1, mf_r26 hm.2.1, mf_k26 hm.2.1, mf_z26 hm.2.1, mf_r27 hm.2.1, mf_k27 hm.2.1, mf_z27 hm.2.1, mf_r28 hm.2.1, mf_k28 hm.2.1, mf_z28 hm.2.1, mf_r29 hm.2.1, mf_k29 hm.2.1, mf_z29 hm.2.1, mf_r30 hm.2.1, mf_k30 hm.2.1, mf_z30 hm.2.1, mf_r31 hm.2.1, mf_k31 hm.2.1, mf_z31 hm.2.1, mf_r32 hm.2.1, mf_k32 hm.2.1, mf_z32 hm.2.1, mf_r33 hm.2.1, mf_k33 hm.2.1, mf_z33 hm.2.1, mf_r34 hm.2.1, mf_k34 hm.2.1, mf_z34 hm.2.1, mf_r35 hm.2.1, mf_k35 hm.2.1, mf_z35 hm.2.1, mf_r36 hm.2.1, mf_k36 hm.2.1, mf_z36 hm.2.1, hm.2.2.1, hm.2.2.2, q_mZ, mgood_eq hm.1, mrefused_eq hm.1, show ¬ (1 : Int32) = 0 by decide, show ¬ (1 : Int32) ≤ 0 by decide, show ¬ (2 : Int32) ≤ 0 by decide, show ¬ (6 : Int32) ≤ 0 by decide, show (0 : Int32) ≤ 0 by decide, mUmb_y hm hm5 hU9 hu, a1, hn3, j33, l3, mDay_y hm h0' hd9 hdd, hfl, if_neg hsame, E_307_10, e4]
      · obtain ⟨xr, xe, xk, xt, a1, a2⟩ := hlay (hZ 2)
        have h0' := tie_0 (mw_tie (xr := xr) (xe := xe) (xk := xk) (xt := xt) (mn := w (q_all (qd I t) S h0).length) (by omega) (hZ 2))
        refine ansA_0 h (ans_T (v := .int 0) (r := 2) (J := q_mw (mZ (cT I 2) 240) 240 xr xe xk xt (w (q_all (qd I t) S h0).length)) ?_ ?_ fr_zw mw_x (by decide))
        · simp only [D_155, E_155_0, E_155_1, ↓reduceIte, q_i, q_l, q_k, q_r, q_z, q_si, q_sl, jx_lt, jx_ri, jx_rl, jx_rv, if_true, if_false, Nat.reduceLeDiff, Nat.add_one_ne_zero, and_self, true_or, or_true, Nat.reduceEqDiff, or_self, or_false, false_or, xo_k hx, xo_r0 hx, xo_r1 hx, xo_r2 hx, xo_r3 hx, xo_r4 hx, xo_r5 hx, xo_r6 hx, xo_r7 hx, xo_r8 hx, xo_r9 hx, xo_r10 hx, xo_r11 hx, xo_ka hx, xo_ra0 hx, xo_ra1 hx, xo_ko hx, xo_ro0 hx, xo_ro1 hx, xo_kf hx, xo_rf0 hx, xo_kh hx, xo_rh0 hx, xo_ke hx, xo_re0 hx, xo_re1 hx, xo_kn hx, xo_zn hx, xo_re2 hx, xo_re3 hx, xo_kt hx, xo_rt0 hx, xo_t0 hx, (xo_ft hx).1, (xo_now hx).1, (xo_now hx).2.1, (xo_now hx).2.2.1, (xo_try hx).1, (xo_yr hx).1.1, (xo_ty hx).1, answered_eq hx, refused_eq hx, show ¬ (1 : Int32) = 0 by decide, Nat.reduceLT, hwy, isDay_n hx hd cc, isRefused_eq hx]
        · simp only [D_307, E_307_0, E_307_1, E_307_3, ↓reduceIte, q_i, q_l, q_k, q_r, q_z, q_si, q_sl, jx_lt, jx_ri, jx_rl, jx_rv, if_true, if_false, Nat.reduceLeDiff, Nat.add_one_ne_zero, and_self, true_or, or_true, Nat.reduceEqDiff, or_self, or_false, false_or, mo_k hm.1, mo_r5 hm.1, mo_k5 hm.1, mo_z5 hm.1, mo_r16 hm.1, mo_k16 hm.1, mo_z16 hm.1, mo_r17 hm.1, mo_k17 hm.1, mo_z17 hm.1, mo_r18 hm.1, mo_k18 hm.1, mo_z18 hm.1, mo_r21 hm.1, mo_k21 hm.1, mo_z21 hm.1, mo_r22 hm.1, mo_k22 hm.1, mo_z22 hm.1, mo_r23 hm.1, mo_k23 hm.1, mo_z23 hm.1, mo_r24 hm.1, mo_k24 hm.1, mo_z24 hm.1, mo_r25 hm.1, mo_k25 hm.1, mo_z25 hm.1, mo_r26 hm.1, mo_k26 hm.1, mo_z26 hm.1, mo_r27 hm.1, mo_k27 hm.1, mo_z27 hm.1, mo_r29 hm.1, mo_k29 hm.1, mo_z29 hm.1, mo_r30 hm.1, mo_k30 hm.1, mo_z30 hm.1, mo_r31 hm.1, mo_k31 hm.1, mo_z31 hm.1, mo_r32 hm.1, mo_k32 hm.1, mo_z32 hm.1, mo_r40 hm.1, mo_k40 hm.1, mo_z40 hm.1, mo_r43 hm.1, mo_k43 hm.1, mo_z43 hm.1, mo_r44 hm.1, mo_k44 hm.1, mo_z44 hm.1, mf_k hm.2.1, mf_r14 hm.2.1, mf_k14 hm.2.1, mf_z14 hm.2.1, mf_r15 hm.2.1, mf_k15 hm.2.1, mf_z15 hm.2.1, mf_r16 hm.2.1, mf_k16 hm.2.1, mf_z16 hm.2.1, mf_r17 hm.2.1, mf_k17 hm.2.1, mf_z17 hm.2.1, mf_r18 hm.2.1, mf_k18 hm.2.1, mf_z18 hm.2.1, mf_r19 hm.2.1, mf_k19 hm.2.1, mf_z19 hm.2.1, mf_r20 hm.2.1, mf_k20 hm.2.1, mf_z20 hm.2.1, mf_r21 hm.2.1, mf_k21 hm.2.1, mf_z21 hm.2.1, mf_r22 hm.2.1, mf_k22 hm.2.1, mf_z22 hm.2.1, mf_r23 hm.2.1, mf_k23 hm.2.1, mf_z23 hm.2.1, mf_r24 hm.2.1, mf_k24 hm.2.1, mf_z24 hm.2.1, mf_r25 hm.2.1, mf_k25 hm.2.1, mf_z25 hm.2.1, mf_r26 hm.2.1, mf_k26 hm.2.1, mf_z26 hm.2.1, mf_r27 hm.2.1, mf_k27 hm.2.1, mf_z27 hm.2.1, mf_r28 hm.2.1, mf_k28 hm.2.1, mf_z28 hm.2.1, mf_r29 hm.2.1, mf_k29 hm.2.1, mf_z29 hm.2.1, mf_r30 hm.2.1, mf_k30 hm.2.1, mf_z30 hm.2.1, mf_r31 hm.2.1, mf_k31 hm.2.1, mf_z31 hm.2.1, mf_r32 hm.2.1, mf_k32 hm.2.1, mf_z32 hm.2.1, mf_r33 hm.2.1, mf_k33 hm.2.1, mf_z33 hm.2.1, mf_r34 hm.2.1, mf_k34 hm.2.1, mf_z34 hm.2.1, mf_r35 hm.2.1, mf_k35 hm.2.1, mf_z35 hm.2.1, mf_r36 hm.2.1, mf_k36 hm.2.1, mf_z36 hm.2.1, hm.2.2.1, hm.2.2.2, q_mZ, mgood_eq hm.1, mrefused_eq hm.1, show ¬ (1 : Int32) = 0 by decide, show ¬ (1 : Int32) ≤ 0 by decide, show ¬ (2 : Int32) ≤ 0 by decide, show ¬ (6 : Int32) ≤ 0 by decide, show (0 : Int32) ≤ 0 by decide, hum, a1, hn3, q_mw_o, q_mw_xr, q_mw_xe, q_mw_xk, q_mw_xt, q_mw_uxr, q_mw_uxe, q_mw_uxk, q_mw_uxt, q_mw_umn, q_mw_gmn, l3, mDay_n hm h0' cc, mdenied_eq hm.1]
    · obtain ⟨xr, xe, xk, xt, a1, a2⟩ := hlay (hZ 1)
      refine ansA_0 h (ans_T (v := .int 0) (r := 1) (J := q_mw (mZ (cT I 1) 240) 240 xr xe xk xt (w (q_all (qd I t) S h0).length)) ?_ ?_ fr_zw mw_x (by decide))
      · simp only [D_155, E_155_0, ↓reduceIte, q_i, q_l, q_k, q_r, q_z, q_si, q_sl, jx_lt, jx_ri, jx_rl, jx_rv, if_true, if_false, Nat.reduceLeDiff, Nat.add_one_ne_zero, and_self, true_or, or_true, Nat.reduceEqDiff, or_self, or_false, false_or, xo_k hx, xo_r0 hx, xo_r1 hx, xo_r2 hx, xo_r3 hx, xo_r4 hx, xo_r5 hx, xo_r6 hx, xo_r7 hx, xo_r8 hx, xo_r9 hx, xo_r10 hx, xo_r11 hx, xo_ka hx, xo_ra0 hx, xo_ra1 hx, xo_ko hx, xo_ro0 hx, xo_ro1 hx, xo_kf hx, xo_rf0 hx, xo_kh hx, xo_rh0 hx, xo_ke hx, xo_re0 hx, xo_re1 hx, xo_kn hx, xo_zn hx, xo_re2 hx, xo_re3 hx, xo_kt hx, xo_rt0 hx, xo_t0 hx, (xo_ft hx).1, (xo_now hx).1, (xo_now hx).2.1, (xo_now hx).2.2.1, (xo_try hx).1, (xo_yr hx).1.1, (xo_ty hx).1, answered_eq hx, refused_eq hx, show ¬ (1 : Int32) = 0 by decide, Nat.reduceLT, isWayOut_k hx hU hU9 hu b1 cb, isRefused_eq hx]
      · by_cases c0 : b < 0
        · simp only [D_307, E_307_0, E_307_1, E_307_2, ↓reduceIte, q_i, q_l, q_k, q_r, q_z, q_si, q_sl, jx_lt, jx_ri, jx_rl, jx_rv, if_true, if_false, Nat.reduceLeDiff, Nat.add_one_ne_zero, and_self, true_or, or_true, Nat.reduceEqDiff, or_self, or_false, false_or, mo_k hm.1, mo_r5 hm.1, mo_k5 hm.1, mo_z5 hm.1, mo_r16 hm.1, mo_k16 hm.1, mo_z16 hm.1, mo_r17 hm.1, mo_k17 hm.1, mo_z17 hm.1, mo_r18 hm.1, mo_k18 hm.1, mo_z18 hm.1, mo_r21 hm.1, mo_k21 hm.1, mo_z21 hm.1, mo_r22 hm.1, mo_k22 hm.1, mo_z22 hm.1, mo_r23 hm.1, mo_k23 hm.1, mo_z23 hm.1, mo_r24 hm.1, mo_k24 hm.1, mo_z24 hm.1, mo_r25 hm.1, mo_k25 hm.1, mo_z25 hm.1, mo_r26 hm.1, mo_k26 hm.1, mo_z26 hm.1, mo_r27 hm.1, mo_k27 hm.1, mo_z27 hm.1, mo_r29 hm.1, mo_k29 hm.1, mo_z29 hm.1, mo_r30 hm.1, mo_k30 hm.1, mo_z30 hm.1, mo_r31 hm.1, mo_k31 hm.1, mo_z31 hm.1, mo_r32 hm.1, mo_k32 hm.1, mo_z32 hm.1, mo_r40 hm.1, mo_k40 hm.1, mo_z40 hm.1, mo_r43 hm.1, mo_k43 hm.1, mo_z43 hm.1, mo_r44 hm.1, mo_k44 hm.1, mo_z44 hm.1, mf_k hm.2.1, mf_r14 hm.2.1, mf_k14 hm.2.1, mf_z14 hm.2.1, mf_r15 hm.2.1, mf_k15 hm.2.1, mf_z15 hm.2.1, mf_r16 hm.2.1, mf_k16 hm.2.1, mf_z16 hm.2.1, mf_r17 hm.2.1, mf_k17 hm.2.1, mf_z17 hm.2.1, mf_r18 hm.2.1, mf_k18 hm.2.1, mf_z18 hm.2.1, mf_r19 hm.2.1, mf_k19 hm.2.1, mf_z19 hm.2.1, mf_r20 hm.2.1, mf_k20 hm.2.1, mf_z20 hm.2.1, mf_r21 hm.2.1, mf_k21 hm.2.1, mf_z21 hm.2.1, mf_r22 hm.2.1, mf_k22 hm.2.1, mf_z22 hm.2.1, mf_r23 hm.2.1, mf_k23 hm.2.1, mf_z23 hm.2.1, mf_r24 hm.2.1, mf_k24 hm.2.1, mf_z24 hm.2.1, mf_r25 hm.2.1, mf_k25 hm.2.1, mf_z25 hm.2.1, mf_r26 hm.2.1, mf_k26 hm.2.1, mf_z26 hm.2.1, mf_r27 hm.2.1, mf_k27 hm.2.1, mf_z27 hm.2.1, mf_r28 hm.2.1, mf_k28 hm.2.1, mf_z28 hm.2.1, mf_r29 hm.2.1, mf_k29 hm.2.1, mf_z29 hm.2.1, mf_r30 hm.2.1, mf_k30 hm.2.1, mf_z30 hm.2.1, mf_r31 hm.2.1, mf_k31 hm.2.1, mf_z31 hm.2.1, mf_r32 hm.2.1, mf_k32 hm.2.1, mf_z32 hm.2.1, mf_r33 hm.2.1, mf_k33 hm.2.1, mf_z33 hm.2.1, mf_r34 hm.2.1, mf_k34 hm.2.1, mf_z34 hm.2.1, mf_r35 hm.2.1, mf_k35 hm.2.1, mf_z35 hm.2.1, mf_r36 hm.2.1, mf_k36 hm.2.1, mf_z36 hm.2.1, hm.2.2.1, hm.2.2.2, q_mZ, mgood_eq hm.1, mrefused_eq hm.1, show ¬ (1 : Int32) = 0 by decide, show ¬ (1 : Int32) ≤ 0 by decide, show ¬ (2 : Int32) ≤ 0 by decide, show ¬ (6 : Int32) ≤ 0 by decide, show (0 : Int32) ≤ 0 by decide, hum, a1, c0, mdenied_eq hm.1]
        · have c1 : ¬ b < w (q_all (qd I t) S h0).length := Int32.not_lt.mpr (cb.resolve_left c0)
          simp only [D_307, E_307_0, E_307_1, E_307_2, ↓reduceIte, q_i, q_l, q_k, q_r, q_z, q_si, q_sl, jx_lt, jx_ri, jx_rl, jx_rv, if_true, if_false, Nat.reduceLeDiff, Nat.add_one_ne_zero, and_self, true_or, or_true, Nat.reduceEqDiff, or_self, or_false, false_or, mo_k hm.1, mo_r5 hm.1, mo_k5 hm.1, mo_z5 hm.1, mo_r16 hm.1, mo_k16 hm.1, mo_z16 hm.1, mo_r17 hm.1, mo_k17 hm.1, mo_z17 hm.1, mo_r18 hm.1, mo_k18 hm.1, mo_z18 hm.1, mo_r21 hm.1, mo_k21 hm.1, mo_z21 hm.1, mo_r22 hm.1, mo_k22 hm.1, mo_z22 hm.1, mo_r23 hm.1, mo_k23 hm.1, mo_z23 hm.1, mo_r24 hm.1, mo_k24 hm.1, mo_z24 hm.1, mo_r25 hm.1, mo_k25 hm.1, mo_z25 hm.1, mo_r26 hm.1, mo_k26 hm.1, mo_z26 hm.1, mo_r27 hm.1, mo_k27 hm.1, mo_z27 hm.1, mo_r29 hm.1, mo_k29 hm.1, mo_z29 hm.1, mo_r30 hm.1, mo_k30 hm.1, mo_z30 hm.1, mo_r31 hm.1, mo_k31 hm.1, mo_z31 hm.1, mo_r32 hm.1, mo_k32 hm.1, mo_z32 hm.1, mo_r40 hm.1, mo_k40 hm.1, mo_z40 hm.1, mo_r43 hm.1, mo_k43 hm.1, mo_z43 hm.1, mo_r44 hm.1, mo_k44 hm.1, mo_z44 hm.1, mf_k hm.2.1, mf_r14 hm.2.1, mf_k14 hm.2.1, mf_z14 hm.2.1, mf_r15 hm.2.1, mf_k15 hm.2.1, mf_z15 hm.2.1, mf_r16 hm.2.1, mf_k16 hm.2.1, mf_z16 hm.2.1, mf_r17 hm.2.1, mf_k17 hm.2.1, mf_z17 hm.2.1, mf_r18 hm.2.1, mf_k18 hm.2.1, mf_z18 hm.2.1, mf_r19 hm.2.1, mf_k19 hm.2.1, mf_z19 hm.2.1, mf_r20 hm.2.1, mf_k20 hm.2.1, mf_z20 hm.2.1, mf_r21 hm.2.1, mf_k21 hm.2.1, mf_z21 hm.2.1, mf_r22 hm.2.1, mf_k22 hm.2.1, mf_z22 hm.2.1, mf_r23 hm.2.1, mf_k23 hm.2.1, mf_z23 hm.2.1, mf_r24 hm.2.1, mf_k24 hm.2.1, mf_z24 hm.2.1, mf_r25 hm.2.1, mf_k25 hm.2.1, mf_z25 hm.2.1, mf_r26 hm.2.1, mf_k26 hm.2.1, mf_z26 hm.2.1, mf_r27 hm.2.1, mf_k27 hm.2.1, mf_z27 hm.2.1, mf_r28 hm.2.1, mf_k28 hm.2.1, mf_z28 hm.2.1, mf_r29 hm.2.1, mf_k29 hm.2.1, mf_z29 hm.2.1, mf_r30 hm.2.1, mf_k30 hm.2.1, mf_z30 hm.2.1, mf_r31 hm.2.1, mf_k31 hm.2.1, mf_z31 hm.2.1, mf_r32 hm.2.1, mf_k32 hm.2.1, mf_z32 hm.2.1, mf_r33 hm.2.1, mf_k33 hm.2.1, mf_z33 hm.2.1, mf_r34 hm.2.1, mf_k34 hm.2.1, mf_z34 hm.2.1, mf_r35 hm.2.1, mf_k35 hm.2.1, mf_z35 hm.2.1, mf_r36 hm.2.1, mf_k36 hm.2.1, mf_z36 hm.2.1, hm.2.2.1, hm.2.2.2, q_mZ, mgood_eq hm.1, mrefused_eq hm.1, show ¬ (1 : Int32) = 0 by decide, show ¬ (1 : Int32) ≤ 0 by decide, show ¬ (2 : Int32) ≤ 0 by decide, show ¬ (6 : Int32) ≤ 0 by decide, show (0 : Int32) ≤ 0 by decide, hum, a1, c0, q_mw_o, q_mw_xr, q_mw_xe, q_mw_xk, q_mw_xt, q_mw_uxr, q_mw_uxe, q_mw_uxk, q_mw_uxt, q_mw_umn, q_mw_gmn, c1, mdenied_eq hm.1]
  · refine ansA_0 h (ans_T (v := .int 0) (r := 1) (J := mZ (cT I 1) 240) ?_ ?_ fr_mZ fr_x13 (by decide))
    · simp only [D_155, E_155_0, ↓reduceIte, q_i, q_l, q_k, q_r, q_z, q_si, q_sl, jx_lt, jx_ri, jx_rl, jx_rv, if_true, if_false, Nat.reduceLeDiff, Nat.add_one_ne_zero, and_self, true_or, or_true, Nat.reduceEqDiff, or_self, or_false, false_or, xo_k hx, xo_r0 hx, xo_r1 hx, xo_r2 hx, xo_r3 hx, xo_r4 hx, xo_r5 hx, xo_r6 hx, xo_r7 hx, xo_r8 hx, xo_r9 hx, xo_r10 hx, xo_r11 hx, xo_ka hx, xo_ra0 hx, xo_ra1 hx, xo_ko hx, xo_ro0 hx, xo_ro1 hx, xo_kf hx, xo_rf0 hx, xo_kh hx, xo_rh0 hx, xo_ke hx, xo_re0 hx, xo_re1 hx, xo_kn hx, xo_zn hx, xo_re2 hx, xo_re3 hx, xo_kt hx, xo_rt0 hx, xo_t0 hx, (xo_ft hx).1, (xo_now hx).1, (xo_now hx).2.1, (xo_now hx).2.2.1, (xo_try hx).1, (xo_yr hx).1.1, (xo_ty hx).1, answered_eq hx, refused_eq hx, show ¬ (1 : Int32) = 0 by decide, Nat.reduceLT, isWayOut_n hx hU ca, isRefused_eq hx]
    · simp only [D_307, E_307_0, ↓reduceIte, q_i, q_l, q_k, q_r, q_z, q_si, q_sl, jx_lt, jx_ri, jx_rl, jx_rv, if_true, if_false, Nat.reduceLeDiff, Nat.add_one_ne_zero, and_self, true_or, or_true, Nat.reduceEqDiff, or_self, or_false, false_or, mo_k hm.1, mo_r5 hm.1, mo_k5 hm.1, mo_z5 hm.1, mo_r16 hm.1, mo_k16 hm.1, mo_z16 hm.1, mo_r17 hm.1, mo_k17 hm.1, mo_z17 hm.1, mo_r18 hm.1, mo_k18 hm.1, mo_z18 hm.1, mo_r21 hm.1, mo_k21 hm.1, mo_z21 hm.1, mo_r22 hm.1, mo_k22 hm.1, mo_z22 hm.1, mo_r23 hm.1, mo_k23 hm.1, mo_z23 hm.1, mo_r24 hm.1, mo_k24 hm.1, mo_z24 hm.1, mo_r25 hm.1, mo_k25 hm.1, mo_z25 hm.1, mo_r26 hm.1, mo_k26 hm.1, mo_z26 hm.1, mo_r27 hm.1, mo_k27 hm.1, mo_z27 hm.1, mo_r29 hm.1, mo_k29 hm.1, mo_z29 hm.1, mo_r30 hm.1, mo_k30 hm.1, mo_z30 hm.1, mo_r31 hm.1, mo_k31 hm.1, mo_z31 hm.1, mo_r32 hm.1, mo_k32 hm.1, mo_z32 hm.1, mo_r40 hm.1, mo_k40 hm.1, mo_z40 hm.1, mo_r43 hm.1, mo_k43 hm.1, mo_z43 hm.1, mo_r44 hm.1, mo_k44 hm.1, mo_z44 hm.1, mf_k hm.2.1, mf_r14 hm.2.1, mf_k14 hm.2.1, mf_z14 hm.2.1, mf_r15 hm.2.1, mf_k15 hm.2.1, mf_z15 hm.2.1, mf_r16 hm.2.1, mf_k16 hm.2.1, mf_z16 hm.2.1, mf_r17 hm.2.1, mf_k17 hm.2.1, mf_z17 hm.2.1, mf_r18 hm.2.1, mf_k18 hm.2.1, mf_z18 hm.2.1, mf_r19 hm.2.1, mf_k19 hm.2.1, mf_z19 hm.2.1, mf_r20 hm.2.1, mf_k20 hm.2.1, mf_z20 hm.2.1, mf_r21 hm.2.1, mf_k21 hm.2.1, mf_z21 hm.2.1, mf_r22 hm.2.1, mf_k22 hm.2.1, mf_z22 hm.2.1, mf_r23 hm.2.1, mf_k23 hm.2.1, mf_z23 hm.2.1, mf_r24 hm.2.1, mf_k24 hm.2.1, mf_z24 hm.2.1, mf_r25 hm.2.1, mf_k25 hm.2.1, mf_z25 hm.2.1, mf_r26 hm.2.1, mf_k26 hm.2.1, mf_z26 hm.2.1, mf_r27 hm.2.1, mf_k27 hm.2.1, mf_z27 hm.2.1, mf_r28 hm.2.1, mf_k28 hm.2.1, mf_z28 hm.2.1, mf_r29 hm.2.1, mf_k29 hm.2.1, mf_z29 hm.2.1, mf_r30 hm.2.1, mf_k30 hm.2.1, mf_z30 hm.2.1, mf_r31 hm.2.1, mf_k31 hm.2.1, mf_z31 hm.2.1, mf_r32 hm.2.1, mf_k32 hm.2.1, mf_z32 hm.2.1, mf_r33 hm.2.1, mf_k33 hm.2.1, mf_z33 hm.2.1, mf_r34 hm.2.1, mf_k34 hm.2.1, mf_z34 hm.2.1, mf_r35 hm.2.1, mf_k35 hm.2.1, mf_z35 hm.2.1, mf_r36 hm.2.1, mf_k36 hm.2.1, mf_z36 hm.2.1, hm.2.2.1, hm.2.2.2, q_mZ, mgood_eq hm.1, mrefused_eq hm.1, show ¬ (1 : Int32) = 0 by decide, show ¬ (1 : Int32) ≤ 0 by decide, show ¬ (2 : Int32) ≤ 0 by decide, show ¬ (6 : Int32) ≤ 0 by decide, show (0 : Int32) ≤ 0 by decide, mUmb_n hm (tie_5 (hZ 1)) ca, mdenied_eq hm.1]
end SE
