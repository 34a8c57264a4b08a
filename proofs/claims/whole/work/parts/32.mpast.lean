/-! THE REFERENCE's YEAR: a day, all days -/
theorem moves_at {D : Nat → Nat → Int32} {ai fl : Nat → Int32} {d n u : Nat} {x : qY} : (n ≤ u → (q_it (q_move D ai fl d) n x).1 u = x.1 u) ∧ (u < n → (ai u < 0 ∧ (q_it (q_move D ai fl d) n x).1 u = x.1 u) ∨ (¬ ai u < 0 ∧ ((q_it (q_move D ai fl d) n x).1 u = -2 ∨ (q_it (q_move D ai fl d) n x).1 u = ai u))) := by
  induction n with
  | zero => exact ⟨fun _ => rfl, fun h => absurd h (Nat.not_lt_zero u)⟩
  | succ n ih =>
    refine ⟨fun h => ?_, fun h => ?_⟩
    · show (q_move D ai fl d n (q_it _ n x)).1 u = x.1 u
      rw [(move_other (by omega) _).1, ih.1 (by omega)]
    · by_cases c : u = n
      · subst c
        have h0 := ih.1 (Nat.le_refl u)
        show (ai u < 0 ∧ (q_move D ai fl d u (q_it _ u x)).1 u = x.1 u) ∨ (¬ ai u < 0 ∧ ((q_move D ai fl d u (q_it _ u x)).1 u = -2 ∨ (q_move D ai fl d u (q_it _ u x)).1 u = ai u))
        by_cases c1 : ai u < 0
        · refine Or.inl ⟨c1, ?_⟩
          unfold q_move
          rw [if_pos c1]
          exact h0
        · refine Or.inr ⟨c1, ?_⟩
          unfold q_move
          rw [if_neg c1]
          split
          · show q_set _ u _ u = -2 ∨ q_set _ u _ u = ai u
            rw [q_set_eq]
            split
            · exact Or.inr rfl
            · split
              · exact Or.inl rfl
              · exact Or.inr rfl
          · exact Or.inl q_set_eq
      · have h1 : (q_it (q_move D ai fl d) (n + 1) x).1 u = (q_it (q_move D ai fl d) n x).1 u := (move_other c _).1
        rw [h1]
        exact ih.2 (by omega)
/-- all are where their routes have them, or lost -/
def qAt (pos : Nat → Nat → Nat) (U d : Nat) (sp : Nat → Int32) : Prop := ∀ u, u < U → sp u = -2 ∨ sp u = w (pos u d)
theorem day_at {D : Nat → Nat → Int32} {P : Nat → Int32} {U S d : Nat} {pos : Nat → Nat → Nat} (hS : S ≤ 8) (hp : ∀ u, u < U → qPos D P S u (pos u)) (hd : d < 20) {x : qY} (h : qAt pos U d x.1) : qAt pos U (d + 1) (q_day D P U d x).1 := by
  intro u hu
  obtain ⟨-, -, hpd⟩ := hp u hu
  obtain ⟨-, hpd⟩ := hpd d hd
  rcases (moves_at (D := D) (ai := q_ai D P x.1 d) (fl := fun k => q_fl D P x.1 U d (k - 6 * d)) (d := d) (n := U) (u := u) (x := x)).2 hu with ⟨h1, h2⟩ | ⟨h1, h2⟩
  · show (q_it _ U x).1 u = -2 ∨ (q_it _ U x).1 u = w (pos u (d + 1))
    rw [h2]
    rcases hpd x.1 (h u hu) with ⟨_, z | z⟩ | ⟨_, z, hz, _⟩
    · exact Or.inl z
    · rw [z]; exact h u hu
    · exfalso
      have : q_ai D P x.1 d u = w (pos u (d + 1)) := z
      rw [this] at h1
      exact w_nn (by omega) h1
  · show (q_it _ U x).1 u = -2 ∨ (q_it _ U x).1 u = w (pos u (d + 1))
    rcases h2 with h2 | h2
    · exact Or.inl h2
    · rw [h2]
      rcases hpd x.1 (h u hu) with ⟨z, _⟩ | ⟨_, z, _⟩
      · exact absurd (by show q_ai D P x.1 d u < 0; rw [show q_ai D P x.1 d u = -1 from z]; exact m1_lt) h1
      · exact Or.inr z
theorem at_md {D : Nat → Nat → Int32} {P : Nat → Int32} {U S d : Nat} {pos : Nat → Nat → Nat} (hp : ∀ u, u < U → qPos D P S u (pos u)) (hd : d < 20) {sp : Nat → Int32} (h : qAt pos U d sp) : ∀ u, u < U → qMD D P sp S u d := by
  intro u hu
  obtain ⟨-, -, hpd⟩ := hp u hu
  obtain ⟨h0, hpd⟩ := hpd d hd
  rcases h u hu with z | z
  · exact Or.inl z
  · refine Or.inr ⟨pos u d, z, h0, ?_⟩
    rcases hpd sp (Or.inr z) with ⟨h1, _⟩ | ⟨_, h1, h2, h3⟩
    · exact Or.inl h1
    · exact Or.inr ⟨_, h2, h1, h3⟩
section MP
variable {I : qI} {L : qL} {s : qS} {m f : Nat} {D : Nat → Nat → Int32} {P : Nat → Int32} {U S dn : Nat} {xi xl xp xs xf xa xt : Nat → Int32} {sd : Int32}
theorem mflocks_loop (hm : qMF s m f) (hdis : f + 24 ≤ m ∨ m + 19 ≤ f) (hR : qMR I m f D P U S dn) {d : Nat} {dr : Int32} (hd : d < 20) (hsp : ∀ u, u < U → qMD D P xi S u d) :
    jd 242 4 [some (.ref m), some (.int dr), some (.int (w d)), some (.int (w 0))] [] (q_mm I m xi xl xp xs xf xa xt sd, L, s) = jd 242 4 [some (.ref m), some (.int dr), some (.int (w d)), some (.int (w U))] [] (q_mm I m xi xl xp xs (fun k => if 6 * d ≤ k ∧ k < 6 * d + U then q_fl D P xi U d (k - 6 * d) else xf k) xa xt sd, L, s) := by
  obtain ⟨hU5, hU⟩ := mU hR
  obtain ⟨J1, e1, h1⟩ := q_loopE (P := fun i (J : qI) => J = q_mm I m xi xl xp xs (fun k => if 6 * d ≤ k ∧ k < 6 * d + i then q_fl D P xi U d (k - 6 * d) else xf k) xa xt sd) (F := fun i J => jd 242 4 [some (.ref m), some (.int dr), some (.int (w d)), some (.int (w i))] [] (J, L, s)) (n := U) (fun i J hi hJ => by
    refine ⟨_, ?_, rfl⟩
    subst hJ
    show jd 242 4 _ _ _ = _
    have hR' := mm_mr (xi := xi) (xl := xl) (xp := xp) (xs := xs) (xf := fun k => if 6 * d ≤ k ∧ k < 6 * d + i then q_fl D P xi U d (k - 6 * d) else xf k) (xa := xa) (xt := xt) (sd := sd) hdis hR
    have h5 : q_mm I m xi xl xp xs (fun k => if 6 * d ≤ k ∧ k < 6 * d + i then q_fl D P xi U d (k - 6 * d) else xf k) xa xt sd f 5 = w U := (mU hR').1
    have hfl := mFlock_eq (L := L) hm hR' hi hd (by rw [q_mm_xi]; exact hsp)
    rw [q_mm_xi] at hfl
    rw [E_242_4]
    simp only [show (6 : Int32) = w 6 from rfl, w_mul, w_add, q_i, q_l, q_k, q_r, q_z, q_si, q_sl, jx_lt, jx_ri, jx_rl, jx_rv, if_true, if_false, Nat.reduceLeDiff, Nat.add_one_ne_zero, and_self, true_or, or_true, Nat.reduceEqDiff, or_self, or_false, false_or, mo_k hm.1, mo_r5 hm.1, mo_k5 hm.1, mo_z5 hm.1, mo_r16 hm.1, mo_k16 hm.1, mo_z16 hm.1, mo_r17 hm.1, mo_k17 hm.1, mo_z17 hm.1, mo_r18 hm.1, mo_k18 hm.1, mo_z18 hm.1, mo_r21 hm.1, mo_k21 hm.1, mo_z21 hm.1, mo_r22 hm.1, mo_k22 hm.1, mo_z22 hm.1, mo_r23 hm.1, mo_k23 hm.1, mo_z23 hm.1, mo_r24 hm.1, mo_k24 hm.1, mo_z24 hm.1, mo_r25 hm.1, mo_k25 hm.1, mo_z25 hm.1, mo_r26 hm.1, mo_k26 hm.1, mo_z26 hm.1, mo_r27 hm.1, mo_k27 hm.1, mo_z27 hm.1, mo_r29 hm.1, mo_k29 hm.1, mo_z29 hm.1, mo_r30 hm.1, mo_k30 hm.1, mo_z30 hm.1, mo_r31 hm.1, mo_k31 hm.1, mo_z31 hm.1, mo_r32 hm.1, mo_k32 hm.1, mo_z32 hm.1, mo_r40 hm.1, mo_k40 hm.1, mo_z40 hm.1, mo_r43 hm.1, mo_k43 hm.1, mo_z43 hm.1, mo_r44 hm.1, mo_k44 hm.1, mo_z44 hm.1, mf_k hm.2.1, mf_r14 hm.2.1, mf_k14 hm.2.1, mf_z14 hm.2.1, mf_r15 hm.2.1, mf_k15 hm.2.1, mf_z15 hm.2.1, mf_r16 hm.2.1, mf_k16 hm.2.1, mf_z16 hm.2.1, mf_r17 hm.2.1, mf_k17 hm.2.1, mf_z17 hm.2.1, mf_r18 hm.2.1, mf_k18 hm.2.1, mf_z18 hm.2.1, mf_r19 hm.2.1, mf_k19 hm.2.1, mf_z19 hm.2.1, mf_r20 hm.2.1, mf_k20 hm.2.1, mf_z20 hm.2.1, mf_r21 hm.2.1, mf_k21 hm.2.1, mf_z21 hm.2.1, mf_r22 hm.2.1, mf_k22 hm.2.1, mf_z22 hm.2.1, mf_r23 hm.2.1, mf_k23 hm.2.1, mf_z23 hm.2.1, mf_r24 hm.2.1, mf_k24 hm.2.1, mf_z24 hm.2.1, mf_r25 hm.2.1, mf_k25 hm.2.1, mf_z25 hm.2.1, mf_r26 hm.2.1, mf_k26 hm.2.1, mf_z26 hm.2.1, mf_r27 hm.2.1, mf_k27 hm.2.1, mf_z27 hm.2.1, mf_r28 hm.2.1, mf_k28 hm.2.1, mf_z28 hm.2.1, mf_r29 hm.2.1, mf_k29 hm.2.1, mf_z29 hm.2.1, mf_r30 hm.2.1, mf_k30 hm.2.1, mf_z30 hm.2.1, mf_r31 hm.2.1, mf_k31 hm.2.1, mf_z31 hm.2.1, mf_r32 hm.2.1, mf_k32 hm.2.1, mf_z32 hm.2.1, mf_r33 hm.2.1, mf_k33 hm.2.1, mf_z33 hm.2.1, mf_r34 hm.2.1, mf_k34 hm.2.1, mf_z34 hm.2.1, mf_r35 hm.2.1, mf_k35 hm.2.1, mf_z35 hm.2.1, mf_r36 hm.2.1, mf_k36 hm.2.1, mf_z36 hm.2.1, hm.2.2.1, hm.2.2.2, w_nn (a := 6 * d + i) (by omega), show ¬ 120 ≤ 6 * d + i by omega, w_tc (a := 6 * d + i) (by omega), h5, hfl, q_mm_o, q_mm_xi, q_mm_xl, q_mm_xp, q_mm_xs, q_mm_xf, q_mm_xa, q_mm_xt, q_mm_uxi, q_mm_uxl, q_mm_uxp, q_mm_uxs, q_mm_uxf, q_mm_uxa, q_mm_uxt, q_mm_usd, q_mm_gsd, w_inc]
    rw [if_neg (by rw [w_le (by omega) (by omega)]; omega), ← q_grow, Nat.add_sub_cancel_left]) (q_mm I m xi xl xp xs xf xa xt sd) (by rw [q_grow0])
  subst h1
  exact e1
theorem mfly_loop (hm : qMF s m f) (hdis : f + 24 ≤ m ∨ m + 19 ≤ f) (hR : qMR I m f D P U S dn) {d : Nat} {dr sdc : Int32} (hd : d < 20) (hsp : ∀ u, u < U → qMD D P xi S u d) (hxf : ∀ u, u < U → xf (6 * d + u) = q_fl D P xi U d u) (hsd : qSd dr sd sdc) :
    ∃ sd', jd 242 6 [some (.ref m), some (.int dr), some (.int (w d)), some (.int (w 0))] [] (q_mm I m xi xl xp xs xf xa xt sd, L, s) = jd 242 6 [some (.ref m), some (.int dr), some (.int (w d)), some (.int (w U))] [] (q_mm I m xi (q_day D P U d (xi, xl, xa, sdc)).2.1 xp xs xf (q_day D P U d (xi, xl, xa, sdc)).2.2.1 (fun k => if 0 ≤ k ∧ k < 0 + U then (q_day D P U d (xi, xl, xa, sdc)).1 k else xt k) sd', L, s) ∧ qSd dr sd' (q_day D P U d (xi, xl, xa, sdc)).2.2.2 := by
  obtain ⟨hU5, hU⟩ := mU hR
  have hS := hR.1.2.2.2.1
  obtain ⟨J1, e1, sd1, h1, h2⟩ := q_loopE (P := fun i (J : qI) => ∃ sd', J = q_mm I m xi (q_it (q_move D (q_ai D P xi d) (fun k => q_fl D P xi U d (k - 6 * d)) d) i (xi, xl, xa, sdc)).2.1 xp xs xf (q_it (q_move D (q_ai D P xi d) (fun k => q_fl D P xi U d (k - 6 * d)) d) i (xi, xl, xa, sdc)).2.2.1 (fun k => if 0 ≤ k ∧ k < 0 + i then (q_it (q_move D (q_ai D P xi d) (fun k => q_fl D P xi U d (k - 6 * d)) d) i (xi, xl, xa, sdc)).1 k else xt k) sd' ∧ qSd dr sd' (q_it (q_move D (q_ai D P xi d) (fun k => q_fl D P xi U d (k - 6 * d)) d) i (xi, xl, xa, sdc)).2.2.2)
    (F := fun i J => jd 242 6 [some (.ref m), some (.int dr), some (.int (w d)), some (.int (w i))] [] (J, L, s)) (n := U) (fun i J hi hJ => by
    obtain ⟨sd1, rfl, hs1⟩ := hJ
    have hx0 : (q_it (q_move D (q_ai D P xi d) (fun k => q_fl D P xi U d (k - 6 * d)) d) i (xi, xl, xa, sdc)).1 i = xi i := (moves_at (x := (xi, xl, xa, sdc))).1 (Nat.le_refl i)
    generalize hz : q_it (q_move D (q_ai D P xi d) (fun k => q_fl D P xi U d (k - 6 * d)) d) i (xi, xl, xa, sdc) = z at hs1 hx0
    have hz1 : q_it (q_move D (q_ai D P xi d) (fun k => q_fl D P xi U d (k - 6 * d)) d) (i + 1) (xi, xl, xa, sdc) = q_move D (q_ai D P xi d) (fun k => q_fl D P xi U d (k - 6 * d)) d i z := by rw [← hz]; rfl
    rw [hz1]
    obtain ⟨z1, z2, z3, z4⟩ := z
    have hto : ∃ a, q_ai D P xi d i = -1 ∨ (xi i = w a ∧ a < S ∧ ∃ b N, q_ai D P xi d i = w b ∧ b < S ∧ ¬ D 2 (8 * a + b) < 0 ∧ q_fl D P xi U d i = w N ∧ N < 64 ∧ N / 2 ^ i % 2 = 1 ∧ ∀ k, k < 6 → N / 2 ^ k % 2 = 1 → k < U) := by
      rcases hsp i hi with z | ⟨a, ha, ha9, z | ⟨b, hb, z, hway⟩⟩
      · exact ⟨0, Or.inl (aim_m2 z)⟩
      · exact ⟨0, Or.inl z⟩
      · refine ⟨a, Or.inr ⟨ha, ha9, b, _, z, hb, hway, flock_mask hU (by rw [show q_ai D P xi d i = w b from z]; exact w_nn (by omega)), ?_, ?_, fun k hk hbit => ?_⟩⟩
        · exact Nat.lt_of_lt_of_le (mask_lt _ U) (Nat.pow_le_pow_right (n := 2) (by omega) hU)
        · rw [mask_bit, if_pos ⟨hi, decide_eq_true ⟨rfl, rfl⟩⟩]
        · rw [mask_bit] at hbit
          by_cases c : k < U
          · exact c
          · rw [if_neg (fun z => c z.1)] at hbit; cases hbit
    obtain ⟨a, hto⟩ := hto
    obtain ⟨sd2, e2, hs2⟩ := mFlown_eq (L := L) (s := s) (xi := xi) (xl := z2) (xp := xp) (xs := xs) (xf := xf) (xa := z3) (xt := fun k => if 0 ≤ k ∧ k < 0 + i then z1 k else xt k) (sd := sd1) hm hdis hR (u := i) (d := d) (a := a) (dr := dr) (to := q_ai D P xi d i) (fl := q_fl D P xi U d i) (sdc := z4) (ai := q_ai D P xi d) (fv := fun k => q_fl D P xi U d (k - 6 * d)) (x1 := z1) hi hd hs1 hx0 rfl (by rw [Nat.add_sub_cancel_left]) hto
    have hR' := mm_mr (xi := xi) (xl := z2) (xp := xp) (xs := xs) (xf := xf) (xa := z3) (xt := fun k => if 0 ≤ k ∧ k < 0 + i then z1 k else xt k) (sd := sd1) hdis hR
    have h5 : q_mm I m xi z2 xp xs xf z3 (fun k => if 0 ≤ k ∧ k < 0 + i then z1 k else xt k) sd1 f 5 = w U := (mU hR').1
    have hnx := mNext (L := L) (s := s) hm hR' hi hd (by rw [q_mm_xi]; exact hsp i hi)
    rw [q_mm_xi] at hnx
    have hnx' : jD 239 [.ref m, .int (w i), .int (w d)] (q_mm I m xi z2 xp xs xf z3 (fun k => if 0 ≤ k ∧ k < 0 + i then z1 k else xt k) sd1, L, s) = some (some (.int (q_ai D P xi d i)), q_mm I m xi z2 xp xs xf z3 (fun k => if 0 ≤ k ∧ k < 0 + i then z1 k else xt k) sd1, L, s) := hnx
    refine ⟨_, ?_, sd2, rfl, hs2⟩
    show jd 242 6 _ _ _ = jd 242 6 _ _ _
    rw [E_242_6]
    simp only [show (6 : Int32) = w 6 from rfl, w_mul, w_add, q_i, q_l, q_k, q_r, q_z, q_si, q_sl, jx_lt, jx_ri, jx_rl, jx_rv, if_true, if_false, Nat.reduceLeDiff, Nat.add_one_ne_zero, and_self, true_or, or_true, Nat.reduceEqDiff, or_self, or_false, false_or, mo_k hm.1, mo_r5 hm.1, mo_k5 hm.1, mo_z5 hm.1, mo_r16 hm.1, mo_k16 hm.1, mo_z16 hm.1, mo_r17 hm.1, mo_k17 hm.1, mo_z17 hm.1, mo_r18 hm.1, mo_k18 hm.1, mo_z18 hm.1, mo_r21 hm.1, mo_k21 hm.1, mo_z21 hm.1, mo_r22 hm.1, mo_k22 hm.1, mo_z22 hm.1, mo_r23 hm.1, mo_k23 hm.1, mo_z23 hm.1, mo_r24 hm.1, mo_k24 hm.1, mo_z24 hm.1, mo_r25 hm.1, mo_k25 hm.1, mo_z25 hm.1, mo_r26 hm.1, mo_k26 hm.1, mo_z26 hm.1, mo_r27 hm.1, mo_k27 hm.1, mo_z27 hm.1, mo_r29 hm.1, mo_k29 hm.1, mo_z29 hm.1, mo_r30 hm.1, mo_k30 hm.1, mo_z30 hm.1, mo_r31 hm.1, mo_k31 hm.1, mo_z31 hm.1, mo_r32 hm.1, mo_k32 hm.1, mo_z32 hm.1, mo_r40 hm.1, mo_k40 hm.1, mo_z40 hm.1, mo_r43 hm.1, mo_k43 hm.1, mo_z43 hm.1, mo_r44 hm.1, mo_k44 hm.1, mo_z44 hm.1, mf_k hm.2.1, mf_r14 hm.2.1, mf_k14 hm.2.1, mf_z14 hm.2.1, mf_r15 hm.2.1, mf_k15 hm.2.1, mf_z15 hm.2.1, mf_r16 hm.2.1, mf_k16 hm.2.1, mf_z16 hm.2.1, mf_r17 hm.2.1, mf_k17 hm.2.1, mf_z17 hm.2.1, mf_r18 hm.2.1, mf_k18 hm.2.1, mf_z18 hm.2.1, mf_r19 hm.2.1, mf_k19 hm.2.1, mf_z19 hm.2.1, mf_r20 hm.2.1, mf_k20 hm.2.1, mf_z20 hm.2.1, mf_r21 hm.2.1, mf_k21 hm.2.1, mf_z21 hm.2.1, mf_r22 hm.2.1, mf_k22 hm.2.1, mf_z22 hm.2.1, mf_r23 hm.2.1, mf_k23 hm.2.1, mf_z23 hm.2.1, mf_r24 hm.2.1, mf_k24 hm.2.1, mf_z24 hm.2.1, mf_r25 hm.2.1, mf_k25 hm.2.1, mf_z25 hm.2.1, mf_r26 hm.2.1, mf_k26 hm.2.1, mf_z26 hm.2.1, mf_r27 hm.2.1, mf_k27 hm.2.1, mf_z27 hm.2.1, mf_r28 hm.2.1, mf_k28 hm.2.1, mf_z28 hm.2.1, mf_r29 hm.2.1, mf_k29 hm.2.1, mf_z29 hm.2.1, mf_r30 hm.2.1, mf_k30 hm.2.1, mf_z30 hm.2.1, mf_r31 hm.2.1, mf_k31 hm.2.1, mf_z31 hm.2.1, mf_r32 hm.2.1, mf_k32 hm.2.1, mf_z32 hm.2.1, mf_r33 hm.2.1, mf_k33 hm.2.1, mf_z33 hm.2.1, mf_r34 hm.2.1, mf_k34 hm.2.1, mf_z34 hm.2.1, mf_r35 hm.2.1, mf_k35 hm.2.1, mf_z35 hm.2.1, mf_r36 hm.2.1, mf_k36 hm.2.1, mf_z36 hm.2.1, hm.2.2.1, hm.2.2.2, w_nn (a := 6 * d + i) (by omega), show ¬ 120 ≤ 6 * d + i by omega, w_tc (a := 6 * d + i) (by omega), w_nn (a := i) (by omega), show ¬ 6 ≤ i by omega, w_tc (a := i) (by omega), h5, hnx', q_mm_o, q_mm_xi, q_mm_xl, q_mm_xp, q_mm_xs, q_mm_xf, q_mm_xa, q_mm_xt, q_mm_uxi, q_mm_uxl, q_mm_uxp, q_mm_uxs, q_mm_uxf, q_mm_uxa, q_mm_uxt, q_mm_usd, q_mm_gsd, hxf i hi, e2, w_inc]
    rw [if_neg (by rw [w_le (by omega) (by omega)]; omega)]
    have eg : q_set (fun k => if 0 ≤ k ∧ k < 0 + i then z1 k else xt k) i ((q_move D (q_ai D P xi d) (fun k => q_fl D P xi U d (k - 6 * d)) d i (z1, z2, z3, z4)).1 i) = fun k => if 0 ≤ k ∧ k < 0 + (i + 1) then (q_move D (q_ai D P xi d) (fun k => q_fl D P xi U d (k - 6 * d)) d i (z1, z2, z3, z4)).1 k else xt k := by
      have := q_growv (f := xt) (g := z1) (g' := (q_move D (q_ai D P xi d) (fun k => q_fl D P xi U d (k - 6 * d)) d i (z1, z2, z3, z4)).1) (b := 0) (i := i) (v := (q_move D (q_ai D P xi d) (fun k => q_fl D P xi U d (k - 6 * d)) d i (z1, z2, z3, z4)).1 i) (by rw [Nat.zero_add]) (fun k _ hk => ((move_other (show k ≠ i by omega) (z1, z2, z3, z4)).1).symm)
      rw [Nat.zero_add] at this
      rw [Nat.zero_add]
      exact this
    rw [eg]) (q_mm I m xi xl xp xs xf xa xt sd) ⟨sd, by rw [show (fun k => if 0 ≤ k ∧ k < 0 + 0 then _ else xt k) = xt from q_grow0]; rfl, hsd⟩
  subst h1
  exact ⟨sd1, e1, h2⟩
theorem mcommit_loop (hm : qMF s m f) (hdis : f + 24 ≤ m ∨ m + 19 ≤ f) (hR : qMR I m f D P U S dn) {d : Nat} {dr : Int32} (hd : d < 20) :
    jd 242 8 [some (.ref m), some (.int dr), some (.int (w d)), some (.int (w 0))] [] (q_mm I m xi xl xp xs xf xa xt sd, L, s) = jd 242 8 [some (.ref m), some (.int dr), some (.int (w d)), some (.int (w U))] [] (q_mm I m (fun k => if 0 ≤ k ∧ k < 0 + U then xt k else xi k) xl (fun k => if 6 * d ≤ k ∧ k < 6 * d + U then xt (k - 6 * d) else xp k) (fun k => if 6 * d ≤ k ∧ k < 6 * d + U then xl (k - 6 * d) else xs k) xf xa xt sd, L, s) := by
  obtain ⟨hU5, hU⟩ := mU hR
  obtain ⟨J1, e1, h1⟩ := q_loopE (P := fun i (J : qI) => J = q_mm I m (fun k => if 0 ≤ k ∧ k < 0 + i then xt k else xi k) xl (fun k => if 6 * d ≤ k ∧ k < 6 * d + i then xt (k - 6 * d) else xp k) (fun k => if 6 * d ≤ k ∧ k < 6 * d + i then xl (k - 6 * d) else xs k) xf xa xt sd) (F := fun i J => jd 242 8 [some (.ref m), some (.int dr), some (.int (w d)), some (.int (w i))] [] (J, L, s)) (n := U) (fun i J hi hJ => by
    refine ⟨_, ?_, rfl⟩
    subst hJ
    show jd 242 8 _ _ _ = _
    have h5 := (mU (mm_mr (xi := fun k => if 0 ≤ k ∧ k < 0 + i then xt k else xi k) (xl := xl) (xp := fun k => if 6 * d ≤ k ∧ k < 6 * d + i then xt (k - 6 * d) else xp k) (xs := fun k => if 6 * d ≤ k ∧ k < 6 * d + i then xl (k - 6 * d) else xs k) (xf := xf) (xa := xa) (xt := xt) (sd := sd) hdis hR)).1
    rw [E_242_8]
    simp only [show (6 : Int32) = w 6 from rfl, w_mul, w_add, q_i, q_l, q_k, q_r, q_z, q_si, q_sl, jx_lt, jx_ri, jx_rl, jx_rv, if_true, if_false, Nat.reduceLeDiff, Nat.add_one_ne_zero, and_self, true_or, or_true, Nat.reduceEqDiff, or_self, or_false, false_or, mo_k hm.1, mo_r5 hm.1, mo_k5 hm.1, mo_z5 hm.1, mo_r16 hm.1, mo_k16 hm.1, mo_z16 hm.1, mo_r17 hm.1, mo_k17 hm.1, mo_z17 hm.1, mo_r18 hm.1, mo_k18 hm.1, mo_z18 hm.1, mo_r21 hm.1, mo_k21 hm.1, mo_z21 hm.1, mo_r22 hm.1, mo_k22 hm.1, mo_z22 hm.1, mo_r23 hm.1, mo_k23 hm.1, mo_z23 hm.1, mo_r24 hm.1, mo_k24 hm.1, mo_z24 hm.1, mo_r25 hm.1, mo_k25 hm.1, mo_z25 hm.1, mo_r26 hm.1, mo_k26 hm.1, mo_z26 hm.1, mo_r27 hm.1, mo_k27 hm.1, mo_z27 hm.1, mo_r29 hm.1, mo_k29 hm.1, mo_z29 hm.1, mo_r30 hm.1, mo_k30 hm.1, mo_z30 hm.1, mo_r31 hm.1, mo_k31 hm.1, mo_z31 hm.1, mo_r32 hm.1, mo_k32 hm.1, mo_z32 hm.1, mo_r40 hm.1, mo_k40 hm.1, mo_z40 hm.1, mo_r43 hm.1, mo_k43 hm.1, mo_z43 hm.1, mo_r44 hm.1, mo_k44 hm.1, mo_z44 hm.1, mf_k hm.2.1, mf_r14 hm.2.1, mf_k14 hm.2.1, mf_z14 hm.2.1, mf_r15 hm.2.1, mf_k15 hm.2.1, mf_z15 hm.2.1, mf_r16 hm.2.1, mf_k16 hm.2.1, mf_z16 hm.2.1, mf_r17 hm.2.1, mf_k17 hm.2.1, mf_z17 hm.2.1, mf_r18 hm.2.1, mf_k18 hm.2.1, mf_z18 hm.2.1, mf_r19 hm.2.1, mf_k19 hm.2.1, mf_z19 hm.2.1, mf_r20 hm.2.1, mf_k20 hm.2.1, mf_z20 hm.2.1, mf_r21 hm.2.1, mf_k21 hm.2.1, mf_z21 hm.2.1, mf_r22 hm.2.1, mf_k22 hm.2.1, mf_z22 hm.2.1, mf_r23 hm.2.1, mf_k23 hm.2.1, mf_z23 hm.2.1, mf_r24 hm.2.1, mf_k24 hm.2.1, mf_z24 hm.2.1, mf_r25 hm.2.1, mf_k25 hm.2.1, mf_z25 hm.2.1, mf_r26 hm.2.1, mf_k26 hm.2.1, mf_z26 hm.2.1, mf_r27 hm.2.1, mf_k27 hm.2.1, mf_z27 hm.2.1, mf_r28 hm.2.1, mf_k28 hm.2.1, mf_z28 hm.2.1, mf_r29 hm.2.1, mf_k29 hm.2.1, mf_z29 hm.2.1, mf_r30 hm.2.1, mf_k30 hm.2.1, mf_z30 hm.2.1, mf_r31 hm.2.1, mf_k31 hm.2.1, mf_z31 hm.2.1, mf_r32 hm.2.1, mf_k32 hm.2.1, mf_z32 hm.2.1, mf_r33 hm.2.1, mf_k33 hm.2.1, mf_z33 hm.2.1, mf_r34 hm.2.1, mf_k34 hm.2.1, mf_z34 hm.2.1, mf_r35 hm.2.1, mf_k35 hm.2.1, mf_z35 hm.2.1, mf_r36 hm.2.1, mf_k36 hm.2.1, mf_z36 hm.2.1, hm.2.2.1, hm.2.2.2, w_nn (a := 6 * d + i) (by omega), show ¬ 120 ≤ 6 * d + i by omega, w_tc (a := 6 * d + i) (by omega), w_nn (a := i) (by omega), show ¬ 6 ≤ i by omega, w_tc (a := i) (by omega), h5, q_mm_o, q_mm_xi, q_mm_xl, q_mm_xp, q_mm_xs, q_mm_xf, q_mm_xa, q_mm_xt, q_mm_uxi, q_mm_uxl, q_mm_uxp, q_mm_uxs, q_mm_uxf, q_mm_uxa, q_mm_uxt, q_mm_usd, q_mm_gsd, w_inc]
    rw [if_neg (by rw [w_le (by omega) (by omega)]; omega)]
    have g1 : q_set (fun k => if 0 ≤ k ∧ k < 0 + i then xt k else xi k) i (xt i) = fun k => if 0 ≤ k ∧ k < 0 + (i + 1) then xt k else xi k := by
      have := q_grow (f := xi) (g := xt) (b := 0) (i := i)
      rw [Nat.zero_add] at this
      rw [Nat.zero_add]
      exact this
    have g2 := q_grow (f := xp) (g := fun k => xt (k - 6 * d)) (b := 6 * d) (i := i)
    have g3 := q_grow (f := xs) (g := fun k => xl (k - 6 * d)) (b := 6 * d) (i := i)
    rw [Nat.add_sub_cancel_left] at g2 g3
    have g4 : (fun k => if 0 ≤ k ∧ k < 0 + (i + 1) then xt k else xi k) i = xt i := if_pos (by omega)
    rw [g1, g4, g2, g3]) (q_mm I m xi xl xp xs xf xa xt sd) (by rw [q_grow0, q_grow0, q_grow0])
  subst h1
  exact e1
theorem mday_eq (hm : qMF s m f) (hdis : f + 24 ≤ m ∨ m + 19 ≤ f) (hR : qMR I m f D P U S dn) {d : Nat} {dr sdc : Int32} (hd : d < 20) (hdn : d < dn) (hsp : ∀ u, u < U → qMD D P xi S u d) (hsd : qSd dr sd sdc) :
    ∃ xi' xp' xs' xf' xt' sd', jd 242 3 [some (.ref m), some (.int dr), some (.int (w d)), none] [] (q_mm I m xi xl xp xs xf xa xt sd, L, s) = jd 242 3 [some (.ref m), some (.int dr), some (.int (w (d + 1))), none] [] (q_mm I m xi' (q_day D P U d (xi, xl, xa, sdc)).2.1 xp' xs' xf' (q_day D P U d (xi, xl, xa, sdc)).2.2.1 xt' sd', L, s) ∧ qSd dr sd' (q_day D P U d (xi, xl, xa, sdc)).2.2.2 ∧
      (∀ u, u < U → xi' u = (q_day D P U d (xi, xl, xa, sdc)).1 u ∧ xp' (6 * d + u) = (q_day D P U d (xi, xl, xa, sdc)).1 u ∧ xs' (6 * d + u) = (q_day D P U d (xi, xl, xa, sdc)).2.1 u ∧ xf' (6 * d + u) = q_fl D P xi U d u) ∧ ∀ k, k < 6 * d → xp' k = xp k ∧ xs' k = xs k ∧ xf' k = xf k := by
  have hdn0 : ∀ {xi xl xp xs xf xa xt : Nat → Int32} {sd : Int32}, q_mm I m xi xl xp xs xf xa xt sd f 0 = w dn := fun {xi xl xp xs xf xa xt sd} => by
    have h := mm_mr (xi := xi) (xl := xl) (xp := xp) (xs := xs) (xf := xf) (xa := xa) (xt := xt) (sd := sd) hdis hR
    exact (h.2.2.1.1 0 (by omega)).trans h.1.2.2.2.2.1
  have hU5 : ∀ {xi xl xp xs xf xa xt : Nat → Int32} {sd : Int32}, q_mm I m xi xl xp xs xf xa xt sd f 5 = w U := fun {xi xl xp xs xf xa xt sd} => (mU (mm_mr (xi := xi) (xl := xl) (xp := xp) (xs := xs) (xf := xf) (xa := xa) (xt := xt) (sd := sd) hdis hR)).1
  have hdn9 := hR.1.2.2.2.2.2.2.1
  obtain ⟨sd1, e2, hs1⟩ := mfly_loop (L := L) (xl := xl) (xp := xp) (xs := xs) (xf := fun k => if 6 * d ≤ k ∧ k < 6 * d + U then q_fl D P xi U d (k - 6 * d) else xf k) (xa := xa) (xt := xt) (sd := sd) hm hdis hR hd hsp (fun u hu => by show (if 6 * d ≤ 6 * d + u ∧ 6 * d + u < 6 * d + U then _ else _) = _; rw [if_pos (by omega), Nat.add_sub_cancel_left]) hsd
  generalize hZ : q_day D P U d (xi, xl, xa, sdc) = Z at e2 hs1
  have hXT : ∀ u, u < U → (fun k => if 0 ≤ k ∧ k < 0 + U then Z.1 k else xt k) u = Z.1 u := fun u hu => if_pos (by omega)
  generalize hXe : (fun k => if 0 ≤ k ∧ k < 0 + U then Z.1 k else xt k) = XT at e2 hXT
  refine ⟨fun k => if 0 ≤ k ∧ k < 0 + U then XT k else xi k, fun k => if 6 * d ≤ k ∧ k < 6 * d + U then XT (k - 6 * d) else xp k, fun k => if 6 * d ≤ k ∧ k < 6 * d + U then Z.2.1 (k - 6 * d) else xs k, fun k => if 6 * d ≤ k ∧ k < 6 * d + U then q_fl D P xi U d (k - 6 * d) else xf k, XT, sd1, ?_, hs1, fun u hu => ⟨?_, ?_, ?_, ?_⟩, fun k hk => ⟨?_, ?_, ?_⟩⟩
  · rw [E_242_3]
    simp only [q_i, q_l, q_k, q_r, q_z, q_si, q_sl, jx_lt, jx_ri, jx_rl, jx_rv, if_true, if_false, Nat.reduceLeDiff, Nat.add_one_ne_zero, and_self, true_or, or_true, Nat.reduceEqDiff, or_self, or_false, false_or, mo_k hm.1, mo_r5 hm.1, mo_k5 hm.1, mo_z5 hm.1, mo_r16 hm.1, mo_k16 hm.1, mo_z16 hm.1, mo_r17 hm.1, mo_k17 hm.1, mo_z17 hm.1, mo_r18 hm.1, mo_k18 hm.1, mo_z18 hm.1, mo_r21 hm.1, mo_k21 hm.1, mo_z21 hm.1, mo_r22 hm.1, mo_k22 hm.1, mo_z22 hm.1, mo_r23 hm.1, mo_k23 hm.1, mo_z23 hm.1, mo_r24 hm.1, mo_k24 hm.1, mo_z24 hm.1, mo_r25 hm.1, mo_k25 hm.1, mo_z25 hm.1, mo_r26 hm.1, mo_k26 hm.1, mo_z26 hm.1, mo_r27 hm.1, mo_k27 hm.1, mo_z27 hm.1, mo_r29 hm.1, mo_k29 hm.1, mo_z29 hm.1, mo_r30 hm.1, mo_k30 hm.1, mo_z30 hm.1, mo_r31 hm.1, mo_k31 hm.1, mo_z31 hm.1, mo_r32 hm.1, mo_k32 hm.1, mo_z32 hm.1, mo_r40 hm.1, mo_k40 hm.1, mo_z40 hm.1, mo_r43 hm.1, mo_k43 hm.1, mo_z43 hm.1, mo_r44 hm.1, mo_k44 hm.1, mo_z44 hm.1, mf_k hm.2.1, mf_r14 hm.2.1, mf_k14 hm.2.1, mf_z14 hm.2.1, mf_r15 hm.2.1, mf_k15 hm.2.1, mf_z15 hm.2.1, mf_r16 hm.2.1, mf_k16 hm.2.1, mf_z16 hm.2.1, mf_r17 hm.2.1, mf_k17 hm.2.1, mf_z17 hm.2.1, mf_r18 hm.2.1, mf_k18 hm.2.1, mf_z18 hm.2.1, mf_r19 hm.2.1, mf_k19 hm.2.1, mf_z19 hm.2.1, mf_r20 hm.2.1, mf_k20 hm.2.1, mf_z20 hm.2.1, mf_r21 hm.2.1, mf_k21 hm.2.1, mf_z21 hm.2.1, mf_r22 hm.2.1, mf_k22 hm.2.1, mf_z22 hm.2.1, mf_r23 hm.2.1, mf_k23 hm.2.1, mf_z23 hm.2.1, mf_r24 hm.2.1, mf_k24 hm.2.1, mf_z24 hm.2.1, mf_r25 hm.2.1, mf_k25 hm.2.1, mf_z25 hm.2.1, mf_r26 hm.2.1, mf_k26 hm.2.1, mf_z26 hm.2.1, mf_r27 hm.2.1, mf_k27 hm.2.1, mf_z27 hm.2.1, mf_r28 hm.2.1, mf_k28 hm.2.1, mf_z28 hm.2.1, mf_r29 hm.2.1, mf_k29 hm.2.1, mf_z29 hm.2.1, mf_r30 hm.2.1, mf_k30 hm.2.1, mf_z30 hm.2.1, mf_r31 hm.2.1, mf_k31 hm.2.1, mf_z31 hm.2.1, mf_r32 hm.2.1, mf_k32 hm.2.1, mf_z32 hm.2.1, mf_r33 hm.2.1, mf_k33 hm.2.1, mf_z33 hm.2.1, mf_r34 hm.2.1, mf_k34 hm.2.1, mf_z34 hm.2.1, mf_r35 hm.2.1, mf_k35 hm.2.1, mf_z35 hm.2.1, mf_r36 hm.2.1, mf_k36 hm.2.1, mf_z36 hm.2.1, hm.2.2.1, hm.2.2.2, hdn0]
    rw [if_neg (by rw [w_le (by omega) (by omega)]; omega), show (0 : Int32) = w 0 from rfl, mflocks_loop hm hdis hR hd hsp, E_242_4]
    simp only [q_i, q_l, q_k, q_r, q_z, q_si, q_sl, jx_lt, jx_ri, jx_rl, jx_rv, if_true, if_false, Nat.reduceLeDiff, Nat.add_one_ne_zero, and_self, true_or, or_true, Nat.reduceEqDiff, or_self, or_false, false_or, mo_k hm.1, mo_r5 hm.1, mo_k5 hm.1, mo_z5 hm.1, mo_r16 hm.1, mo_k16 hm.1, mo_z16 hm.1, mo_r17 hm.1, mo_k17 hm.1, mo_z17 hm.1, mo_r18 hm.1, mo_k18 hm.1, mo_z18 hm.1, mo_r21 hm.1, mo_k21 hm.1, mo_z21 hm.1, mo_r22 hm.1, mo_k22 hm.1, mo_z22 hm.1, mo_r23 hm.1, mo_k23 hm.1, mo_z23 hm.1, mo_r24 hm.1, mo_k24 hm.1, mo_z24 hm.1, mo_r25 hm.1, mo_k25 hm.1, mo_z25 hm.1, mo_r26 hm.1, mo_k26 hm.1, mo_z26 hm.1, mo_r27 hm.1, mo_k27 hm.1, mo_z27 hm.1, mo_r29 hm.1, mo_k29 hm.1, mo_z29 hm.1, mo_r30 hm.1, mo_k30 hm.1, mo_z30 hm.1, mo_r31 hm.1, mo_k31 hm.1, mo_z31 hm.1, mo_r32 hm.1, mo_k32 hm.1, mo_z32 hm.1, mo_r40 hm.1, mo_k40 hm.1, mo_z40 hm.1, mo_r43 hm.1, mo_k43 hm.1, mo_z43 hm.1, mo_r44 hm.1, mo_k44 hm.1, mo_z44 hm.1, mf_k hm.2.1, mf_r14 hm.2.1, mf_k14 hm.2.1, mf_z14 hm.2.1, mf_r15 hm.2.1, mf_k15 hm.2.1, mf_z15 hm.2.1, mf_r16 hm.2.1, mf_k16 hm.2.1, mf_z16 hm.2.1, mf_r17 hm.2.1, mf_k17 hm.2.1, mf_z17 hm.2.1, mf_r18 hm.2.1, mf_k18 hm.2.1, mf_z18 hm.2.1, mf_r19 hm.2.1, mf_k19 hm.2.1, mf_z19 hm.2.1, mf_r20 hm.2.1, mf_k20 hm.2.1, mf_z20 hm.2.1, mf_r21 hm.2.1, mf_k21 hm.2.1, mf_z21 hm.2.1, mf_r22 hm.2.1, mf_k22 hm.2.1, mf_z22 hm.2.1, mf_r23 hm.2.1, mf_k23 hm.2.1, mf_z23 hm.2.1, mf_r24 hm.2.1, mf_k24 hm.2.1, mf_z24 hm.2.1, mf_r25 hm.2.1, mf_k25 hm.2.1, mf_z25 hm.2.1, mf_r26 hm.2.1, mf_k26 hm.2.1, mf_z26 hm.2.1, mf_r27 hm.2.1, mf_k27 hm.2.1, mf_z27 hm.2.1, mf_r28 hm.2.1, mf_k28 hm.2.1, mf_z28 hm.2.1, mf_r29 hm.2.1, mf_k29 hm.2.1, mf_z29 hm.2.1, mf_r30 hm.2.1, mf_k30 hm.2.1, mf_z30 hm.2.1, mf_r31 hm.2.1, mf_k31 hm.2.1, mf_z31 hm.2.1, mf_r32 hm.2.1, mf_k32 hm.2.1, mf_z32 hm.2.1, mf_r33 hm.2.1, mf_k33 hm.2.1, mf_z33 hm.2.1, mf_r34 hm.2.1, mf_k34 hm.2.1, mf_z34 hm.2.1, mf_r35 hm.2.1, mf_k35 hm.2.1, mf_z35 hm.2.1, mf_r36 hm.2.1, mf_k36 hm.2.1, mf_z36 hm.2.1, hm.2.2.1, hm.2.2.2, hU5]
    rw [if_pos (Int32.le_refl _), E_242_5, show (0 : Int32) = w 0 from rfl, e2, E_242_6]
    simp only [q_i, q_l, q_k, q_r, q_z, q_si, q_sl, jx_lt, jx_ri, jx_rl, jx_rv, if_true, if_false, Nat.reduceLeDiff, Nat.add_one_ne_zero, and_self, true_or, or_true, Nat.reduceEqDiff, or_self, or_false, false_or, mo_k hm.1, mo_r5 hm.1, mo_k5 hm.1, mo_z5 hm.1, mo_r16 hm.1, mo_k16 hm.1, mo_z16 hm.1, mo_r17 hm.1, mo_k17 hm.1, mo_z17 hm.1, mo_r18 hm.1, mo_k18 hm.1, mo_z18 hm.1, mo_r21 hm.1, mo_k21 hm.1, mo_z21 hm.1, mo_r22 hm.1, mo_k22 hm.1, mo_z22 hm.1, mo_r23 hm.1, mo_k23 hm.1, mo_z23 hm.1, mo_r24 hm.1, mo_k24 hm.1, mo_z24 hm.1, mo_r25 hm.1, mo_k25 hm.1, mo_z25 hm.1, mo_r26 hm.1, mo_k26 hm.1, mo_z26 hm.1, mo_r27 hm.1, mo_k27 hm.1, mo_z27 hm.1, mo_r29 hm.1, mo_k29 hm.1, mo_z29 hm.1, mo_r30 hm.1, mo_k30 hm.1, mo_z30 hm.1, mo_r31 hm.1, mo_k31 hm.1, mo_z31 hm.1, mo_r32 hm.1, mo_k32 hm.1, mo_z32 hm.1, mo_r40 hm.1, mo_k40 hm.1, mo_z40 hm.1, mo_r43 hm.1, mo_k43 hm.1, mo_z43 hm.1, mo_r44 hm.1, mo_k44 hm.1, mo_z44 hm.1, mf_k hm.2.1, mf_r14 hm.2.1, mf_k14 hm.2.1, mf_z14 hm.2.1, mf_r15 hm.2.1, mf_k15 hm.2.1, mf_z15 hm.2.1, mf_r16 hm.2.1, mf_k16 hm.2.1, mf_z16 hm.2.1, mf_r17 hm.2.1, mf_k17 hm.2.1, mf_z17 hm.2.1, mf_r18 hm.2.1, mf_k18 hm.2.1, mf_z18 hm.2.1, mf_r19 hm.2.1, mf_k19 hm.2.1, mf_z19 hm.2.1, mf_r20 hm.2.1, mf_k20 hm.2.1, mf_z20 hm.2.1, mf_r21 hm.2.1, mf_k21 hm.2.1, mf_z21 hm.2.1, mf_r22 hm.2.1, mf_k22 hm.2.1, mf_z22 hm.2.1, mf_r23 hm.2.1, mf_k23 hm.2.1, mf_z23 hm.2.1, mf_r24 hm.2.1, mf_k24 hm.2.1, mf_z24 hm.2.1, mf_r25 hm.2.1, mf_k25 hm.2.1, mf_z25 hm.2.1, mf_r26 hm.2.1, mf_k26 hm.2.1, mf_z26 hm.2.1, mf_r27 hm.2.1, mf_k27 hm.2.1, mf_z27 hm.2.1, mf_r28 hm.2.1, mf_k28 hm.2.1, mf_z28 hm.2.1, mf_r29 hm.2.1, mf_k29 hm.2.1, mf_z29 hm.2.1, mf_r30 hm.2.1, mf_k30 hm.2.1, mf_z30 hm.2.1, mf_r31 hm.2.1, mf_k31 hm.2.1, mf_z31 hm.2.1, mf_r32 hm.2.1, mf_k32 hm.2.1, mf_z32 hm.2.1, mf_r33 hm.2.1, mf_k33 hm.2.1, mf_z33 hm.2.1, mf_r34 hm.2.1, mf_k34 hm.2.1, mf_z34 hm.2.1, mf_r35 hm.2.1, mf_k35 hm.2.1, mf_z35 hm.2.1, mf_r36 hm.2.1, mf_k36 hm.2.1, mf_z36 hm.2.1, hm.2.2.1, hm.2.2.2, hU5]
    rw [if_pos (Int32.le_refl _), E_242_7, show (0 : Int32) = w 0 from rfl, mcommit_loop hm hdis hR hd, E_242_8]
    simp only [q_i, q_l, q_k, q_r, q_z, q_si, q_sl, jx_lt, jx_ri, jx_rl, jx_rv, if_true, if_false, Nat.reduceLeDiff, Nat.add_one_ne_zero, and_self, true_or, or_true, Nat.reduceEqDiff, or_self, or_false, false_or, mo_k hm.1, mo_r5 hm.1, mo_k5 hm.1, mo_z5 hm.1, mo_r16 hm.1, mo_k16 hm.1, mo_z16 hm.1, mo_r17 hm.1, mo_k17 hm.1, mo_z17 hm.1, mo_r18 hm.1, mo_k18 hm.1, mo_z18 hm.1, mo_r21 hm.1, mo_k21 hm.1, mo_z21 hm.1, mo_r22 hm.1, mo_k22 hm.1, mo_z22 hm.1, mo_r23 hm.1, mo_k23 hm.1, mo_z23 hm.1, mo_r24 hm.1, mo_k24 hm.1, mo_z24 hm.1, mo_r25 hm.1, mo_k25 hm.1, mo_z25 hm.1, mo_r26 hm.1, mo_k26 hm.1, mo_z26 hm.1, mo_r27 hm.1, mo_k27 hm.1, mo_z27 hm.1, mo_r29 hm.1, mo_k29 hm.1, mo_z29 hm.1, mo_r30 hm.1, mo_k30 hm.1, mo_z30 hm.1, mo_r31 hm.1, mo_k31 hm.1, mo_z31 hm.1, mo_r32 hm.1, mo_k32 hm.1, mo_z32 hm.1, mo_r40 hm.1, mo_k40 hm.1, mo_z40 hm.1, mo_r43 hm.1, mo_k43 hm.1, mo_z43 hm.1, mo_r44 hm.1, mo_k44 hm.1, mo_z44 hm.1, mf_k hm.2.1, mf_r14 hm.2.1, mf_k14 hm.2.1, mf_z14 hm.2.1, mf_r15 hm.2.1, mf_k15 hm.2.1, mf_z15 hm.2.1, mf_r16 hm.2.1, mf_k16 hm.2.1, mf_z16 hm.2.1, mf_r17 hm.2.1, mf_k17 hm.2.1, mf_z17 hm.2.1, mf_r18 hm.2.1, mf_k18 hm.2.1, mf_z18 hm.2.1, mf_r19 hm.2.1, mf_k19 hm.2.1, mf_z19 hm.2.1, mf_r20 hm.2.1, mf_k20 hm.2.1, mf_z20 hm.2.1, mf_r21 hm.2.1, mf_k21 hm.2.1, mf_z21 hm.2.1, mf_r22 hm.2.1, mf_k22 hm.2.1, mf_z22 hm.2.1, mf_r23 hm.2.1, mf_k23 hm.2.1, mf_z23 hm.2.1, mf_r24 hm.2.1, mf_k24 hm.2.1, mf_z24 hm.2.1, mf_r25 hm.2.1, mf_k25 hm.2.1, mf_z25 hm.2.1, mf_r26 hm.2.1, mf_k26 hm.2.1, mf_z26 hm.2.1, mf_r27 hm.2.1, mf_k27 hm.2.1, mf_z27 hm.2.1, mf_r28 hm.2.1, mf_k28 hm.2.1, mf_z28 hm.2.1, mf_r29 hm.2.1, mf_k29 hm.2.1, mf_z29 hm.2.1, mf_r30 hm.2.1, mf_k30 hm.2.1, mf_z30 hm.2.1, mf_r31 hm.2.1, mf_k31 hm.2.1, mf_z31 hm.2.1, mf_r32 hm.2.1, mf_k32 hm.2.1, mf_z32 hm.2.1, mf_r33 hm.2.1, mf_k33 hm.2.1, mf_z33 hm.2.1, mf_r34 hm.2.1, mf_k34 hm.2.1, mf_z34 hm.2.1, mf_r35 hm.2.1, mf_k35 hm.2.1, mf_z35 hm.2.1, mf_r36 hm.2.1, mf_k36 hm.2.1, mf_z36 hm.2.1, hm.2.2.1, hm.2.2.2, hU5]
    rw [if_pos (Int32.le_refl _), E_242_9, w_inc]
  · show (if 0 ≤ u ∧ u < 0 + U then XT u else xi u) = _
    rw [if_pos (by omega)]; exact hXT u hu
  · show (if 6 * d ≤ 6 * d + u ∧ 6 * d + u < 6 * d + U then XT (6 * d + u - 6 * d) else _) = _
    rw [if_pos (by omega), Nat.add_sub_cancel_left]; exact hXT u hu
  · show (if 6 * d ≤ 6 * d + u ∧ 6 * d + u < 6 * d + U then Z.2.1 (6 * d + u - 6 * d) else _) = _
    rw [if_pos (by omega), Nat.add_sub_cancel_left]
  · show (if 6 * d ≤ 6 * d + u ∧ 6 * d + u < 6 * d + U then _ else _) = _
    rw [if_pos (by omega), Nat.add_sub_cancel_left]
  · exact if_neg (by omega)
  · exact if_neg (by omega)
  · exact if_neg (by omega)
end MP
