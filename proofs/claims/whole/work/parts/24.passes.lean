/-! A YEAR: all its days; arrivals -/
def q_Y (D : Nat → Nat → Int32) (P : Nat → Int32) (U : Nat) (sd : Int32) (n : Nat) : qY := q_yr D P U n (D 6, P, fun _ => -2, sd)
/-- alike as far as umbrellas go -/
def qYe (U : Nat) (x x' : qY) : Prop := (∀ u, u < U → x.1 u = x'.1 u ∧ x.2.1 u = x'.2.1 u ∧ x.2.2.1 u = x'.2.2.1 u) ∧ x.2.2.2 = x'.2.2.2
theorem aim_congr {D : Nat → Nat → Int32} {P sp sp' : Nat → Int32} {u : Nat} {d : Int32} (h : sp u = sp' u) : q_aim D P sp u d = q_aim D P sp' u d := by
  unfold q_aim
  rw [h]
theorem flock_congr2 {ai ai' sp sp' : Nat → Int32} {u U : Nat} (hu : u < U) (h : ∀ k, k < U → ai k = ai' k ∧ sp k = sp' k) : q_flock ai sp u U = q_flock ai' sp' u U := by
  unfold q_flock
  rw [(h u hu).1, (h u hu).2]
  congr 1
  exact q_it_congr (fun i x hi => by rw [(h i hi).1, (h i hi).2]) 0
theorem move_alike {D : Nat → Nat → Int32} {ai fl : Nat → Int32} {d u U : Nat} (hu : u < U) {x x' : qY} (h : qYe U x x') : qYe U (q_move D ai fl d u x) (q_move D ai fl d u x') := by
  obtain ⟨h1, h2⟩ := h
  obtain ⟨a1, a2, a3⟩ := h1 u hu
  have key : ∀ (f f' : Nat → Int32) (v : Int32) (k : Nat), f k = f' k → q_set f u v k = q_set f' u v k := fun f f' v k e => by
    unfold q_set
    by_cases c : k = u
    · rw [if_pos c, if_pos c]
    · rw [if_neg c, if_neg c, e]
  unfold q_move
  rw [a1, a2, h2]
  split
  · exact ⟨h1, h2⟩
  · split
    · exact ⟨fun k hk => ⟨key _ _ _ k (h1 k hk).1, key _ _ _ k (h1 k hk).2.1, (h1 k hk).2.2⟩, by split <;> first | exact h2 | rfl⟩
    · exact ⟨fun k hk => ⟨key _ _ _ k (h1 k hk).1, (h1 k hk).2.1, key _ _ _ k (h1 k hk).2.2⟩, rfl⟩
theorem it_rel {σ τ : Type} {R : σ → τ → Prop} {g : Nat → σ → σ} {g' : Nat → τ → τ} {n : Nat} (h : ∀ i x y, i < n → R x y → R (g i x) (g' i y)) {x : σ} {y : τ} (h0 : R x y) : R (q_it g n x) (q_it g' n y) := by
  induction n with
  | zero => exact h0
  | succ n ih => exact h n _ _ (by omega) (ih fun i x y hi => h i x y (by omega))
theorem day_alike {D : Nat → Nat → Int32} {P : Nat → Int32} {U d : Nat} {x x' : qY} (h : qYe U x x') : qYe U (q_day D P U d x) (q_day D P U d x') := by
  have ha : ∀ k, k < U → q_ai D P x.1 d k = q_ai D P x'.1 d k := fun k hk => aim_congr (h.1 k hk).1
  have hf : ∀ k, k < U → q_fl D P x.1 U d k = q_fl D P x'.1 U d k := fun k hk => flock_congr2 hk fun j hj => ⟨ha j hj, (h.1 j hj).1⟩
  unfold q_day
  have e : q_it (q_move D (q_ai D P x.1 d) (fun k => q_fl D P x.1 U d (k - 6 * d)) d) U x = q_it (q_move D (q_ai D P x'.1 d) (fun k => q_fl D P x'.1 U d (k - 6 * d)) d) U x :=
    q_it_congr (fun u z hu => move_congr (ha u hu) (by show q_fl D P x.1 U d (6 * d + u - 6 * d) = q_fl D P x'.1 U d (6 * d + u - 6 * d); rw [Nat.add_sub_cancel_left]; exact hf u hu) z) x
  rw [e]
  exact it_rel (R := qYe U) (fun i z z' hi hz => move_alike hi hz) h
theorem yr_alike {D : Nat → Nat → Int32} {P : Nat → Int32} {U n : Nat} {x x' : qY} (h : qYe U x x') : qYe U (q_yr D P U n x) (q_yr D P U n x') := by
  unfold q_yr
  exact it_rel (R := qYe U) (g := q_day D P U) (g' := q_day D P U) (fun i z z' _ hz => day_alike hz) h
theorem fl_alike {D : Nat → Nat → Int32} {P sp sp' : Nat → Int32} {U d u : Nat} (hu : u < U) (h : ∀ k, k < U → sp k = sp' k) : q_fl D P sp U d u = q_fl D P sp' U d u := flock_congr2 hu fun j hj => ⟨aim_congr (h j hj), h j hj⟩
/-- a Year's rows hold the year of D, P with seed sd -/
def qPast (D : Nat → Nat → Int32) (P : Nat → Int32) (U dn : Nat) (sd : Int32) (pl st fk fa sp le : Nat → Int32) (sd' : Int32) : Prop :=
  (∀ d, d < dn → ∀ u, u < U → pl (6 * d + u) = (q_Y D P U sd (d + 1)).1 u ∧ st (6 * d + u) = (q_Y D P U sd (d + 1)).2.1 u ∧ fk (6 * d + u) = q_fl D P (q_Y D P U sd d).1 U d u) ∧
  (∀ u, u < U → sp u = (q_Y D P U sd dn).1 u ∧ le u = (q_Y D P U sd dn).2.1 u ∧ fa u = (q_Y D P U sd dn).2.2.1 u) ∧ sd' = (q_Y D P U sd dn).2.2.2
section PASS2
variable {I : qI} {L : qL} {s : qS} {t q y : Nat}
theorem pass_eq (hY : qYr0 s y) (hF : qFl s t) (hP : qPl s q) (ht : t ≠ 0) (hq : q ≠ 0) (hd : t + 39 ≤ y ∨ y + 15 ≤ t) (hd2 : q + 2 < y ∨ y + 15 ≤ q + 2) {U dn : Nat} (hU : qd I t 0 5 = w U) (hU6 : U ≤ 6) (hdn : qd I t 0 0 = w dn) (hdn9 : dn ≤ 20) (sd : Int32) :
    ∃ pl st fk fa sp ai le sd', jD 105 [.ref y, .ref t, .ref q, .int sd] (I, L, s) = some (none, q_ym I y pl st fk fa sp ai le sd', L, q_ptr (q_ptr s y 7 t) y 8 q) ∧ qPast (qd I t) (I (q + 2)) U dn sd pl st fk fa sp le sd' := by
  have hk3 : qk s y ≠ 3 := by rw [hY.1]; decide
  have hF' : qFl (q_ptr (q_ptr s y 7 t) y 8 q) t := ptr_fl (by decide) hk3 (ptr_fl (by decide) hk3 hF)
  have hP' : qPl (q_ptr (q_ptr s y 7 t) y 8 q) q := ptr_pl (by decide) (ptr_pl (by decide) hP)
  have hY' : qYr (q_ptr (q_ptr s y 7 t) y 8 q) y t q := ⟨ptr_yr (by decide) (ptr_yr (by decide) hY), (ptr_r_ne (Or.inr (by decide))).trans ptr_r_eq, ptr_r_eq⟩
  generalize hs' : q_ptr (q_ptr s y 7 t) y 8 q = s' at hF' hP' hY'
  have r3 := yr_k hY'.1 (k := 3) (n := 6) (by omega) rfl
  have r4 := yr_k hY'.1 (k := 4) (n := 6) (by omega) rfl
  have r6 := yr_k hY'.1 (k := 6) (n := 6) (by omega) rfl
  have h6 := fl_k hF' (k := 6) (n := 6) (by omega) rfl
  have e0 : (I, L, s') = (q_ym I y (I (y + 1 + 2 * 0 + 1)) (I (y + 1 + 2 * 1 + 1)) (I (y + 1 + 2 * 2 + 1)) (I (y + 1 + 2 * 3 + 1)) (I (y + 1 + 2 * 4 + 1)) (I (y + 1 + 2 * 5 + 1)) (I (y + 1 + 2 * 6 + 1)) (I y 9), L, s') := by rw [ym_self]
  have hne1 : t + 1 + 2 * 6 ≠ y + 1 + 2 * 4 := by omega
  have hne2 : q + 1 ≠ y + 1 + 2 * 6 := by omega
  have o1 : t + 1 + 2 * 6 + 1 < y ∨ y + 15 ≤ t + 1 + 2 * 6 + 1 := by omega
  rw [D_105, E_105_0]
  simp only [jx_lt, q_sr, hs', q_k, ptr_k, hY.1, ht, hq, if_false, if_true]
  rw [e0]
  simp only [q_i, q_l, q_k, q_r, q_z, q_si, q_sl, jx_lt, jx_ri, jx_rl, jx_rv, if_true, if_false, Nat.reduceLeDiff, Nat.add_one_ne_zero, and_self, true_or, or_true, Nat.reduceEqDiff, or_self, or_false, false_or, hY'.1.1, hY'.2.1, hY'.2.2, ht, hq, hF'.1, hP'.1, hP'.2.1, hP'.2.2.1, r3.1, r3.2.1, r4.1, r4.2.1, r6.1, r6.2.1, h6.1, fill_eq r3.2, ym_y, ym_0, ym_1, ym_2, ym_3, ym_4, ym_5, ym_6, ym_u0, ym_u1, ym_u2, ym_u3, ym_u4, ym_u5, ym_u6, ym_uy, q_set_eq]
  simp only [show (0 : Int32) = w 0 from rfl, show (6 : Int32) = w 6 from rfl, copy_eq r4.2 h6.2 hne1 (to := 0) (fr := 0) (len := 6) (by omega) (by omega), copy_eq r6.2 hP'.2.2 hne2 (to := 0) (fr := 0) (len := 6) (by omega) (by omega), q_i, q_l, q_k, q_r, q_z, q_si, q_sl, jx_lt, jx_ri, jx_rl, jx_rv, if_true, if_false, Nat.reduceLeDiff, Nat.add_one_ne_zero, and_self, true_or, or_true, Nat.reduceEqDiff, or_self, or_false, false_or, ym_y, ym_0, ym_1, ym_2, ym_3, ym_4, ym_5, ym_6, ym_u0, ym_u1, ym_u2, ym_u3, ym_u4, ym_u5, ym_u6, ym_uy, q_set_eq, hY'.1.1, hY'.2.1, hY'.2.2, ht, hq, hF'.1, hP'.1, hP'.2.1, hP'.2.2.1, r3.1, r3.2.1, r4.1, r4.2.1, r6.1, r6.2.1, h6.1, ym_out o1, ym_out hd2]
  have hyp : ∀ (sp le fa : Nat → Int32), qYe U (sp, le, fa, sd) (qd I t 6, I (q + 2), fun _ => -2, sd) → ∀ pl st fk ai, ∃ pl' st' fk' fa' sp' ai' le' sd', jd 105 1 [some (.ref y), none, none, none, some (.int (w 0))] [] (q_ym I y pl st fk fa sp ai le sd, L, s') = some (none, q_ym I y pl' st' fk' fa' sp' ai' le' sd', L, s') ∧ qPast (qd I t) (I (q + 2)) U dn sd pl' st' fk' fa' sp' le' sd' := by
    intro sp le fa hx pl st fk ai
    obtain ⟨J, e1, pl1, st1, fk1, ai1, hJ, h1⟩ := q_loopE (P := fun i (J : qI) => ∃ pl' st' fk' ai', J = q_ym I y pl' st' fk' (q_yr (qd I t) (I (q + 2)) U i (sp, le, fa, sd)).2.2.1 (q_yr (qd I t) (I (q + 2)) U i (sp, le, fa, sd)).1 ai' (q_yr (qd I t) (I (q + 2)) U i (sp, le, fa, sd)).2.1 (q_yr (qd I t) (I (q + 2)) U i (sp, le, fa, sd)).2.2.2 ∧
        ∀ d, d < i → ∀ u, u < U → pl' (6 * d + u) = (q_yr (qd I t) (I (q + 2)) U (d + 1) (sp, le, fa, sd)).1 u ∧ st' (6 * d + u) = (q_yr (qd I t) (I (q + 2)) U (d + 1) (sp, le, fa, sd)).2.1 u ∧ fk' (6 * d + u) = q_fl (qd I t) (I (q + 2)) (q_yr (qd I t) (I (q + 2)) U d (sp, le, fa, sd)).1 U d u)
      (F := fun i J => jd 105 1 [some (.ref y), none, none, none, some (.int (w i))] [] (J, L, s')) (n := dn) (fun i J hi hJ => by
        obtain ⟨pl1, st1, fk1, ai1, rfl, h1⟩ := hJ
        generalize hx9 : q_yr (qd I t) (I (q + 2)) U i (sp, le, fa, sd) = x
        obtain ⟨x1, x2, x3, x4⟩ := x
        have hn : q_yr (qd I t) (I (q + 2)) U (i + 1) (sp, le, fa, sd) = q_day (qd I t) (I (q + 2)) U i (x1, x2, x3, x4) := by rw [← hx9]; rfl
        obtain ⟨pl2, st2, fk2, ai2, e2, h2, h3⟩ := passDay_eq (L := L) (pl := pl1) (st := st1) (fk := fk1) (fa := x3) (sp := x1) (ai := ai1) (le := x2) (sd := x4) hY' hF' hP' ht hq hd hd2 (d := i) hU hU6 (by omega)
        refine ⟨_, ?_, pl2, st2, fk2, ai2, rfl, fun d hdi u hu => ?_⟩
        · show jd 105 1 _ _ _ = _
          rw [E_105_1]
          simp only [q_i, q_l, q_k, q_r, q_z, q_si, q_sl, jx_lt, jx_ri, jx_rl, jx_rv, if_true, if_false, Nat.reduceLeDiff, Nat.add_one_ne_zero, and_self, true_or, or_true, Nat.reduceEqDiff, or_self, or_false, false_or, hY'.1.1, hY'.2.1, ht, hF'.1, days_eq hF', ym_fl hd, hdn]
          rw [if_neg (by rw [w_le (by omega) (by omega)]; omega), e2, hn, w_inc]
        · by_cases c : d = i
          · subst c
            rw [hn, hx9]
            exact h2 u hu
          · obtain ⟨k1, k2, k3⟩ := h3 (6 * d + u) (by omega)
            rw [k1, k2, k3]
            exact h1 d (by omega) u hu) (q_ym I y pl st fk fa sp ai le sd) ⟨pl, st, fk, ai, rfl, fun d hd0 => absurd hd0 (Nat.not_lt_zero d)⟩
    subst hJ
    have hz : ∀ n, qYe U (q_yr (qd I t) (I (q + 2)) U n (sp, le, fa, sd)) (q_Y (qd I t) (I (q + 2)) U sd n) := fun n => yr_alike hx
    refine ⟨pl1, st1, fk1, _, _, ai1, _, _, e1.trans ?_, fun d hd0 u hu => ?_, fun u hu => (hz dn).1 u hu |>.imp id (fun z => z), (hz dn).2⟩
    · show jd 105 1 _ _ _ = _
      rw [E_105_1]
      simp only [q_i, q_l, q_k, q_r, q_z, q_si, q_sl, jx_lt, jx_ri, jx_rl, jx_rv, if_true, if_false, Nat.reduceLeDiff, Nat.add_one_ne_zero, and_self, true_or, or_true, Nat.reduceEqDiff, or_self, or_false, false_or, hY'.1.1, hY'.2.1, ht, hF'.1, days_eq hF', ym_fl hd, hdn]
      rw [if_pos (Int32.le_refl _), E_105_2]
    · obtain ⟨k1, k2, k3⟩ := h1 d hd0 u hu
      rw [k1, k2, k3]
      exact ⟨((hz (d + 1)).1 u hu).1, ((hz (d + 1)).1 u hu).2.1, fl_alike hu fun k hk => ((hz d).1 k hk).1⟩
  refine hyp (fun k => if 0 ≤ k ∧ k < 0 + 6 then I (t + 1 + 2 * 6 + 1) (0 + (k - 0)) else I (y + 1 + 2 * 4 + 1) k) (fun k => if 0 ≤ k ∧ k < 0 + 6 then I (q + 2) (0 + (k - 0)) else I (y + 1 + 2 * 6 + 1) k) (fun k => if k < 6 then -2 else I (y + 1 + 2 * 3 + 1) k) ⟨fun u hu => ⟨?_, ?_, ?_⟩, rfl⟩ _ _ _ _
  · show (if 0 ≤ u ∧ u < 0 + 6 then I (t + 1 + 2 * 6 + 1) (0 + (u - 0)) else _) = qd I t 6 u
    rw [if_pos (by omega)]
    show I (t + 1 + 2 * 6 + 1) (0 + (u - 0)) = I (t + 1 + 2 * 6 + 1) u
    rw [Nat.zero_add, Nat.sub_zero]
  · show (if 0 ≤ u ∧ u < 0 + 6 then I (q + 2) (0 + (u - 0)) else _) = I (q + 2) u
    rw [if_pos (by omega), Nat.zero_add, Nat.sub_zero]
  · show (if u < 6 then -2 else _) = (-2 : Int32)
    rw [if_pos (by omega)]
def q_arr (D : Nat → Nat → Int32) (sp : Nat → Int32) (U : Nat) : Int32 := q_it (fun u b => b ||| (if ¬ sp u < 0 ∧ q_at 8 (D 1) (sp u) = 2 then (1 : Int32) <<< (w u &&& 31) else 0)) U 0
theorem arrivals_eq (hY : qYr s y t q) (hF : qFl s t) (ht : t ≠ 0) {U : Nat} (hU : qd I t 0 5 = w U) (hU6 : U ≤ 6) : jD 106 [.ref y] (I, L, s) = some (some (.int (q_arr (qd I t) (qd I y 4) U)), I, L, s) := by
  have r4 := yr_k hY.1 (k := 4) (n := 6) (by omega) rfl
  have h1 := fl_k hF (k := 1) (n := 8) (by omega) rfl
  have hU' : I (t + 1 + 2 * 0 + 1) 5 = w U := hU
  rw [D_106, E_106_0]
  refine (q_loop (F := fun i b => jd 106 1 [some (.ref y), some (.int b), some (.int (w i)), none] [] (I, L, s)) (n := U) (g := fun u b => b ||| (if ¬ qd I y 4 u < 0 ∧ q_at 8 (qd I t 1) (qd I y 4 u) = 2 then (1 : Int32) <<< (w u &&& 31) else 0)) (fun i b hi => ?_) 0).trans ?_
  · rw [E_106_1]
    simp only [q_i, q_l, q_k, q_r, q_z, q_si, q_sl, jx_lt, jx_ri, jx_rl, jx_rv, if_true, if_false, Nat.reduceLeDiff, Nat.add_one_ne_zero, and_self, true_or, or_true, Nat.reduceEqDiff, or_self, or_false, false_or, hY.1.1, hY.2.1, ht, hF.1, umbs_eq hF, hU, h1.1, h1.2.1, r4.1, r4.2.1, look_eq h1.2, look_eq r4.2, q_at_w (n := 6) (k := i) (by omega) (by omega), E_106_2, E_106_3, w_inc, qd, Nat.reduceLT, hU']
    rw [if_neg (by rw [w_le (by omega) (by omega)]; omega)]
    by_cases c1 : I (y + 1 + 2 * 4 + 1) i < 0
    · simp only [c1, if_true, not_true_eq_false, false_and, if_false]
    · by_cases c2 : q_at 8 (I (t + 1 + 2 * 1 + 1)) (I (y + 1 + 2 * 4 + 1) i) = 2
      · simp only [c1, c2, if_true, if_false, not_false_eq_true, and_self]
      · simp only [c1, c2, if_false, and_false]
  · show jd 106 1 _ _ _ = _
    rw [E_106_1]
    simp only [q_i, q_l, q_k, q_r, q_z, q_si, q_sl, jx_lt, jx_ri, jx_rl, jx_rv, if_true, if_false, Nat.reduceLeDiff, Nat.add_one_ne_zero, and_self, true_or, or_true, Nat.reduceEqDiff, or_self, or_false, false_or, hY.1.1, hY.2.1, ht, hF.1, umbs_eq hF, hU]
    rw [if_pos (Int32.le_refl _), E_106_4]
    rfl
end PASS2
