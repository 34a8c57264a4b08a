/-! A YEAR: a day, all days -/
theorem q_it_congr {σ : Type} {g g' : Nat → σ → σ} {n : Nat} (h : ∀ i x, i < n → g i x = g' i x) (x : σ) : q_it g n x = q_it g' n x := by
  induction n with
  | zero => rfl
  | succ n ih =>
    show g n (q_it g n x) = g' n (q_it g' n x)
    rw [ih (fun i x hi => h i x (by omega)), h n _ (by omega)]
def q_ai (D : Nat → Nat → Int32) (P sp : Nat → Int32) (d : Nat) : Nat → Int32 := fun k => q_aim D P sp k (w d)
def q_fl (D : Nat → Nat → Int32) (P sp : Nat → Int32) (U d : Nat) : Nat → Int32 := fun u => q_flock (q_ai D P sp d) sp u U
def q_day (D : Nat → Nat → Int32) (P : Nat → Int32) (U d : Nat) (x : qY) : qY := q_it (q_move D (q_ai D P x.1 d) (fun k => q_fl D P x.1 U d (k - 6 * d)) d) U x
def q_yr (D : Nat → Nat → Int32) (P : Nat → Int32) (U n : Nat) (x : qY) : qY := q_it (q_day D P U) n x
theorem flock_congr {ai ai' sp : Nat → Int32} {u U : Nat} (hu : u < U) (h : ∀ k, k < U → ai k = ai' k) : q_flock ai sp u U = q_flock ai' sp u U := by
  unfold q_flock
  rw [h u hu]
  congr 1
  exact q_it_congr (fun i x hi => by rw [h i hi]) 0
theorem move_congr {D : Nat → Nat → Int32} {ai ai' fl fl' : Nat → Int32} {d u : Nat} (h1 : ai u = ai' u) (h2 : fl (6 * d + u) = fl' (6 * d + u)) (x : qY) : q_move D ai fl d u x = q_move D ai' fl' d u x := by
  unfold q_move
  rw [h1, h2]
theorem move_other {D : Nat → Nat → Int32} {ai fl : Nat → Int32} {d u j : Nat} (h : j ≠ u) (x : qY) : (q_move D ai fl d u x).1 j = x.1 j ∧ (q_move D ai fl d u x).2.1 j = x.2.1 j := by
  unfold q_move
  split
  · exact ⟨rfl, rfl⟩
  · split
    · exact ⟨q_set_ne h, q_set_ne h⟩
    · exact ⟨q_set_ne h, rfl⟩
theorem q_grow {f g : Nat → Int32} {b i : Nat} : q_set (fun k => if b ≤ k ∧ k < b + i then g k else f k) (b + i) (g (b + i)) = fun k => if b ≤ k ∧ k < b + (i + 1) then g k else f k := by
  funext k
  unfold q_set
  by_cases c : k = b + i
  · subst c
    rw [if_pos rfl, if_pos (by omega)]
  · rw [if_neg c]
    show (if b ≤ k ∧ k < b + i then g k else f k) = _
    by_cases c2 : b ≤ k ∧ k < b + i
    · rw [if_pos c2, if_pos (by omega)]
    · rw [if_neg c2, if_neg (by omega)]
theorem q_grow0 {f g : Nat → Int32} {b : Nat} : (fun k => if b ≤ k ∧ k < b + 0 then g k else f k) = f := by funext k; rw [if_neg (by omega)]
/-- the same, what is behind may change with i where it is no longer read -/
theorem q_growv {f g g' : Nat → Int32} {b i : Nat} {v : Int32} (hv : v = g' (b + i)) (hg : ∀ k, b ≤ k → k < b + i → g k = g' k) : q_set (fun k => if b ≤ k ∧ k < b + i then g k else f k) (b + i) v = fun k => if b ≤ k ∧ k < b + (i + 1) then g' k else f k := by
  subst hv
  rw [← q_grow]
  congr 1
  funext k
  by_cases c2 : b ≤ k ∧ k < b + i
  · rw [if_pos c2, if_pos c2, hg k c2.1 c2.2]
  · rw [if_neg c2, if_neg c2]
section PASS
variable {I : qI} {L : qL} {s : qS} {t q y : Nat} {pl st fk fa sp ai le : Nat → Int32} {sd : Int32}
theorem aims_loop (hY : qYr s y t q) (hF : qFl s t) (hP : qPl s q) (ht : t ≠ 0) (hq : q ≠ 0) (hd : t + 39 ≤ y ∨ y + 15 ≤ t) (hd2 : q + 2 < y ∨ y + 15 ≤ q + 2) {U d : Nat} (hU6 : U ≤ 6) :
    jd 107 1 [some (.ref y), some (.int (w d)), some (.int (w U)), some (.int (w 0))] [] (q_ym I y pl st fk fa sp ai le sd, L, s) = jd 107 1 [some (.ref y), some (.int (w d)), some (.int (w U)), some (.int (w U))] [] (q_ym I y pl st fk fa sp (fun k => if 0 ≤ k ∧ k < 0 + U then q_ai (qd I t) (I (q + 2)) sp d k else ai k) le sd, L, s) := by
  have r5 := yr_k hY.1 (k := 5) (n := 6) (by omega) rfl
  obtain ⟨J1, e1, h1⟩ := q_loopE (P := fun i (J : qI) => J = q_ym I y pl st fk fa sp (fun k => if 0 ≤ k ∧ k < 0 + i then q_ai (qd I t) (I (q + 2)) sp d k else ai k) le sd) (F := fun i J => jd 107 1 [some (.ref y), some (.int (w d)), some (.int (w U)), some (.int (w i))] [] (J, L, s)) (n := U) (fun i J hi hJ => by
    refine ⟨_, ?_, rfl⟩
    subst hJ
    show jd 107 1 _ _ _ = _
    have e : qd (q_ym I y pl st fk fa sp (fun k => if 0 ≤ k ∧ k < 0 + i then q_ai (qd I t) (I (q + 2)) sp d k else ai k) le sd) y 4 = sp := by
      show q_ym I y pl st fk fa sp _ le sd (y + 1 + 2 * 4 + 1) = sp
      exact ym_4
    rw [E_107_1, if_neg (by rw [w_le (by omega) (by omega)]; omega)]
    simp only [q_i, q_l, q_k, q_r, q_z, q_si, q_sl, jx_lt, jx_ri, jx_rl, jx_rv, if_true, if_false, Nat.reduceLeDiff, Nat.add_one_ne_zero, and_self, true_or, or_true, Nat.reduceEqDiff, or_self, or_false, false_or, hY.1.1, r5.1, r5.2.1, aimOf_eq hY hF hP ht hq (u := i) (by omega), put_eq r5.2, ym_y, ym_0, ym_1, ym_2, ym_3, ym_4, ym_5, ym_6, ym_u0, ym_u1, ym_u2, ym_u3, ym_u4, ym_u5, ym_u6, ym_uy, q_set_eq, ym_fl hd, ym_out hd2, e, q_put_w (n := 6) (k := i) (by omega) (by omega), w_inc]
    rw [← q_grow, Nat.zero_add]
    rfl) (q_ym I y pl st fk fa sp ai le sd) (by rw [q_grow0])
  subst h1
  exact e1
theorem flocks_loop (hY : qYr s y t q) {U d : Nat} (hU6 : U ≤ 6) (hd9 : d < 20) :
    jd 107 3 [some (.ref y), some (.int (w d)), some (.int (w U)), some (.int (w 0))] [] (q_ym I y pl st fk fa sp ai le sd, L, s) = jd 107 3 [some (.ref y), some (.int (w d)), some (.int (w U)), some (.int (w U))] [] (q_ym I y pl st (fun k => if 6 * d ≤ k ∧ k < 6 * d + U then q_flock ai sp (k - 6 * d) U else fk k) fa sp ai le sd, L, s) := by
  have r2 := yr_k hY.1 (k := 2) (n := 120) (by omega) rfl
  obtain ⟨J1, e1, h1⟩ := q_loopE (P := fun i (J : qI) => J = q_ym I y pl st (fun k => if 6 * d ≤ k ∧ k < 6 * d + i then q_flock ai sp (k - 6 * d) U else fk k) fa sp ai le sd) (F := fun i J => jd 107 3 [some (.ref y), some (.int (w d)), some (.int (w U)), some (.int (w i))] [] (J, L, s)) (n := U) (fun i J hi hJ => by
    refine ⟨_, ?_, rfl⟩
    subst hJ
    show jd 107 3 _ _ _ = _
    have e4 : qd (q_ym I y pl st (fun k => if 6 * d ≤ k ∧ k < 6 * d + i then q_flock ai sp (k - 6 * d) U else fk k) fa sp ai le sd) y 4 = sp := by
      show q_ym I y pl st _ fa sp ai le sd (y + 1 + 2 * 4 + 1) = sp
      exact ym_4
    have e5 : qd (q_ym I y pl st (fun k => if 6 * d ≤ k ∧ k < 6 * d + i then q_flock ai sp (k - 6 * d) U else fk k) fa sp ai le sd) y 5 = ai := by
      show q_ym I y pl st _ fa sp ai le sd (y + 1 + 2 * 5 + 1) = ai
      exact ym_5
    rw [E_107_3, if_neg (by rw [w_le (by omega) (by omega)]; omega)]
    simp only [q_i, q_l, q_k, q_r, q_z, q_si, q_sl, jx_lt, jx_ri, jx_rl, jx_rv, if_true, if_false, Nat.reduceLeDiff, Nat.add_one_ne_zero, and_self, true_or, or_true, Nat.reduceEqDiff, or_self, or_false, false_or, hY.1.1, r2.1, r2.2.1, cell_eq, flockOf_eq hY (u := i) (U := U) (by omega) hU6, put_eq r2.2, ym_y, ym_0, ym_1, ym_2, ym_3, ym_4, ym_5, ym_6, ym_u0, ym_u1, ym_u2, ym_u3, ym_u4, ym_u5, ym_u6, ym_uy, q_set_eq, e4, e5, w_cell, q_put_w (n := 120) (k := 6 * d + i) (by omega) (by omega), w_inc]
    rw [← q_grow, Nat.add_sub_cancel_left]) (q_ym I y pl st fk fa sp ai le sd) (by rw [q_grow0])
  subst h1
  exact e1
theorem moves_loop (hY : qYr s y t q) (hF : qFl s t) (ht : t ≠ 0) (hd : t + 39 ≤ y ∨ y + 15 ≤ t) {U d : Nat} (hU6 : U ≤ 6) (hd9 : d < 20) :
    jd 107 5 [some (.ref y), some (.int (w d)), some (.int (w U)), some (.int (w 0))] [] (q_ym I y pl st fk fa sp ai le sd, L, s) = jd 107 5 [some (.ref y), some (.int (w d)), some (.int (w U)), some (.int (w U))] []
      (q_ym I y (fun k => if 6 * d ≤ k ∧ k < 6 * d + U then (q_it (q_move (qd I t) ai fk d) U (sp, le, fa, sd)).1 (k - 6 * d) else pl k) (fun k => if 6 * d ≤ k ∧ k < 6 * d + U then (q_it (q_move (qd I t) ai fk d) U (sp, le, fa, sd)).2.1 (k - 6 * d) else st k) fk
        (q_it (q_move (qd I t) ai fk d) U (sp, le, fa, sd)).2.2.1 (q_it (q_move (qd I t) ai fk d) U (sp, le, fa, sd)).1 ai (q_it (q_move (qd I t) ai fk d) U (sp, le, fa, sd)).2.1 (q_it (q_move (qd I t) ai fk d) U (sp, le, fa, sd)).2.2.2, L, s) := by
  have r0 := yr_k hY.1 (k := 0) (n := 120) (by omega) rfl
  have r1 := yr_k hY.1 (k := 1) (n := 120) (by omega) rfl
  have r4 := yr_k hY.1 (k := 4) (n := 6) (by omega) rfl
  have r5 := yr_k hY.1 (k := 5) (n := 6) (by omega) rfl
  have r6 := yr_k hY.1 (k := 6) (n := 6) (by omega) rfl
  obtain ⟨J1, e1, h1⟩ := q_loopE (P := fun i (J : qI) => J = q_ym I y (fun k => if 6 * d ≤ k ∧ k < 6 * d + i then (q_it (q_move (qd I t) ai fk d) i (sp, le, fa, sd)).1 (k - 6 * d) else pl k) (fun k => if 6 * d ≤ k ∧ k < 6 * d + i then (q_it (q_move (qd I t) ai fk d) i (sp, le, fa, sd)).2.1 (k - 6 * d) else st k) fk
        (q_it (q_move (qd I t) ai fk d) i (sp, le, fa, sd)).2.2.1 (q_it (q_move (qd I t) ai fk d) i (sp, le, fa, sd)).1 ai (q_it (q_move (qd I t) ai fk d) i (sp, le, fa, sd)).2.1 (q_it (q_move (qd I t) ai fk d) i (sp, le, fa, sd)).2.2.2) (F := fun i J => jd 107 5 [some (.ref y), some (.int (w d)), some (.int (w U)), some (.int (w i))] [] (J, L, s)) (n := U) (fun i J hi hJ => by
    refine ⟨_, ?_, rfl⟩
    subst hJ
    show jd 107 5 _ _ _ = _
    generalize hx : q_it (q_move (qd I t) ai fk d) i (sp, le, fa, sd) = x
    have hx1 : q_it (q_move (qd I t) ai fk d) (i + 1) (sp, le, fa, sd) = q_move (qd I t) ai fk d i x := by rw [← hx]; rfl
    rw [hx1]
    obtain ⟨x1, x2, x3, x4⟩ := x
    rw [E_107_5, if_neg (by rw [w_le (by omega) (by omega)]; omega)]
    have tail : ∀ z : qY, (∀ j, j ≠ i → z.1 j = x1 j ∧ z.2.1 j = x2 j) → jd 107 6 [some (.ref y), some (.int (w d)), some (.int (w U)), some (.int (w i))] [] (q_ym I y (fun k => if 6 * d ≤ k ∧ k < 6 * d + i then x1 (k - 6 * d) else pl k) (fun k => if 6 * d ≤ k ∧ k < 6 * d + i then x2 (k - 6 * d) else st k) fk z.2.2.1 z.1 ai z.2.1 z.2.2.2, L, s) =
        jd 107 5 [some (.ref y), some (.int (w d)), some (.int (w U)), some (.int (w (i + 1)))] [] (q_ym I y (fun k => if 6 * d ≤ k ∧ k < 6 * d + (i + 1) then z.1 (k - 6 * d) else pl k) (fun k => if 6 * d ≤ k ∧ k < 6 * d + (i + 1) then z.2.1 (k - 6 * d) else st k) fk z.2.2.1 z.1 ai z.2.1 z.2.2.2, L, s) := by
      intro z hz
      rw [E_107_6]
      simp only [q_i, q_l, q_k, q_r, q_z, q_si, q_sl, jx_lt, jx_ri, jx_rl, jx_rv, if_true, if_false, Nat.reduceLeDiff, Nat.add_one_ne_zero, and_self, true_or, or_true, Nat.reduceEqDiff, or_self, or_false, false_or, hY.1.1, r0.1, r0.2.1, r1.1, r1.2.1, r4.1, r4.2.1, r6.1, r6.2.1, cell_eq, look_eq r4.2, look_eq r6.2, put_eq r0.2, put_eq r1.2, ym_y, ym_0, ym_1, ym_2, ym_3, ym_4, ym_5, ym_6, ym_u0, ym_u1, ym_u2, ym_u3, ym_u4, ym_u5, ym_u6, ym_uy, q_set_eq, w_cell, q_at_w (n := 6) (k := i) (by omega) (by omega), q_put_w (n := 120) (k := 6 * d + i) (by omega) (by omega), w_inc]
      rw [q_growv (g' := fun k => z.1 (k - 6 * d)) (by rw [Nat.add_sub_cancel_left]) (fun k h1 h2 => ((hz (k - 6 * d) (by omega)).1).symm), q_growv (g' := fun k => z.2.1 (k - 6 * d)) (by rw [Nat.add_sub_cancel_left]) (fun k h1 h2 => ((hz (k - 6 * d) (by omega)).2).symm)]
    simp only [q_i, q_l, q_k, q_r, q_z, q_si, q_sl, jx_lt, jx_ri, jx_rl, jx_rv, if_true, if_false, Nat.reduceLeDiff, Nat.add_one_ne_zero, and_self, true_or, or_true, Nat.reduceEqDiff, or_self, or_false, false_or, hY.1.1, r5.1, r5.2.1, look_eq r5.2, ym_y, ym_0, ym_1, ym_2, ym_3, ym_4, ym_5, ym_6, ym_u0, ym_u1, ym_u2, ym_u3, ym_u4, ym_u5, ym_u6, ym_uy, q_set_eq, q_at_w (n := 6) (k := i) (by omega) (by omega)]
    by_cases c : ai i < 0
    · have e9 : q_move (qd I t) ai fk d i (x1, x2, x3, x4) = (x1, x2, x3, x4) := by unfold q_move; rw [if_pos c]
      rw [if_pos c, e9]
      exact tail (x1, x2, x3, x4) (fun _ _ => ⟨rfl, rfl⟩)
    · rw [if_neg c, move_eq hY hF ht hd (by omega) hd9 c]
      exact tail _ (fun j hj => move_other hj _)) (q_ym I y pl st fk fa sp ai le sd) (by
        show _ = q_ym I y (fun k => if 6 * d ≤ k ∧ k < 6 * d + 0 then _ else pl k) (fun k => if 6 * d ≤ k ∧ k < 6 * d + 0 then _ else st k) fk fa sp ai le sd
        rw [q_grow0, q_grow0])
  subst h1
  exact e1
theorem passDay_eq (hY : qYr s y t q) (hF : qFl s t) (hP : qPl s q) (ht : t ≠ 0) (hq : q ≠ 0) (hd : t + 39 ≤ y ∨ y + 15 ≤ t) (hd2 : q + 2 < y ∨ y + 15 ≤ q + 2) {U d : Nat} (hU : qd I t 0 5 = w U) (hU6 : U ≤ 6) (hd9 : d < 20) :
    ∃ pl' st' fk' ai', jD 107 [.ref y, .int (w d)] (q_ym I y pl st fk fa sp ai le sd, L, s) = some (none, q_ym I y pl' st' fk' (q_day (qd I t) (I (q + 2)) U d (sp, le, fa, sd)).2.2.1 (q_day (qd I t) (I (q + 2)) U d (sp, le, fa, sd)).1 ai' (q_day (qd I t) (I (q + 2)) U d (sp, le, fa, sd)).2.1 (q_day (qd I t) (I (q + 2)) U d (sp, le, fa, sd)).2.2.2, L, s) ∧
      (∀ u, u < U → pl' (6 * d + u) = (q_day (qd I t) (I (q + 2)) U d (sp, le, fa, sd)).1 u ∧ st' (6 * d + u) = (q_day (qd I t) (I (q + 2)) U d (sp, le, fa, sd)).2.1 u ∧ fk' (6 * d + u) = q_fl (qd I t) (I (q + 2)) sp U d u) ∧
      (∀ k, k < 6 * d → pl' k = pl k ∧ st' k = st k ∧ fk' k = fk k) := by
  rw [D_107, E_107_0]
  simp only [q_i, q_l, q_k, q_r, q_z, q_si, q_sl, jx_lt, jx_ri, jx_rl, jx_rv, if_true, if_false, Nat.reduceLeDiff, Nat.add_one_ne_zero, and_self, true_or, or_true, Nat.reduceEqDiff, or_self, or_false, false_or, hY.1.1, hY.2.1, ht, hF.1, umbs_eq hF, ym_fl hd, hU]
  rw [show (0 : Int32) = w 0 from rfl, aims_loop hY hF hP ht hq hd hd2 hU6, E_107_1, if_pos (Int32.le_refl _), E_107_2, show (0 : Int32) = w 0 from rfl, flocks_loop hY hU6 hd9, E_107_3, if_pos (Int32.le_refl _), E_107_4, show (0 : Int32) = w 0 from rfl, moves_loop hY hF ht hd hU6 hd9, E_107_5, if_pos (Int32.le_refl _), E_107_7]
  have ha : ∀ k, k < U → (fun k => if 0 ≤ k ∧ k < 0 + U then q_ai (qd I t) (I (q + 2)) sp d k else ai k) k = q_ai (qd I t) (I (q + 2)) sp d k := fun k hk => if_pos (by omega)
  have hf : ∀ u, u < U → (fun k => if 6 * d ≤ k ∧ k < 6 * d + U then q_flock (fun k => if 0 ≤ k ∧ k < 0 + U then q_ai (qd I t) (I (q + 2)) sp d k else ai k) sp (k - 6 * d) U else fk k) (6 * d + u) = q_fl (qd I t) (I (q + 2)) sp U d u := fun u hu => by
    show (if 6 * d ≤ 6 * d + u ∧ 6 * d + u < 6 * d + U then _ else _) = _
    rw [if_pos (by omega), Nat.add_sub_cancel_left]
    exact flock_congr hu ha
  have hday : q_it (q_move (qd I t) (fun k => if 0 ≤ k ∧ k < 0 + U then q_ai (qd I t) (I (q + 2)) sp d k else ai k) (fun k => if 6 * d ≤ k ∧ k < 6 * d + U then q_flock (fun k => if 0 ≤ k ∧ k < 0 + U then q_ai (qd I t) (I (q + 2)) sp d k else ai k) sp (k - 6 * d) U else fk k) d) U (sp, le, fa, sd) = q_day (qd I t) (I (q + 2)) U d (sp, le, fa, sd) :=
    q_it_congr (fun u x hu => move_congr (ha u hu) ((hf u hu).trans (by rw [Nat.add_sub_cancel_left])) x) _
  rw [hday]
  refine ⟨_, _, _, _, rfl, fun u hu => ⟨?_, ?_, hf u hu⟩, fun k hk => ⟨?_, ?_, ?_⟩⟩
  · show (if 6 * d ≤ 6 * d + u ∧ 6 * d + u < 6 * d + U then _ else _) = _
    rw [if_pos (by omega), Nat.add_sub_cancel_left]
  · show (if 6 * d ≤ 6 * d + u ∧ 6 * d + u < 6 * d + U then _ else _) = _
    rw [if_pos (by omega), Nat.add_sub_cancel_left]
  · exact if_neg (by omega)
  · exact if_neg (by omega)
  · exact if_neg (by omega)
end PASS
