/-! THE YEAR OF TRIAL: best days -/
section KS
variable {s s' : qS} {t t' : Nat}
theorem ks_k (h : qKs s s') : qk s' = qk s := congrArg (fun x => x.1) h.1
theorem ks_z (h : qKs s s') : qz s' = qz s := congrArg (fun x => x.2.1) h.1
theorem ks_row (h : qKs s s') {r n : Nat} (hr : r ≠ 214) (q : qRow s r n) : qRow s' r n := ⟨(congrFun (ks_k h) r).trans q.1, (h.2 r 0 (Or.inl hr)).trans q.2.1, (congrFun (ks_k h) _).trans q.2.2.1, (congrFun (ks_z h) _).trans q.2.2.2.1, q.2.2.2.2⟩
theorem ks_fl (h : qKs s s') {r : Nat} (hr : r + 39 < 214) (q : qFl s r) : qFl s' r := ⟨(congrFun (ks_k h) r).trans q.1, fun k hk => ⟨(h.2 r k (Or.inl (by omega))).trans (q.2 k hk).1, ks_row h (by omega) (q.2 k hk).2⟩⟩
theorem ks_pl (h : qKs s s') {r : Nat} (hr : r + 1 < 214) (q : qPl s r) : qPl s' r := ⟨(congrFun (ks_k h) r).trans q.1, (h.2 r 0 (Or.inl (by omega))).trans q.2.1, ks_row h (by omega) q.2.2⟩
theorem ks_yr (h : qKs s s') {r : Nat} (hr : r + 14 < 214 ∨ r = 214) (q : qYr0 s r) : qYr0 s' r := ⟨(congrFun (ks_k h) r).trans q.1, fun k hk => ⟨(h.2 r k (Or.inr hk)).trans (q.2 k hk).1, ks_row h (by omega) (q.2 k hk).2⟩⟩
theorem xo_ks (h : qKs s s') (hx : qXo s t t') : qXo s' t t' :=
  ⟨(congrFun (ks_k h) _).trans (xo_k hx), (h.2 _ _ (Or.inl (by decide))).trans (xo_r0 hx), (h.2 _ _ (Or.inl (by decide))).trans (xo_r1 hx), (h.2 _ _ (Or.inl (by decide))).trans (xo_r2 hx), (h.2 _ _ (Or.inl (by decide))).trans (xo_r3 hx), (h.2 _ _ (Or.inl (by decide))).trans (xo_r4 hx), (h.2 _ _ (Or.inl (by decide))).trans (xo_r5 hx), (h.2 _ _ (Or.inl (by decide))).trans (xo_r6 hx), (h.2 _ _ (Or.inl (by decide))).trans (xo_r7 hx), (h.2 _ _ (Or.inl (by decide))).trans (xo_r8 hx), (h.2 _ _ (Or.inl (by decide))).trans (xo_r9 hx), (h.2 _ _ (Or.inl (by decide))).trans (xo_r10 hx), (h.2 _ _ (Or.inl (by decide))).trans (xo_r11 hx), xo_tt hx, ks_fl h (by have := xo_tt hx; omega) (xo_ft hx), ks_fl h (by have := xo_tt hx; omega) (xo_ft' hx), ks_row h (by decide) (xo_row179 hx), ks_pl h (by decide) (xo_now hx), ks_pl h (by decide) (xo_try hx), (congrFun (ks_k h) _).trans (xo_ka hx), (h.2 _ _ (Or.inl (by decide))).trans (xo_ra0 hx), (h.2 _ _ (Or.inl (by decide))).trans (xo_ra1 hx), ks_row h (by decide) (xo_past hx), ks_row h (by decide) (xo_marks hx), ⟨ks_yr h (Or.inl (by decide)) (xo_yr hx).1, (h.2 _ _ (Or.inl (by decide))).trans (xo_yr hx).2.1, (h.2 _ _ (Or.inl (by decide))).trans (xo_yr hx).2.2⟩, ks_yr h (Or.inr rfl) (xo_ty hx), (congrFun (ks_k h) _).trans (xo_ko hx), (h.2 _ _ (Or.inl (by decide))).trans (xo_ro0 hx), (h.2 _ _ (Or.inl (by decide))).trans (xo_ro1 hx), ks_row h (by decide) (xo_routes hx), ks_row h (by decide) (xo_found hx), (congrFun (ks_k h) _).trans (xo_kf hx), (h.2 _ _ (Or.inl (by decide))).trans (xo_rf0 hx), ks_row h (by decide) (xo_seen hx), (congrFun (ks_k h) _).trans (xo_kh hx), (h.2 _ _ (Or.inl (by decide))).trans (xo_rh0 hx), ks_row h (by decide) (xo_rounds hx), (congrFun (ks_k h) _).trans (xo_ke hx), (h.2 _ _ (Or.inl (by decide))).trans (xo_re0 hx), (h.2 _ _ (Or.inl (by decide))).trans (xo_re1 hx), (congrFun (ks_k h) _).trans (xo_kn hx), (congrFun (ks_z h) _).trans (xo_zn hx), (h.2 _ _ (Or.inl (by decide))).trans (xo_re2 hx), ks_row h (by decide) (xo_nsort hx), (h.2 _ _ (Or.inl (by decide))).trans (xo_re3 hx), ks_row h (by decide) (xo_nnum hx), (congrFun (ks_k h) _).trans (xo_kt hx), (h.2 _ _ (Or.inl (by decide))).trans (xo_rt0 hx)⟩
theorem mo_ks (h : qKs s s') (hm : qMo s 240) : qMo s' 240 := by
  have hr : ∀ k, qr s' 240 k = qr s 240 k := fun k => h.2 240 k (Or.inl (by decide))
  unfold qMo at hm ⊢
  rw [ks_k h, ks_z h]
  simp only [hr]
  exact hm
theorem mf_ks (h : qKs s s') {f : Nat} (hf : 260 ≤ f) (hm : qMf s f) : qMf s' f := by
  have hr : ∀ k, qr s' f k = qr s f k := fun k => h.2 f k (Or.inl (by omega))
  unfold qMf at hm ⊢
  rw [ks_k h, ks_z h]
  simp only [hr]
  exact hm
theorem qmf_ks (h : qKs s s') {f : Nat} (hf : 260 ≤ f) (hm : qMF s 240 f) : qMF s' 240 f := ⟨mo_ks h hm.1, mf_ks h hf hm.2.1, (h.2 240 3 (Or.inl (by decide))).trans hm.2.2.1, hm.2.2.2⟩
variable {I J : qI} {f U S dn R O W : Nat}
theorem fr_d (hx : qXo s t t') (h : qFr I J) : qd J t = qd I t := by
  have := xo_tt hx
  exact qd_same fun a h1 h2 => h.1 a (by unfold qSc; omega)
theorem fr_190 (h : qFr I J) : J (188 + 2) = I (188 + 2) := h.1 _ (by unfold qSc; omega)
theorem h1_fr (h : qH1 I s t t' f U S dn R O W) (hf : qFr I J) (hk : qKs s s') : qH1 J s' t t' f U S dn R O W := by
  obtain ⟨hx, hm, h3, ht⟩ := h
  refine ⟨xo_ks hk hx, qmf_ks hk h3 hm, h3, ?_⟩
  rw [fr_d hx hf, fr_190 hf]
  exact tie_congr (me_congr fun k hk => hf.1 _ (by unfold qSc; omega)) (hf.1 _ (by unfold qSc; omega)) ht
end KS
theorem ans_K {I I1 J : qI} {L : qL} {s s1 : qS} {j j' : Nat} {as as' : List Value} {v : Value} {r : Int32} (h1 : jD j as (I, L, s) = some (some v, cT I1 r, L, s1)) (hf1 : qFr I I1) (hk : qKs s s1) (h2 : jD j' as' (cT I1 r, L, s1) = some (some v, mG J 240 r, L, s1)) (hf : qFr (cT I1 r) J) (hx : J 100 = cT I1 r 100) (hr : r ≠ 4) : qAns I L s j as j' as' :=
  ⟨v, r, _, _, _, _, _, _, h1, h2, fr_trans hf1 (fr_trans fr_cT (fr_trans hf fr_mG)), by rw [mG_x, hx, cT, q_up_eq, q_set_eq], mG_1, mG_2, hr, hk, fun _ => rfl, by rw [cT, q_up_ne (by decide)]; exact hf1.1 1 (by unfold qSc; omega), hk.1⟩
theorem Y_pcongr {D : Nat → Nat → Int32} {P P' : Nat → Int32} {U : Nat} {sd : Int32} (hU : U ≤ 6) (h : ∀ k, k < 19 → P k = P' k) : ∀ n, qYe U (q_Y D P U sd n) (q_Y D P' U sd n) := by
  intro n
  induction n with
  | zero => exact ⟨fun u hu => ⟨rfl, h u (by omega), rfl⟩, rfl⟩
  | succ n ih =>
    have ha : ∀ sp k, k < U → q_ai D P sp n k = q_ai D P' sp n k := fun sp k hk => by
      show q_aim D P sp k (w n) = q_aim D P' sp k (w n)
      unfold q_aim
      rw [h 18 (by omega), h (6 + k) (by omega), h (12 + k) (by omega)]
    have hfl : ∀ sp k, k < U → q_fl D P sp U n k = q_fl D P' sp U n k := fun sp k hk => flock_congr2 hk fun j hj => ⟨ha sp j hj, rfl⟩
    have e : ∀ x, q_day D P U n x = q_day D P' U n x := fun x => by
      unfold q_day
      exact q_it_congr (fun u z hu => move_congr (ha x.1 u hu) (by show q_fl D P x.1 U n (6 * n + u - 6 * n) = q_fl D P' x.1 U n (6 * n + u - 6 * n); rw [Nat.add_sub_cancel_left]; exact hfl x.1 u hu) z) x
    show qYe U (q_day D P U n (q_Y D P U sd n)) (q_day D P' U n (q_Y D P' U sd n))
    rw [e]
    exact day_alike ih
section TR
variable {I : qI} {L : qL} {s : qS} {t t' f U S dn R O W : Nat}
/-- the year of trial by a plan at q -/
theorem cTrial (hx : qXo s t t') (hU : qd I t 0 5 = w U) (hU9 : U ≤ 6) (hd : qd I t 0 0 = w dn) (hd9 : dn ≤ 20) {q : Nat} (hq : q = 188 ∨ q = 191) (sd : Int32) : ∃ J s2, jD 105 [.ref 214, .ref t, .ref q, .int sd] (I, L, s) = some (none, J, L, s2) ∧ jD 106 [.ref 214] (J, L, s2) = some (some (.int (q_arr (qd I t) (q_Y (qd I t) (I (q + 2)) U sd dn).1 U)), J, L, s2) ∧ qFr I J ∧ J 100 = I 100 ∧ J 214 9 = (q_Y (qd I t) (I (q + 2)) U sd dn).2.2.2 ∧ qKs s s2 := by
  have htt := xo_tt hx
  have hP : qPl s q := by rcases hq with rfl | rfl; exact xo_now hx; exact xo_try hx
  obtain ⟨pl, st, fk, fa, sp, ai, le, sd', e1, h1, h2, h3⟩ := pass_eq (L := L) (xo_ty hx) (xo_ft hx) hP (xo_t0 hx) (by omega) (by omega) (by omega) hU hU9 hd hd9 sd
  have hfr : qFr I (q_ym I 214 pl st fk fa sp ai le sd') := by
    refine ⟨fun a ha => ?_, ⟨?_, ?_, ?_⟩, ?_, ?_, ?_, ?_⟩
    · unfold qSc at ha
      rw [ym_out (by omega)]
    all_goals rw [ym_out (by omega)]
  have hks : qKs s (q_ptr (q_ptr s 214 7 t) 214 8 q) := ⟨rfl, fun a k h => by rw [ptr_r_ne (by omega), ptr_r_ne (by omega)]⟩
  have hY : qYr (q_ptr (q_ptr s 214 7 t) 214 8 q) 214 t q := ⟨ks_yr hks (Or.inr rfl) (xo_ty hx), (ptr_r_ne (Or.inr (by decide))).trans ptr_r_eq, ptr_r_eq⟩
  have hx2 := xo_ks hks hx
  have hdd := fr_d hx hfr
  refine ⟨_, _, e1, ?_, hfr, by rw [ym_out (by omega)], ?_, hks⟩
  · have h9 := arrivals_eq (I := q_ym I 214 pl st fk fa sp ai le sd') (L := L) hY (xo_ft hx2) (xo_t0 hx) (by rw [hdd]; exact hU) hU9
    rw [hdd, arr_congr (sp' := (q_Y (qd I t) (I (q + 2)) U sd dn).1) (fun u hu => ?_)] at h9
    · exact h9
    · show q_ym I 214 pl st fk fa sp ai le sd' (214 + 1 + 2 * 4 + 1) u = _
      rw [ym_4]
      exact (h2 u hu).1
  · rw [ym_y, q_set_eq]; exact h3
/-- how many arrive if u sets out on a day -/
def q_by (D : Nat → Nat → Int32) (P : Nat → Int32) (U dn u d : Nat) : Nat := q_pop (q_arr D (q_Y D (q_set P (6 + u) (w d)) U (-1) dn).1 U).toNatClampNeg
theorem by_eq (hx : qXo s t t') (hU : qd I t 0 5 = w U) (hU9 : U ≤ 6) (hd : qd I t 0 0 = w dn) (hd9 : dn ≤ 20) {u d : Nat} (hu : u < U) : ∃ J s2, jD 178 [.ref 100, .int (w u), .int (w d)] (I, L, s) = some (some (.int (w (q_by (qd I t) (I (188 + 2)) U dn u d))), J, L, s2) ∧ qFr I J ∧ J 100 = I 100 ∧ qKs s s2 := by
  have htt := xo_tt hx
  have n1 := xo_now hx
  have n2 := xo_try hx
  have hcp := copy_eq (I := I) (L := L) n2.2.2 n1.2.2 (by decide) (to := 0) (fr := 0) (len := 19) (by omega) (by omega)
  generalize hI1 : q_up I (191 + 1 + 1) (fun k => if 0 ≤ k ∧ k < 0 + 19 then I (188 + 1 + 1) (0 + (k - 0)) else I (191 + 1 + 1) k) = I1 at hcp
  have hro : jD 44 [.ref 188, .int (w u)] (I1, L, s) = some (some (.int (I (188 + 2) (12 + u))), I1, L, s) := by
    rw [routeOf_eq n1, show (12 : Int32) = w 12 from rfl, w_add, q_at_w (n := 19) (k := 12 + u) (by omega) (by omega), ← hI1, q_up_ne (by decide)]
  generalize hI2 : q_up (q_up I1 (191 + 1 + 1) (q_set (I1 (191 + 1 + 1)) (6 + u) (w d))) (191 + 1 + 1) (q_set (q_set (I1 (191 + 1 + 1)) (6 + u) (w d)) (12 + u) (I (188 + 2) (12 + u))) = I2
  have hfr2 : qFr I I2 := by
    rw [← hI2, ← hI1]
    exact fr_trans (fr_up (by unfold qSc; omega) (by omega) (by omega)) (fr_trans (fr_up (by unfold qSc; omega) (by omega) (by omega)) (fr_up (by unfold qSc; omega) (by omega) (by omega)))
  have h100 : I2 100 = I 100 := by rw [← hI2, ← hI1, q_up_ne (by decide), q_up_ne (by decide), q_up_ne (by decide)]
  have hdd := fr_d hx hfr2
  have hpl : ∀ k, k < 19 → I2 (191 + 2) k = q_set (I (188 + 2)) (6 + u) (w d) k := by
    intro k hk
    rw [← hI2]
    show q_up _ (191 + 1 + 1) _ (191 + 1 + 1) k = _
    rw [q_up_eq, ← hI1, q_up_eq]
    unfold q_set
    by_cases c1 : k = 12 + u
    · subst c1
      rw [if_pos rfl, if_neg (by omega)]
    · rw [if_neg c1]
      by_cases c2 : k = 6 + u
      · rw [if_pos c2, if_pos c2]
      · rw [if_neg c2, if_neg c2]
        show (if 0 ≤ k ∧ k < 0 + 19 then I (188 + 1 + 1) (0 + (k - 0)) else _) = _
        rw [if_pos (by omega), Nat.zero_add, Nat.sub_zero]
  obtain ⟨J, s2, e1, e2, e3, e4, -, e6⟩ := cTrial (I := I2) (L := L) hx (by rw [hdd]; exact hU) hU9 (by rw [hdd]; exact hd) hd9 (q := 191) (Or.inr rfl) (-1)
  rw [hdd] at e2
  have hye := Y_pcongr (D := qd I t) (sd := -1) hU9 hpl dn
  rw [arr_congr (fun v hv => (hye.1 v hv).1)] at e2
  obtain ⟨N, hN, hN9, -⟩ := arr_mask (D := qd I t) (sp := (q_Y (qd I t) (q_set (I (188 + 2)) (6 + u) (w d)) U (-1) dn).1) hU9
  have hx2 := xo_ks e6 hx
  have hb : q_by (qd I t) (I (188 + 2)) U dn u d = q_pop N := by unfold q_by; rw [hN, w_tc (by omega)]
  rw [hN] at e2
  refine ⟨J, s2, ?_, fr_trans hfr2 e3, e4.trans h100, e6⟩
  rw [hb, D_178, E_178_0]
  simp only [↓reduceIte, q_i, q_l, q_k, q_r, q_z, q_si, q_sl, jx_lt, jx_ri, jx_rl, jx_rv, if_true, if_false, Nat.reduceLeDiff, Nat.add_one_ne_zero, and_self, true_or, or_true, Nat.reduceEqDiff, or_self, or_false, false_or, xo_k hx, xo_r0 hx, xo_r1 hx, xo_r2 hx, xo_r3 hx, xo_r4 hx, xo_r5 hx, xo_r6 hx, xo_r7 hx, xo_r8 hx, xo_r9 hx, xo_r10 hx, xo_r11 hx, xo_ka hx, xo_ra0 hx, xo_ra1 hx, xo_ko hx, xo_ro0 hx, xo_ro1 hx, xo_kf hx, xo_rf0 hx, xo_kh hx, xo_rh0 hx, xo_ke hx, xo_re0 hx, xo_re1 hx, xo_kn hx, xo_zn hx, xo_re2 hx, xo_re3 hx, xo_kt hx, xo_rt0 hx, xo_t0 hx, (xo_ft hx).1, (xo_now hx).1, (xo_now hx).2.1, (xo_now hx).2.2.1, (xo_try hx).1, (xo_yr hx).1.1, (xo_ty hx).1, D_41, E_41_0, n2.2.1, n2.2.2.1]
  rw [show (0 : Int32) = w 0 from rfl, show (19 : Int32) = w 19 from rfl, hcp]
  simp only [↓reduceIte, q_i, q_l, q_k, q_r, q_z, q_si, q_sl, jx_lt, jx_ri, jx_rl, jx_rv, if_true, if_false, Nat.reduceLeDiff, Nat.add_one_ne_zero, and_self, true_or, or_true, Nat.reduceEqDiff, or_self, or_false, false_or, xo_k hx, xo_r0 hx, xo_r1 hx, xo_r2 hx, xo_r3 hx, xo_r4 hx, xo_r5 hx, xo_r6 hx, xo_r7 hx, xo_r8 hx, xo_r9 hx, xo_r10 hx, xo_r11 hx, xo_ka hx, xo_ra0 hx, xo_ra1 hx, xo_ko hx, xo_ro0 hx, xo_ro1 hx, xo_kf hx, xo_rf0 hx, xo_kh hx, xo_rh0 hx, xo_ke hx, xo_re0 hx, xo_re1 hx, xo_kn hx, xo_zn hx, xo_re2 hx, xo_re3 hx, xo_kt hx, xo_rt0 hx, xo_t0 hx, (xo_ft hx).1, (xo_now hx).1, (xo_now hx).2.1, (xo_now hx).2.2.1, (xo_try hx).1, (xo_yr hx).1.1, (xo_ty hx).1, n2.2.1, n2.2.2.1, hro, D_47, E_47_0, put_eq n2.2.2, show (6 : Int32) = w 6 from rfl, show (12 : Int32) = w 12 from rfl, w_add, q_put_w (n := 19) (k := 6 + u) (by omega) (by omega), q_put_w (n := 19) (k := 12 + u) (by omega) (by omega), q_up_eq, hI2, e1, e2]
  simp only [hx2.1, (xo_ty hx2).1, xo_r8 hx2, ↓reduceIte, q_i, q_l, q_k, q_r, q_z, q_si, q_sl, jx_lt, jx_ri, jx_rl, jx_rv, if_true, if_false, Nat.reduceLeDiff, Nat.add_one_ne_zero, and_self, true_or, or_true, Nat.reduceEqDiff, or_self, or_false, false_or, e2, bitCount_eq hN9]
/-- the first best day -/
def q_first (D : Nat → Nat → Int32) (P : Nat → Int32) (U dn u n : Nat) : Nat × Int32 := q_it (fun d p => if w (q_by D P U dn u d) ≤ p.2 then p else (d, w (q_by D P U dn u d))) n (0, -1)
theorem first_eq (hx : qXo s t t') (hU : qd I t 0 5 = w U) (hU9 : U ≤ 6) (hd : qd I t 0 0 = w dn) (hd9 : dn ≤ 20) {u : Nat} (hu : u < U) : ∃ J s2, jD 179 [.ref 100, .int (w u)] (I, L, s) = some (some (.int (w (q_first (qd I t) (I (188 + 2)) U dn u dn).1)), J, L, s2) ∧ qFr I J ∧ J 100 = I 100 ∧ qKs s s2 := by
  obtain ⟨⟨J, s2⟩, e, h1, h2, h3⟩ := q_loopE (P := fun i (x : qI × qS) => qFr I x.1 ∧ x.1 100 = I 100 ∧ qKs s x.2) (F := fun i x => jd 179 1 [some (.ref 100), some (.int (w u)), some (.int (w (q_first (qd I t) (I (188 + 2)) U dn u i).1)), some (.int (q_first (qd I t) (I (188 + 2)) U dn u i).2), some (.int (w i)), none] [] (x.1, L, x.2)) (n := dn) (fun i x hi hx1 => by
    obtain ⟨h1, h2, h3⟩ := hx1
    have hx2 := xo_ks h3 hx
    have hdd := fr_d hx h1
    obtain ⟨J, s2, e1, e2, e3, e4⟩ := by_eq (I := x.1) (L := L) hx2 (by rw [hdd]; exact hU) hU9 (by rw [hdd]; exact hd) hd9 (u := u) (d := i) hu
    rw [hdd, fr_190 h1] at e1
    have hd' : jD 16 [.ref t] (x.1, L, x.2) = some (some (.int (w dn)), x.1, L, x.2) := by rw [days_eq (xo_ft hx2), hdd, hd]
    have hx3 := xo_ks e4 hx2
    refine ⟨(J, s2), ?_, fr_trans h1 e2, e3.trans h2, ks_trans h3 e4⟩
    have hstep : q_first (qd I t) (I (188 + 2)) U dn u (i + 1) = if w (q_by (qd I t) (I (188 + 2)) U dn u i) ≤ (q_first (qd I t) (I (188 + 2)) U dn u i).2 then q_first (qd I t) (I (188 + 2)) U dn u i else (i, w (q_by (qd I t) (I (188 + 2)) U dn u i)) := rfl
    show jd 179 1 _ _ _ = jd 179 1 _ _ _
    rw [hstep, E_179_1]
    simp only [↓reduceIte, q_i, q_l, q_k, q_r, q_z, q_si, q_sl, jx_lt, jx_ri, jx_rl, jx_rv, if_true, if_false, Nat.reduceLeDiff, Nat.add_one_ne_zero, and_self, true_or, or_true, Nat.reduceEqDiff, or_self, or_false, false_or, xo_k hx2, xo_r0 hx2, xo_t0 hx, (xo_ft hx2).1, hd', w_nle hi (by omega), e1, E_179_2, w_inc]
    by_cases c : w (q_by (qd I t) (I (188 + 2)) U dn u i) ≤ (q_first (qd I t) (I (188 + 2)) U dn u i).2
    · rw [if_pos c, if_pos c]
    · rw [if_neg c, if_neg c]) (I, s) ⟨fr_refl, rfl, ks_refl⟩
  have hx2 := xo_ks h3 hx
  have hdd := fr_d hx h1
  have hd' : jD 16 [.ref t] (J, L, s2) = some (some (.int (w dn)), J, L, s2) := by rw [days_eq (xo_ft hx2), hdd, hd]
  refine ⟨J, s2, ?_, h1, h2, h3⟩
  rw [D_179, E_179_0]
  refine Eq.trans e ?_
  show jd 179 1 _ _ _ = _
  rw [E_179_1]
  simp only [↓reduceIte, q_i, q_l, q_k, q_r, q_z, q_si, q_sl, jx_lt, jx_ri, jx_rl, jx_rv, if_true, if_false, Nat.reduceLeDiff, Nat.add_one_ne_zero, and_self, true_or, or_true, Nat.reduceEqDiff, or_self, or_false, false_or, xo_k hx2, xo_r0 hx2, xo_t0 hx, (xo_ft hx2).1, hd', Int32.le_refl, E_179_3]
end TR
