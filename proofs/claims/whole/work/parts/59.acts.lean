/-! ACTS: what is remembered, on both sides -/
/-- a plan of the class and one of the reference -/
def qPR (D : Nat → Nat → Int32) (U S dn : Nat) (P V : Nat → Int32) : Prop := qVP D P U S dn ∧ qRV D P V U S ∧ (∀ u, u < U → ∃ a, P u = w a ∧ a ≤ 30) ∧ (∃ n, P 18 = w n ∧ n < 64) ∧ ∀ u, u < U → ∃ k g, k ≤ 5 ∧ (∀ i, i < k → g i < 8) ∧ P (12 + u) = w (q_cd g k)
theorem pr_congr {D : Nat → Nat → Int32} {U S dn : Nat} {P V P' V' : Nat → Int32} (hU : U ≤ 6) (hP : ∀ k, k < 19 → P' k = P k) (hV : ∀ k, k < 49 → V' k = V k) (h : qPR D U S dn P V) : qPR D U S dn P' V' := by
  obtain ⟨h1, ⟨h2, h3⟩, h4, h5, h6⟩ := h
  refine ⟨fun u hu => ?_, ⟨by rw [hV 48 (by omega), hP 18 (by omega)]; exact h2, fun u hu => ?_⟩, fun u hu => by rw [hP u (by omega)]; exact h4 u hu, by rw [hP 18 (by omega)]; exact h5, fun u hu => by rw [hP (12 + u) (by omega)]; exact h6 u hu⟩
  · rw [hP (6 + u) (by omega), hP (12 + u) (by omega)]; exact h1 u hu
  · obtain ⟨a1, a2, a3⟩ := h3 u hu
    rw [hV u (by omega), hP u (by omega), hV (6 + u) (by omega), hP (6 + u) (by omega), hP (12 + u) (by omega), hV (12 + u) (by omega)]
    refine ⟨a1, a2, fun g e hg => ?_⟩
    obtain ⟨k, g', b1, b2, b3⟩ := a3 g e hg
    exact ⟨k, g', b1, b2, fun i hi => by have := b1.1; rw [hV (18 + 5 * u + i) (by omega)]; exact b3 i hi⟩
/-- what can be undone, marks -/
def qAc (I : qI) (D : Nat → Nat → Int32) (U S dn : Nat) : Prop := ∃ o n k, I 194 2 = w o ∧ o < 16 ∧ I 194 3 = w n ∧ n ≤ 16 ∧ I 194 4 = w k ∧ k ≤ 3 ∧ I 240 19 = w n ∧ I 240 20 = w k ∧
  (∀ i, i < n → qPR D U S dn (fun j => I (195 + 1) (19 * ((o + i) % 16) + j)) (fun j => I (240 + 3) (49 * i + j))) ∧ (∀ i, i < k → qPR D U S dn (fun j => I (197 + 1) (19 * i + j)) (fun j => I (240 + 4) (49 * i + j)))
/-- all that holds with a flight -/
def qHV (I : qI) (s : qS) (t t' f U S dn R O W : Nat) : Prop := qH1 I s t t' f U S dn R O W ∧ qYY I t U dn ∧ qOO I (qd I t) U S ∧ qCa I (qd I t) U S dn R ∧ qPR (qd I t) U S dn (I (188 + 2)) (I (240 + 2)) ∧ qAc I (qd I t) U S dn
def qTo (a : Nat) : Prop := qSc a ∨ a = 190 ∨ a = 194 ∨ a = 196 ∨ a = 198 ∨ (199 ≤ a ∧ a ≤ 213) ∨ a = 242 ∨ a = 243 ∨ a = 244
/-- an act leaves all else as it was -/
def qFrT (I J : qI) : Prop := (∀ a, ¬ qTo a → J a = I a) ∧ (J 100 12 = I 100 12 ∧ J 100 14 = I 100 14 ∧ J 100 15 = I 100 15) ∧ J 240 6 = I 240 6 ∧ J 240 13 = I 240 13
theorem frT_refl {I : qI} : qFrT I I := ⟨fun _ _ => rfl, ⟨rfl, rfl, rfl⟩, rfl, rfl⟩
theorem frT_trans {I J K : qI} (h : qFrT I J) (h' : qFrT J K) : qFrT I K := by
  obtain ⟨a1, ⟨a2, a3, a4⟩, a5, a6⟩ := h
  obtain ⟨b1, ⟨b2, b3, b4⟩, b5, b6⟩ := h'
  exact ⟨fun a h => (b1 a h).trans (a1 a h), ⟨b2.trans a2, b3.trans a3, b4.trans a4⟩, b5.trans a5, b6.trans a6⟩
theorem fr_T {I J : qI} (h : qFr I J) : qFrT I J := ⟨fun a ha => h.1 a fun z => ha (Or.inl z), h.2.1, h.2.2.1, h.2.2.2.1⟩
/-- where cells but 100 and 240 are changed -/
theorem frT_of {I J : qI} (h : ∀ a, ¬ (qTo a ∧ a ≠ 100 ∧ a ≠ 240) → J a = I a) : qFrT I J := by
  have h1 : J 100 = I 100 := h 100 fun z => z.2.1 rfl
  have h2 : J 240 = I 240 := h 240 fun z => z.2.2 rfl
  exact ⟨fun a ha => h a fun z => ha z.1, ⟨by rw [h1], by rw [h1], by rw [h1]⟩, by rw [h2], by rw [h2]⟩
theorem frT_m {I : qI} {g : Nat → Int32} (h : g 6 = I 240 6 ∧ g 13 = I 240 13) : qFrT I (q_up I 240 g) :=
  ⟨fun b hb => q_up_ne (fun e => hb (by subst e; unfold qTo qSc; omega)), ⟨by rw [q_up_ne (by omega)], by rw [q_up_ne (by omega)], by rw [q_up_ne (by omega)]⟩, by rw [q_up_eq]; exact h.1, by rw [q_up_eq]; exact h.2⟩
theorem hv_fr {I J : qI} {s s' : qS} {t t' f U S dn R O W : Nat} (h : qHV I s t t' f U S dn R O W) (hf : qFr I J) (hk : qKs s s') : qHV J s' t t' f U S dn R O W := by
  obtain ⟨h1, h2, h3, h4, h5, h6⟩ := h
  have ed := fr_d h1.1 hf
  have c : ∀ a, ¬ qSc a → J a = I a := hf.1
  refine ⟨h1_fr h1 hf hk, ?_, ?_, ?_, ?_, ?_⟩
  · unfold qYY at h2 ⊢
    rw [ed, c (188 + 2) (by unfold qSc; omega), c (199 + 1 + 2 * 0 + 1) (by unfold qSc; omega), c (199 + 1 + 2 * 1 + 1) (by unfold qSc; omega), c (199 + 1 + 2 * 2 + 1) (by unfold qSc; omega), c (199 + 1 + 2 * 3 + 1) (by unfold qSc; omega), c (199 + 1 + 2 * 4 + 1) (by unfold qSc; omega), c (199 + 1 + 2 * 6 + 1) (by unfold qSc; omega)]
    exact h2
  · unfold qOO at h3 ⊢
    rw [ed, c (232 + 1) (by unfold qSc; omega), c (230 + 1) (by unfold qSc; omega)]
    exact h3
  · rw [ed]; exact ca_congr (c 234 (by unfold qSc; omega)) h4
  · rw [ed, c (188 + 2) (by unfold qSc; omega), c (240 + 2) (by unfold qSc; omega)]; exact h5
  · unfold qAc at h6 ⊢
    rw [ed, c 194 (by unfold qSc; omega), c (195 + 1) (by unfold qSc; omega), c (197 + 1) (by unfold qSc; omega), c (240 + 3) (by unfold qSc; omega), c (240 + 4) (by unfold qSc; omega), hf.2.2.2.2.1, hf.2.2.2.2.2]
    exact h6
theorem hv_F {I J : qI} {s s' : qS} {t t' f U S dn R O W : Nat} (h : qHV I s t t' f U S dn R O W) (hf : qFrF I J) (hk : qKs s s') (hc : qCa J (qd I t) U S dn R) : qHV J s' t t' f U S dn R O W := by
  obtain ⟨h1, h2, h3, h4, h5, h6⟩ := h
  generalize hI' : q_up (q_up I 234 (J 234)) (235 + 1) (J (235 + 1)) = I'
  have hf' : qFr I' J := by rw [← hI']; exact hf
  have c : ∀ a, a ≠ 234 → a ≠ 235 + 1 → I' a = I a := fun a h1 h2 => by rw [← hI', q_up_ne h2, q_up_ne h1]
  obtain ⟨h1', e1⟩ := h1_up h1 (a := 234) (Or.inl rfl) (g := J 234)
  obtain ⟨h1'', e2⟩ := h1_up h1' (a := 235 + 1) (Or.inr rfl) (g := J (235 + 1))
  rw [hI'] at h1'' e2
  have ed : qd I' t = qd I t := e2.trans e1
  refine hv_fr (I := I') ⟨h1'', ?_, ?_, ?_, ?_, ?_⟩ hf' hk
  · unfold qYY at h2 ⊢
    rw [ed, c (188 + 2) (by omega) (by omega), c (199 + 1 + 2 * 0 + 1) (by omega) (by omega), c (199 + 1 + 2 * 1 + 1) (by omega) (by omega), c (199 + 1 + 2 * 2 + 1) (by omega) (by omega), c (199 + 1 + 2 * 3 + 1) (by omega) (by omega), c (199 + 1 + 2 * 4 + 1) (by omega) (by omega), c (199 + 1 + 2 * 6 + 1) (by omega) (by omega)]
    exact h2
  · unfold qOO at h3 ⊢
    rw [ed, c (232 + 1) (by omega) (by omega), c (230 + 1) (by omega) (by omega)]
    exact h3
  · rw [ed]
    refine ca_congr ?_ hc
    rw [← hI', q_up_ne (by decide), q_up_eq]
  · rw [ed, c (188 + 2) (by omega) (by omega), c (240 + 2) (by omega) (by omega)]; exact h5
  · unfold qAc at h6 ⊢
    rw [ed, c 194 (by omega) (by omega), c (195 + 1) (by omega) (by omega), c (197 + 1) (by omega) (by omega), c (240 + 3) (by omega) (by omega), c (240 + 4) (by omega) (by omega), c 240 (by omega) (by omega)]
    exact h6
/-- the new state behind an act -/
theorem hv_new {I J : qI} {s : qS} {t t' f U S dn R O W : Nat} (h : qHV I s t t' f U S dn R O W) (hf : qFrT I J) (hy : qYY J t U dn) (hp : qPR (qd I t) U S dn (J (188 + 2)) (J (240 + 2))) (ha : qAc J (qd I t) U S dn) : qHV J s t t' f U S dn R O W := by
  obtain ⟨h1, h2, h3, h4, h5, h6⟩ := h
  obtain ⟨hx, hm, hf9, hT⟩ := h1
  have htt := xo_tt hx
  have c : ∀ a, ¬ qTo a → J a = I a := hf.1
  have ed : qd J t = qd I t := qd_same fun a h1 h2 => c a (by unfold qTo qSc; omega)
  have em : qme J f = qme I f := me_congr fun k hk => c _ (by unfold qTo qSc; omega)
  refine ⟨⟨hx, hm, hf9, ?_⟩, hy, ?_, ?_, ?_, ?_⟩
  · unfold qTie qMR at hT ⊢
    rw [ed, em]
    exact ⟨⟨hT.1.1, hp.1, hT.1.2.2.1, hp.2.1⟩, hT.2⟩
  · unfold qOO at h3 ⊢
    rw [ed, c (232 + 1) (by unfold qTo qSc; omega), c (230 + 1) (by unfold qTo qSc; omega)]
    exact h3
  · rw [ed]; exact ca_congr (c 234 (by unfold qTo qSc; omega)) h4
  · rw [ed]; exact hp
  · rw [ed]; exact ha
/-- what a call with a flight keeps -/
def qAnsA (I : qI) (L : qL) (s : qS) (t t' f U S dn R O W : Nat) (j : Nat) (as : List Value) (j' : Nat) (as' : List Value) : Prop :=
  ∃ v r J1 L1 s1 J2 L2 s2, jD j as (I, L, s) = some (some v, J1, L1, s1) ∧ jD j' as' (J1, L1, s1) = some (some v, J2, L2, s2) ∧ (∀ a, (a < 188 ∧ a ≠ 100 ∨ a = 241 ∨ 260 ≤ a) → J2 a = I a) ∧ (J2 100 12 = I 100 12 ∧ J2 100 14 = I 100 14 ∧ J2 100 15 = I 100 15) ∧ J2 240 6 = I 240 6 ∧ J2 240 13 = I 240 13 ∧ J2 100 13 = r ∧ J2 240 1 = r ∧ J2 240 2 = -1 ∧ r ≠ 4 ∧ qKs s s2 ∧ (∀ k, L2 182 k = L 182 k) ∧ qHV J2 s2 t t' f U S dn R O W ∧ J1 1 = I 1 ∧ s1.2 = s.2
section AA
variable {I : qI} {L : qL} {s : qS} {t t' f U S dn R O W j j' : Nat} {as as' : List Value}
theorem ansA_0 (h : qHV I s t t' f U S dn R O W) (ha : qAns I L s j as j' as') : qAnsA I L s t t' f U S dn R O W j as j' as' := by
  obtain ⟨v, r, J1, L1, s1, J2, L2, s2, a1, a2, a3, a4, a5, a6, a7, a8, a9, a10, a11⟩ := ha
  exact ⟨v, r, J1, L1, s1, J2, L2, s2, a1, a2, fun a ha => a3.1 a (by unfold qSc; omega), a3.2.1, a3.2.2.1, a3.2.2.2.1, a4, a5, a6, a7, a8, a9, hv_fr h a3 a8, a10, a11⟩
theorem ansA_F (h : qHV I s t t' f U S dn R O W) (ha : qAnsF I L s (qd I t) U S dn R j as j' as') : qAnsA I L s t t' f U S dn R O W j as j' as' := by
  obtain ⟨v, r, J1, L1, s1, J2, L2, s2, a1, a2, a3, a4, a5, a6, a7, a8, a9, a10, a11, a12⟩ := ha
  have c : ∀ a, ¬ qSc a → a ≠ 234 → a ≠ 235 + 1 → J2 a = I a := fun a h1 h2 h3 => by
    rw [a3.1 a h1, q_up_ne h3, q_up_ne h2]
  have e1 : (q_up (q_up I 234 (J2 234)) (235 + 1) (J2 (235 + 1))) 100 = I 100 := by rw [q_up_ne (by decide), q_up_ne (by decide)]
  have e2 : (q_up (q_up I 234 (J2 234)) (235 + 1) (J2 (235 + 1))) 240 = I 240 := by rw [q_up_ne (by decide), q_up_ne (by decide)]
  have b := a3.2
  rw [e1, e2] at b
  exact ⟨v, r, J1, L1, s1, J2, L2, s2, a1, a2, fun a ha => c a (by unfold qSc; omega) (by omega) (by omega), b.1, b.2.1, b.2.2.1, a4, a5, a6, a7, a8, a9, hv_F h a3 a8 a10, a11, a12⟩
/-- an act is done -/
theorem ansA_T {I1 J : qI} {v : Value} (h1 : jD j as (I, L, s) = some (some v, cT I1 0, L, s)) (hf1 : qFrT I I1) (h2 : jD j' as' (cT I1 0, L, s) = some (some v, mG J 240 0, L, s)) (hf : qFrT (cT I1 0) J) (hx : J 100 = cT I1 0 100) (hv : qHV J s t t' f U S dn R O W) : qAnsA I L s t t' f U S dn R O W j as j' as' := by
  have hfr : qFrT I (mG J 240 0) := frT_trans hf1 (frT_trans (fr_T fr_cT) (frT_trans hf (fr_T fr_mG)))
  exact ⟨v, 0, _, _, _, _, _, _, h1, h2, fun a ha => hfr.1 a (by unfold qTo qSc; omega), hfr.2.1, hfr.2.2.1, hfr.2.2.2, by rw [mG_x, hx, cT, q_up_eq, q_set_eq], mG_1, mG_2, by decide, ks_refl, fun _ => rfl, hv_fr hv fr_mG ks_refl, by rw [cT, q_up_ne (by decide)]; exact hf1.1 1 (by unfold qTo qSc; omega), rfl⟩
end AA
/-! the year is passed anew -/
theorem ptr_same {s : qS} {a k v : Nat} (h : qr s a k = v) : q_ptr s a k v = s := by
  obtain ⟨r, k', z, n, w'⟩ := s
  unfold q_ptr
  have : jm_up r a k v = r := by
    funext x y
    unfold jm_up
    by_cases c : x = a ∧ y = k
    · rw [if_pos c, c.1, c.2]; exact h.symm
    · rw [if_neg c]
  show (jm_up r a k v, k', z, n, w') = _
  rw [this]
theorem Y_seed {D : Nat → Nat → Int32} {P : Nat → Int32} {U : Nat} : ∀ n, (q_Y D P U (-1) n).2.2.2 = -1 := by
  have key : ∀ (ai fl : Nat → Int32) (d k : Nat) (x : qY), x.2.2.2 = -1 → (q_it (q_move D ai fl d) k x).2.2.2 = -1 := by
    intro ai fl d k
    induction k with
    | zero => exact fun x h => h
    | succ k ih =>
      intro x h
      have h2 := ih x h
      show (q_move D ai fl d k (q_it _ k x)).2.2.2 = -1
      generalize q_it (q_move D ai fl d) k x = z at h2
      unfold q_move
      split
      · exact h2
      · split
        · show (if z.2.2.2 < 0 then z.2.2.2 else _) = -1
          rw [h2, if_pos m1_lt]
        · exact h2
  intro n
  induction n with
  | zero => rfl
  | succ n ih => exact key _ _ _ _ _ ih
section ST
variable {I : qI} {L : qL} {s : qS} {t t' f U S dn R O W : Nat}
theorem settle_eq (hx : qXo s t t') (hU : qd I t 0 5 = w U) (hU9 : U ≤ 6) (hd : qd I t 0 0 = w dn) (hd9 : dn ≤ 20) : ∃ J, jD 177 [.ref 100] (I, L, s) = some (none, J, L, s) ∧ (∀ a, a < 199 ∨ 214 ≤ a → J a = I a) ∧ qYY J t U dn := by
  have htt := xo_tt hx
  obtain ⟨pl, st, fk, fa, sp, ai, le, sd', e1, h1, h2, h3⟩ := pass_eq (L := L) (xo_yr hx).1 (xo_ft hx) (xo_now hx) (xo_t0 hx) (by omega) (by omega) (by omega) hU hU9 hd hd9 (-1)
  have es : q_ptr (q_ptr s 199 7 t) 199 8 188 = s := by
    rw [ptr_same (xo_yr hx).2.1, ptr_same (xo_yr hx).2.2]
  rw [es] at e1
  refine ⟨q_ym I 199 pl st fk fa sp ai le sd', ?_, fun a ha => ym_out (by omega), ?_⟩
  · rw [D_177, E_177_0]
    simp only [↓reduceIte, q_i, q_l, q_k, q_r, q_z, q_si, q_sl, jx_lt, jx_ri, jx_rl, jx_rv, if_true, if_false, Nat.reduceLeDiff, Nat.add_one_ne_zero, and_self, true_or, or_true, Nat.reduceEqDiff, or_self, or_false, false_or, xo_k hx, xo_r0 hx, xo_r1 hx, xo_r2 hx, xo_r3 hx, xo_r4 hx, xo_r5 hx, xo_r6 hx, xo_r7 hx, xo_r8 hx, xo_r9 hx, xo_r10 hx, xo_r11 hx, xo_ka hx, xo_ra0 hx, xo_ra1 hx, xo_ko hx, xo_ro0 hx, xo_ro1 hx, xo_kf hx, xo_rf0 hx, xo_kh hx, xo_rh0 hx, xo_ke hx, xo_re0 hx, xo_re1 hx, xo_kn hx, xo_zn hx, xo_re2 hx, xo_re3 hx, xo_kt hx, xo_rt0 hx, xo_t0 hx, (xo_ft hx).1, (xo_now hx).1, (xo_now hx).2.1, (xo_now hx).2.2.1, (xo_try hx).1, (xo_yr hx).1.1, (xo_ty hx).1, e1]
  · have ed : qd (q_ym I 199 pl st fk fa sp ai le sd') t = qd I t := qd_same fun a h1 h2 => ym_out (by omega)
    unfold qYY
    rw [ed, ym_out (show 188 + 2 < 199 ∨ 199 + 15 ≤ 188 + 2 by omega), ym_0, ym_1, ym_2, ym_3, ym_4, ym_6]
    exact ⟨h1, h2, (Y_seed dn).symm⟩
end ST
/-! remembering -/
section REM
variable {I : qI} {L : qL} {s : qS} {t t' : Nat}
theorem rem16 {a : Nat} (h : a < 1000000) : w a - w a / 16 * 16 = w (a % 16) := rem_w (a := a) (b := 16) (by omega) (by omega) (by omega)
theorem past_eq (hx : qXo s t t') {o i : Nat} (ho : I 194 2 = w o) (ho9 : o < 100) (hi : i < 100) : jD 6 [.ref 194, .int (w i)] (I, L, s) = some (some (.int (w ((o + i) % 16 * 19))), I, L, s) := by
  rw [D_6, E_6_0]
  simp only [↓reduceIte, q_i, q_l, q_k, q_r, q_z, q_si, q_sl, jx_lt, jx_ri, jx_rl, jx_rv, if_true, if_false, Nat.reduceLeDiff, Nat.add_one_ne_zero, and_self, true_or, or_true, Nat.reduceEqDiff, or_self, or_false, false_or, xo_k hx, xo_r0 hx, xo_r1 hx, xo_r2 hx, xo_r3 hx, xo_r4 hx, xo_r5 hx, xo_r6 hx, xo_r7 hx, xo_r8 hx, xo_r9 hx, xo_r10 hx, xo_r11 hx, xo_ka hx, xo_ra0 hx, xo_ra1 hx, xo_ko hx, xo_ro0 hx, xo_ro1 hx, xo_kf hx, xo_rf0 hx, xo_kh hx, xo_rh0 hx, xo_ke hx, xo_re0 hx, xo_re1 hx, xo_kn hx, xo_zn hx, xo_re2 hx, xo_re3 hx, xo_kt hx, xo_rt0 hx, xo_t0 hx, (xo_ft hx).1, (xo_now hx).1, (xo_now hx).2.1, (xo_now hx).2.2.1, (xo_try hx).1, (xo_yr hx).1.1, (xo_ty hx).1, ho, w_add, rem16 (a := o + i) (by omega), show ¬ (16 : Int32) = 0 by decide, show (19 : Int32) = w 19 from rfl, w_mul]
theorem rem_eq (hx : qXo s t t') {o n : Nat} (ho : I 194 2 = w o) (ho9 : o < 16) (hn : I 194 3 = w n) (hn9 : n ≤ 16) : ∃ J, jD 2 [.ref 194, .ref 188] (I, L, s) = some (none, J, L, s) ∧ (∀ a, a ≠ 194 → a ≠ 195 + 1 → J a = I a) ∧
    J 194 2 = w (if n < 16 then o else (o + 1) % 16) ∧ J 194 3 = w (if n < 16 then n + 1 else 16) ∧ J 194 4 = I 194 4 ∧ ∀ k, J (195 + 1) k = if (o + n) % 16 * 19 ≤ k ∧ k < (o + n) % 16 * 19 + 19 then I (188 + 1 + 1) (k - (o + n) % 16 * 19) else I (195 + 1) k := by
  have hlt : (o + n) % 16 < 16 := Nat.mod_lt _ (by omega)
  have hcp := copy_eq (I := I) (L := L) (xo_past hx) (xo_now hx).2.2 (by decide) (to := (o + n) % 16 * 19) (fr := 0) (len := 19) (by omega) (by omega)
  have hcp' : jD 83 [.ref 195, .int (w ((o + n) % 16 * 19)), .ref (188 + 1), .int 0, .int 19] (I, L, s) = _ := hcp
  generalize hK : q_up I (195 + 1) (fun k => if (o + n) % 16 * 19 ≤ k ∧ k < (o + n) % 16 * 19 + 19 then I (188 + 1 + 1) (0 + (k - (o + n) % 16 * 19)) else I (195 + 1) k) = K at hcp'
  have k194 : K 194 = I 194 := by rw [← hK, q_up_ne (by decide)]
  have kp : ∀ k, K (195 + 1) k = if (o + n) % 16 * 19 ≤ k ∧ k < (o + n) % 16 * 19 + 19 then I (188 + 1 + 1) (k - (o + n) % 16 * 19) else I (195 + 1) k := fun k => by
    rw [← hK, q_up_eq, Nat.zero_add]
  have ka : ∀ a, a ≠ 195 + 1 → K a = I a := fun a h => by rw [← hK, q_up_ne h]
  have e0 : jD 2 [.ref 194, .ref 188] (I, L, s) = if (16 : Int32) ≤ w n then jd 2 1 [some (.ref 194), none] [] (K, L, s) else some (none, q_up K 194 (q_set (K 194) 3 (w n + 1)), L, s) := by
    rw [D_2, E_2_0]
    simp only [↓reduceIte, q_i, q_l, q_k, q_r, q_z, q_si, q_sl, jx_lt, jx_ri, jx_rl, jx_rv, if_true, if_false, Nat.reduceLeDiff, Nat.add_one_ne_zero, and_self, true_or, or_true, Nat.reduceEqDiff, or_self, or_false, false_or, xo_k hx, xo_r0 hx, xo_r1 hx, xo_r2 hx, xo_r3 hx, xo_r4 hx, xo_r5 hx, xo_r6 hx, xo_r7 hx, xo_r8 hx, xo_r9 hx, xo_r10 hx, xo_r11 hx, xo_ka hx, xo_ra0 hx, xo_ra1 hx, xo_ko hx, xo_ro0 hx, xo_ro1 hx, xo_kf hx, xo_rf0 hx, xo_kh hx, xo_rh0 hx, xo_ke hx, xo_re0 hx, xo_re1 hx, xo_kn hx, xo_zn hx, xo_re2 hx, xo_re3 hx, xo_kt hx, xo_rt0 hx, xo_t0 hx, (xo_ft hx).1, (xo_now hx).1, (xo_now hx).2.1, (xo_now hx).2.2.1, (xo_try hx).1, (xo_yr hx).1.1, (xo_ty hx).1, hn, past_eq hx ho (show o < 100 by omega) (show n < 100 by omega), (xo_now hx).1, (xo_now hx).2.1, (xo_past hx).1, hcp', k194, E_2_2]
  by_cases c : n < 16
  · rw [if_pos c, if_pos c]
    refine ⟨q_up K 194 (q_set (K 194) 3 (w (n + 1))), ?_, fun a h1 h2 => by rw [q_up_ne h1, ka a h2], ?_, ?_, ?_, fun k => by rw [q_up_ne (by decide), kp]⟩
    · rw [e0, if_neg (by rw [show (16 : Int32) = w 16 from rfl, w_le (by omega) (by omega)]; omega), w_inc]
    · rw [q_up_eq, q_set_ne (by decide), k194, ho]
    · rw [q_up_eq, q_set_eq]
    · rw [q_up_eq, q_set_ne (by decide), k194]
  · obtain rfl : n = 16 := by omega
    rw [if_neg c, if_neg c]
    refine ⟨q_up K 194 (q_set (K 194) 2 (w ((o + 1) % 16))), ?_, fun a h1 h2 => by rw [q_up_ne h1, ka a h2], ?_, ?_, ?_, fun k => by rw [q_up_ne (by decide), kp]⟩
    · rw [e0, if_pos (by decide), E_2_1]
      simp only [↓reduceIte, q_i, q_l, q_k, q_r, q_z, q_si, q_sl, jx_lt, jx_ri, jx_rl, jx_rv, if_true, if_false, Nat.reduceLeDiff, Nat.add_one_ne_zero, and_self, true_or, or_true, Nat.reduceEqDiff, or_self, or_false, false_or, xo_k hx, xo_r0 hx, xo_r1 hx, xo_r2 hx, xo_r3 hx, xo_r4 hx, xo_r5 hx, xo_r6 hx, xo_r7 hx, xo_r8 hx, xo_r9 hx, xo_r10 hx, xo_r11 hx, xo_ka hx, xo_ra0 hx, xo_ra1 hx, xo_ko hx, xo_ro0 hx, xo_ro1 hx, xo_kf hx, xo_rf0 hx, xo_kh hx, xo_rh0 hx, xo_ke hx, xo_re0 hx, xo_re1 hx, xo_kn hx, xo_zn hx, xo_re2 hx, xo_re3 hx, xo_kt hx, xo_rt0 hx, xo_t0 hx, (xo_ft hx).1, (xo_now hx).1, (xo_now hx).2.1, (xo_now hx).2.2.1, (xo_try hx).1, (xo_yr hx).1.1, (xo_ty hx).1, k194, ho, w_inc, rem16 (a := o + 1) (by omega), show ¬ (16 : Int32) = 0 by decide, E_2_2]
    · rw [q_up_eq, q_set_eq]
    · rw [q_up_eq, q_set_ne (by decide), k194, hn]
    · rw [q_up_eq, q_set_ne (by decide), k194]
/-- the reference's remembering -/
theorem keeps_eq (hm : qMo s 240) {n : Nat} (hn : I 240 19 = w n) (hn9 : n ≤ 16) : ∃ J, jD 305 [.ref 240] (I, L, s) = some (none, J, L, s) ∧ (∀ a, a ≠ 240 → a ≠ 240 + 3 → J a = I a) ∧ (∀ j, j ≠ 19 → J 240 j = I 240 j) ∧ J 240 19 = w (if n < 16 then n + 1 else 16) ∧
    (n < 16 → ∀ k, k < 784 → J (240 + 3) k = if 49 * n ≤ k ∧ k < 49 * n + 49 then I (240 + 2) (k - 49 * n) else I (240 + 3) k) ∧ (¬ n < 16 → ∀ k, k < 784 → J (240 + 3) k = if k < 735 then I (240 + 3) (k + 49) else I (240 + 2) (k - 735)) := by
  have write : ∀ (n : Nat) (K : qI), n < 16 → K 240 19 = w n → ∃ J, jd 305 3 [some (.ref 240), none] [] (K, L, s) = some (none, J, L, s) ∧ (∀ a, a ≠ 240 → a ≠ 240 + 3 → J a = K a) ∧ (∀ j, j ≠ 19 → J 240 j = K 240 j) ∧ J 240 19 = w (n + 1) ∧ ∀ k, J (240 + 3) k = if 49 * n ≤ k ∧ k < 49 * n + 49 then K (240 + 2) (k - 49 * n) else K (240 + 3) k := by
    intro n K hn9 hn
    obtain ⟨J1, e1, h1⟩ := q_loopE (P := fun i (J : qI) => J = q_up K (240 + 3) (fun k => if 49 * n ≤ k ∧ k < 49 * n + i then K (240 + 2) (k - 49 * n) else K (240 + 3) k)) (F := fun i J => jd 305 4 [some (.ref 240), some (.int (w i))] [] (J, L, s)) (n := 49) (fun i J hi hJ => by
      refine ⟨_, ?_, rfl⟩
      subst hJ
      have a1 : ∀ g : Nat → Int32, q_up K (240 + 3) g 240 = K 240 := fun g => q_up_ne (by decide)
      have a2 : ∀ g : Nat → Int32, q_up K (240 + 3) g (240 + 2) = K (240 + 2) := fun g => q_up_ne (by decide)
      show jd 305 4 _ _ _ = jd 305 4 _ _ _
      rw [E_305_4, if_neg (by rw [show (49 : Int32) = w 49 from rfl, w_le (by omega) (by omega)]; omega)]
      simp only [show (49 : Int32) = w 49 from rfl, ↓reduceIte, q_i, q_l, q_k, q_r, q_z, q_si, q_sl, jx_lt, jx_ri, jx_rl, jx_rv, if_true, if_false, Nat.reduceLeDiff, Nat.add_one_ne_zero, and_self, true_or, or_true, Nat.reduceEqDiff, or_self, or_false, false_or, mo_k hm, mo_r17 hm, mo_k17 hm, mo_z17 hm, mo_r16 hm, mo_k16 hm, mo_z16 hm, a1, a2, hn, w_mul, w_add, w_nn (a := i) (by omega), show ¬ 49 ≤ i by omega, w_tc (a := i) (by omega), w_nn (a := 49 * n + i) (by omega), show ¬ 784 ≤ 49 * n + i by omega, w_tc (a := 49 * n + i) (by omega), q_up_eq, q_up_up, w_inc]
      congr 2
      congr 1
      funext k
      unfold q_set
      by_cases c : k = 49 * n + i
      · subst c
        rw [if_pos rfl, if_pos (by omega), Nat.add_sub_cancel_left]
      · rw [if_neg c]
        show (if 49 * n ≤ k ∧ k < 49 * n + i then _ else _) = _
        by_cases c2 : 49 * n ≤ k ∧ k < 49 * n + i
        · rw [if_pos c2, if_pos (by omega)]
        · rw [if_neg c2, if_neg (by omega)]) K (by
      have : (fun k => if 49 * n ≤ k ∧ k < 49 * n + 0 then K (240 + 2) (k - 49 * n) else K (240 + 3) k) = K (240 + 3) := by funext k; rw [if_neg (by omega)]
      rw [this, q_up_self])
    have a1 : ∀ g : Nat → Int32, q_up K (240 + 3) g 240 = K 240 := fun g => q_up_ne (by decide)
    refine ⟨q_up J1 240 (q_set (K 240) 19 (w (n + 1))), ?_, fun a h2 h3 => ?_, fun j hj => ?_, ?_, fun k => ?_⟩
    · rw [E_305_3]
      refine Eq.trans e1 ?_
      subst h1
      show jd 305 4 _ _ _ = _
      rw [E_305_4, if_pos (by decide), E_305_5]
      simp only [↓reduceIte, q_i, q_l, q_k, q_r, q_z, q_si, q_sl, jx_lt, jx_ri, jx_rl, jx_rv, if_true, if_false, Nat.reduceLeDiff, Nat.add_one_ne_zero, and_self, true_or, or_true, Nat.reduceEqDiff, or_self, or_false, false_or, mo_k hm, a1, hn, w_inc]
    · rw [q_up_ne h2, h1, q_up_ne h3]
    · rw [q_up_eq, q_set_ne hj]
    · rw [q_up_eq, q_set_eq]
    · rw [q_up_ne (by decide), h1, q_up_eq]
  by_cases c : n < 16
  · obtain ⟨J, e1, h1, h2, h3, h4⟩ := write n I c hn
    refine ⟨J, ?_, h1, h2, by rw [if_pos c]; exact h3, fun _ k _ => h4 k, fun z => absurd c z⟩
    rw [D_305, E_305_0]
    simp only [↓reduceIte, q_i, q_l, q_k, q_r, q_z, q_si, q_sl, jx_lt, jx_ri, jx_rl, jx_rv, if_true, if_false, Nat.reduceLeDiff, Nat.add_one_ne_zero, and_self, true_or, or_true, Nat.reduceEqDiff, or_self, or_false, false_or, mo_k hm, hn, show ¬ w n = (16 : Int32) by rw [show (16 : Int32) = w 16 from rfl, w_eq (by omega) (by omega)]; omega, e1]
  · obtain rfl : n = 16 := by omega
    obtain ⟨J1, e1, g, h1, hg⟩ := q_loopE (P := fun i (J : qI) => ∃ g : Nat → Int32, J = q_up I (240 + 3) g ∧ ∀ k, g k = if k < i then I (240 + 3) (k + 49) else I (240 + 3) k) (F := fun i J => jd 305 1 [some (.ref 240), some (.int (w i))] [] (J, L, s)) (n := 735) (fun i J hi hJ => by
      obtain ⟨g, rfl, hg⟩ := hJ
      refine ⟨q_up I (240 + 3) (q_set g i (g (i + 49))), ?_, _, rfl, fun k => ?_⟩
      · show jd 305 1 _ _ _ = jd 305 1 _ _ _
        rw [E_305_1, if_neg (by rw [show (735 : Int32) = w 735 from rfl, w_le (by omega) (by omega)]; omega)]
        simp only [show (49 : Int32) = w 49 from rfl, ↓reduceIte, q_i, q_l, q_k, q_r, q_z, q_si, q_sl, jx_lt, jx_ri, jx_rl, jx_rv, if_true, if_false, Nat.reduceLeDiff, Nat.add_one_ne_zero, and_self, true_or, or_true, Nat.reduceEqDiff, or_self, or_false, false_or, mo_k hm, mo_r17 hm, mo_k17 hm, mo_z17 hm, w_add, w_nn (a := i) (by omega), show ¬ 784 ≤ i by omega, w_tc (a := i) (by omega), w_nn (a := i + 49) (by omega), show ¬ 784 ≤ i + 49 by omega, w_tc (a := i + 49) (by omega), q_up_eq, q_up_up, w_inc]
      · by_cases c : k = i
        · subst c
          rw [q_set_eq, if_pos (by omega), hg, if_neg (by omega)]
        · rw [q_set_ne c, hg]
          by_cases c2 : k < i
          · rw [if_pos c2, if_pos (by omega)]
          · rw [if_neg c2, if_neg (by omega)]) I ⟨I (240 + 3), by rw [q_up_self], fun k => by rw [if_neg (by omega)]⟩
    have a1 : ∀ g : Nat → Int32, q_up I (240 + 3) g 240 = I 240 := fun g => q_up_ne (by decide)
    obtain ⟨J, e2, h3, h4, h5, h6⟩ := write 15 (q_up J1 240 (q_set (I 240) 19 (w 15))) (by omega) (by rw [q_up_eq, q_set_eq])
    refine ⟨J, ?_, fun a z1 z2 => ?_, fun j hj => ?_, by rw [if_neg (by omega)]; exact h5, fun z => absurd z (by omega), fun _ k hk => ?_⟩
    · rw [D_305, E_305_0]
      simp only [↓reduceIte, q_i, q_l, q_k, q_r, q_z, q_si, q_sl, jx_lt, jx_ri, jx_rl, jx_rv, if_true, if_false, Nat.reduceLeDiff, Nat.add_one_ne_zero, and_self, true_or, or_true, Nat.reduceEqDiff, or_self, or_false, false_or, mo_k hm, hn, show w 16 = (16 : Int32) from rfl]
      refine Eq.trans e1 ?_
      subst h1
      show jd 305 1 _ _ _ = _
      rw [E_305_1, if_pos (by decide), E_305_2]
      simp only [↓reduceIte, q_i, q_l, q_k, q_r, q_z, q_si, q_sl, jx_lt, jx_ri, jx_rl, jx_rv, if_true, if_false, Nat.reduceLeDiff, Nat.add_one_ne_zero, and_self, true_or, or_true, Nat.reduceEqDiff, or_self, or_false, false_or, mo_k hm, a1, hn]
      rw [show w 16 - 1 = w 15 from rfl]
      exact e2
    · rw [h3 a z1 z2, q_up_ne z1, h1, q_up_ne z2]
    · rw [h4 j hj, q_up_eq, q_set_ne hj]
    · rw [h6, q_up_ne (by decide), q_up_ne (by decide), h1, q_up_eq, q_up_ne (by decide)]
      by_cases c2 : k < 735
      · rw [if_neg (by omega), if_pos c2, hg, if_pos c2]
      · rw [if_pos (by omega), if_neg c2]
end REM
