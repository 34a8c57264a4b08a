/-! A HERD, on both sides -/
theorem w_div {a b : Nat} (ha : a < 2147483648) (hb : 0 < b) (hb9 : b < 2147483648) : w a / w b = w (a / b) := by
  have hle : a / b ≤ a := Nat.div_le_self a b
  apply Int32.toInt_inj.mp
  rw [Int32.toInt_div, w_int ha, w_int hb9, w_int (by omega), Int.tdiv_eq_ediv_of_nonneg (by omega), ← Int.natCast_ediv]
  have key : ∀ q : Nat, q ≤ a → (q : Int).bmod (2 ^ 32) = q := fun q h => Int.bmod_eq_of_le (by omega) (by omega)
  exact key _ hle
def q_h1 (g r t x : Nat) : Nat := if r < (x - t) + (x - t) * g / 100 then r else (x - t) + (x - t) * g / 100
def q_herd (g r t y n : Nat) : Nat := q_it (fun _ x => q_h1 g r t x) y n
theorem h1_le {g r t x : Nat} : q_h1 g r t x ≤ r := by
  unfold q_h1
  split
  · exact Nat.le_refl _
  · omega
theorem herd_le {g r t n : Nat} (hr : r ≤ 999) (hn : n ≤ 999) : ∀ y, q_herd g r t y n ≤ 999 := by
  intro y
  induction y with
  | zero => exact hn
  | succ y _ => exact Nat.le_trans h1_le hr
theorem h1_mono {g r t t' x x' : Nat} (ht : t' ≤ t) (hx : x ≤ x') : q_h1 g r t x ≤ q_h1 g r t' x' := by
  have h1 : x - t ≤ x' - t' := by omega
  have h2 : (x - t) * g / 100 ≤ (x' - t') * g / 100 := Nat.div_le_div_right (Nat.mul_le_mul_right _ h1)
  unfold q_h1
  split
  · split
    · exact Nat.le_refl _
    · omega
  · split
    · omega
    · omega
theorem herd_mono {g r t t' n : Nat} (ht : t' ≤ t) : ∀ y, q_herd g r t y n ≤ q_herd g r t' y n := by
  intro y
  induction y with
  | zero => exact Nat.le_refl _
  | succ y ih => exact h1_mono ht ih
/-- the greatest below k that may be taken -/
def q_mt (p : Nat → Bool) : Nat → Int32
  | 0 => -2
  | k + 1 => if p k = true then w k else q_mt p k
theorem mt_drop {p : Nat → Bool} {a : Nat} : ∀ n, (∀ k, a ≤ k → k < a + n → p k = false) → q_mt p (a + n) = q_mt p a := by
  intro n
  induction n with
  | zero => exact fun _ => rfl
  | succ n ih =>
    intro h
    show (if p (a + n) = true then _ else q_mt p (a + n)) = _
    rw [h (a + n) (by omega) (by omega), if_neg (by decide)]
    exact ih fun k h1 h2 => h k h1 (by omega)
section HC
variable {I : qI} {L : qL} {s : qS} {t t' U S dn R O W : Nat}
theorem herdC_eq (hx : qXo s t t') {g r tt y n : Nat} (h1 : qd I t 0 1 = w g) (hg : g ≤ 99) (h2 : qd I t 0 2 = w r) (hr : r ≤ 999) (ht : tt ≤ 999) (hy : y ≤ 200) (hn : n ≤ 999) : jD 180 [.ref 100, .int (w n), .int (w tt), .int (w y)] (I, L, s) = some (some (.int (w (q_herd g r tt y n))), I, L, s) := by
  have hf := xo_ft hx
  have q0 := fl_k hf (k := 0) (n := 12) (by omega) rfl
  have h1' : I (t + 1 + 2 * 0 + 1) 1 = w g := h1
  have h2' : I (t + 1 + 2 * 0 + 1) 2 = w r := h2
  rw [D_180, E_180_0]
  refine (q_loopP (F := fun i (x : Nat) => jd 180 1 [some (.ref 100), none, some (.int (w tt)), some (.int (w y)), some (.int (w x)), some (.int (w i))] [] (I, L, s)) (n := y) (g := fun _ x => q_h1 g r tt x) (P := fun _ x => x ≤ 999) (fun i x hi hx9 => ⟨?_, Nat.le_trans h1_le hr⟩) n hn).1.trans ?_
  · have hm : (if (0 : Int32) < w x - w tt then w x - w tt else 0) = w (x - tt) := by
      by_cases c : tt ≤ x
      · rw [w_sub c (by omega)]
        by_cases c2 : x - tt = 0
        · rw [c2]; rfl
        · rw [if_pos (by rw [show (0 : Int32) = w 0 from rfl, w_lt (by omega) (by omega)]; omega)]
      · have := w_sub_neg (a := x) (b := tt) (by omega) (by omega)
        rw [if_neg (fun z => Int32.lt_irrefl (Int32.lt_trans z this)), show x - tt = 0 by omega]; rfl
    have hmul : (x - tt) * g ≤ 999 * 99 := Nat.mul_le_mul (by omega) hg
    have hdiv : (x - tt) * g / 100 ≤ 999 * 99 := Nat.le_trans (Nat.div_le_self _ _) hmul
    show jd 180 1 _ _ _ = jd 180 1 _ _ _
    rw [E_180_1]
    simp only [↓reduceIte, q_i, q_l, q_k, q_r, q_z, q_si, q_sl, jx_lt, jx_ri, jx_rl, jx_rv, if_true, if_false, Nat.reduceLeDiff, Nat.add_one_ne_zero, and_self, true_or, or_true, Nat.reduceEqDiff, or_self, or_false, false_or, xo_k hx, xo_r0 hx, xo_r1 hx, xo_r2 hx, xo_r3 hx, xo_r4 hx, xo_r5 hx, xo_r6 hx, xo_r7 hx, xo_r8 hx, xo_r9 hx, xo_r10 hx, xo_r11 hx, xo_ka hx, xo_ra0 hx, xo_ra1 hx, xo_ko hx, xo_ro0 hx, xo_ro1 hx, xo_kf hx, xo_rf0 hx, xo_kh hx, xo_rh0 hx, xo_ke hx, xo_re0 hx, xo_re1 hx, xo_kn hx, xo_zn hx, xo_re2 hx, xo_re3 hx, xo_kt hx, xo_rt0 hx, xo_t0 hx, (xo_ft hx).1, (xo_now hx).1, (xo_now hx).2.1, (xo_now hx).2.2.1, (xo_try hx).1, (xo_yr hx).1.1, (xo_ty hx).1, hf.1, w_nle hi (by omega), q0.1, q0.2.1, look_eq q0.2, show (1 : Int32) = w 1 from rfl, show (2 : Int32) = w 2 from rfl, q_at_w (n := 12) (k := 1) (by omega) (by omega), q_at_w (n := 12) (k := 2) (by omega) (by omega), h1', h2', hm, show (100 : Int32) = w 100 from rfl, show ¬ w 100 = (0 : Int32) by decide, w_mul, w_div (a := (x - tt) * g) (b := 100) (by omega) (by omega) (by omega), w_add, w_lt (a := r) (b := (x - tt) + (x - tt) * g / 100) (by omega) (by omega)]
    unfold q_h1
    by_cases c : r < (x - tt) + (x - tt) * g / 100
    · rw [if_pos c, if_pos c]
    · rw [if_neg c, if_neg c]
  · show jd 180 1 _ _ _ = _
    rw [E_180_1, if_pos (Int32.le_refl _), E_180_2]
    rfl
/-- by halving -/
theorem half_go (hx : qXo s t t') {g r y n : Nat} (h1 : qd I t 0 1 = w g) (hg : g ≤ 99) (h2 : qd I t 0 2 = w r) (hr : r ≤ 999) (hy : y ≤ 200) (hn : n ≤ 999) {p : Nat → Bool} (hp : ∀ k, p k = decide (n ≤ q_herd g r k y n)) (hanti : ∀ a b, a ≤ b → p b = true → p a = true) : ∀ sz lo hi i, hi - lo = sz → lo ≤ hi → hi ≤ 1000 → (∀ k, k < lo → p k = true) → (∀ k, hi ≤ k → k < 1000 → p k = false) → (sz = 0 ∨ i < 999 ∧ ((i = 0 ∧ sz ≤ 1000) ∨ sz + i ≤ 502)) →
    jd 151 4 [some (.ref 100), some (.int (w n)), some (.int (w y)), some (.int (if lo = 0 then -2 else w (lo - 1))), some (.int (w lo)), some (.int (w hi - 1)), some (.int (w i)), none] [] (I, L, s) = jd 151 7 [some (.ref 100), none, none, some (.int (q_mt p 1000)), none, none, none, none] [] (I, L, s) := by
  intro sz
  induction sz using Nat.strongRecOn with
  | _ sz ih =>
    intro lo hi i hsz hle hi9 hlo hhi hbd
    have fin : lo = hi → (if lo = 0 then (-2 : Int32) else w (lo - 1)) = q_mt p 1000 := by
      intro e
      have e1 : q_mt p 1000 = q_mt p lo := by
        have := mt_drop (p := p) (a := lo) (1000 - lo) fun k h1 h2 => hhi k (by omega) (by omega)
        rw [show lo + (1000 - lo) = 1000 by omega] at this
        exact this
      rw [e1]
      rcases Nat.eq_zero_or_pos lo with z | z
      · rw [if_pos z, z]; rfl
      · obtain ⟨k, rfl⟩ : ∃ k, lo = k + 1 := ⟨lo - 1, by omega⟩
        rw [if_neg (by omega), Nat.add_sub_cancel]
        show w k = (if p k = true then w k else q_mt p k)
        rw [if_pos (hlo k (by omega))]
    by_cases hs0 : sz = 0
    · have e : lo = hi := by omega
      rw [fin e, E_151_4]
      by_cases ci : (999 : Int32) ≤ w i
      · rw [if_pos ci]
      · rw [if_neg ci, if_pos (by rw [dec_lt (by omega) (by omega)]; omega)]
    · have hi999 : i < 999 := (hbd.resolve_left hs0).1
      have hb2 := (hbd.resolve_left hs0).2
      have hmid : lo + (hi - 1) < 2147483648 := by omega
      have hm1 : lo ≤ (lo + (hi - 1)) / 2 := by omega
      have hm2 : (lo + (hi - 1)) / 2 < hi := by omega
      generalize hmm : (lo + (hi - 1)) / 2 = mid at hm1 hm2
      have hhb := herd_le (g := g) (r := r) (t := mid) (n := n) hr hn y
      have hstep : jd 151 4 [some (.ref 100), some (.int (w n)), some (.int (w y)), some (.int (if lo = 0 then -2 else w (lo - 1))), some (.int (w lo)), some (.int (w hi - 1)), some (.int (w i)), none] [] (I, L, s) = if q_herd g r mid y n < n then jd 151 4 [some (.ref 100), some (.int (w n)), some (.int (w y)), some (.int (if lo = 0 then -2 else w (lo - 1))), some (.int (w lo)), some (.int (w mid - 1)), some (.int (w (i + 1))), none] [] (I, L, s) else jd 151 4 [some (.ref 100), some (.int (w n)), some (.int (w y)), some (.int (w mid)), some (.int (w (mid + 1))), some (.int (w hi - 1)), some (.int (w (i + 1))), none] [] (I, L, s) := by
        rw [E_151_4, if_neg (by rw [show (999 : Int32) = w 999 from rfl, w_le (by omega) (by omega)]; omega), if_neg (by rw [dec_lt (by omega) (by omega)]; omega), if_neg (by decide), w_dec (a := hi) (by omega) (by omega), w_add, show (2 : Int32) = w 2 from rfl, w_div hmid (by omega) (by omega), hmm]
        simp only [↓reduceIte, q_i, q_l, q_k, q_r, q_z, q_si, q_sl, jx_lt, jx_ri, jx_rl, jx_rv, if_true, if_false, Nat.reduceLeDiff, Nat.add_one_ne_zero, and_self, true_or, or_true, Nat.reduceEqDiff, or_self, or_false, false_or, xo_k hx, xo_r0 hx, xo_r1 hx, xo_r2 hx, xo_r3 hx, xo_r4 hx, xo_r5 hx, xo_r6 hx, xo_r7 hx, xo_r8 hx, xo_r9 hx, xo_r10 hx, xo_r11 hx, xo_ka hx, xo_ra0 hx, xo_ra1 hx, xo_ko hx, xo_ro0 hx, xo_ro1 hx, xo_kf hx, xo_rf0 hx, xo_kh hx, xo_rh0 hx, xo_ke hx, xo_re0 hx, xo_re1 hx, xo_kn hx, xo_zn hx, xo_re2 hx, xo_re3 hx, xo_kt hx, xo_rt0 hx, xo_t0 hx, (xo_ft hx).1, (xo_now hx).1, (xo_now hx).2.1, (xo_now hx).2.2.1, (xo_try hx).1, (xo_yr hx).1.1, (xo_ty hx).1, herdC_eq hx h1 hg h2 hr (show mid ≤ 999 by omega) hy hn, w_lt (a := q_herd g r mid y n) (b := n) (by omega) (by omega)]
        by_cases c : q_herd g r mid y n < n
        · rw [if_pos c, if_pos c, E_151_5, E_151_6, w_inc]
        · rw [if_neg c, if_neg c, E_151_6, w_inc, w_inc]
      rw [hstep]
      by_cases c : q_herd g r mid y n < n
      · rw [if_pos c]
        have hpm : p mid = false := by rw [hp]; exact decide_eq_false (by omega)
        exact ih (mid - lo) (by omega) lo mid (i + 1) rfl hm1 (by omega) hlo (fun k h1 h2 => by
          by_cases cc : p k = true
          · have := hanti mid k h1 cc
            rw [hpm] at this; cases this
          · exact Bool.eq_false_iff.mpr cc) (by omega)
      · rw [if_neg c]
        have hpm : p mid = true := by rw [hp]; exact decide_eq_true (by omega)
        have := ih (hi - (mid + 1)) (by omega) (mid + 1) hi (i + 1) rfl (by omega) hi9 (fun k h1 => hanti k mid (by omega) hpm) hhi (by omega)
        rw [if_neg (by omega), Nat.add_sub_cancel] at this
        exact this
end HC
section HM
variable {J : qI} {L : qL} {s : qS} {m f U S dn R O W : Nat}
theorem herdM_eq (hm : qMF s m f) {g r tt y n : Nat} (h1 : J f 1 = w g) (hg : g ≤ 99) (h2 : J f 2 = w r) (hr : r ≤ 999) (ht : tt ≤ 999) (hy : y ≤ 200) (hn : n ≤ 999) : jD 299 [.ref m, .int (w n), .int (w tt), .int (w y)] (J, L, s) = some (some (.int (w (q_herd g r tt y n))), J, L, s) := by
  rw [D_299, E_299_0]
  refine (q_loopP (F := fun i (x : Nat) => jd 299 1 [some (.ref m), none, some (.int (w tt)), some (.int (w y)), some (.int (w x)), some (.int (w i))] [] (J, L, s)) (n := y) (g := fun _ x => q_h1 g r tt x) (P := fun _ x => x ≤ 999) (fun i x hi hx9 => ⟨?_, Nat.le_trans h1_le hr⟩) n hn).1.trans ?_
  · have hmul : (x - tt) * g ≤ 999 * 99 := Nat.mul_le_mul (by omega) hg
    have hdiv : (x - tt) * g / 100 ≤ 999 * 99 := Nat.le_trans (Nat.div_le_self _ _) hmul
    have b3 : jd 299 3 [some (.ref m), none, some (.int (w tt)), some (.int (w y)), none, some (.int (w i))] [.int (w (x - tt))] (J, L, s) = jd 299 1 [some (.ref m), none, some (.int (w tt)), some (.int (w y)), some (.int (w (q_h1 g r tt x))), some (.int (w (i + 1)))] [] (J, L, s) := by
      rw [E_299_3]
      simp only [↓reduceIte, q_i, q_l, q_k, q_r, q_z, q_si, q_sl, jx_lt, jx_ri, jx_rl, jx_rv, if_true, if_false, Nat.reduceLeDiff, Nat.add_one_ne_zero, and_self, true_or, or_true, Nat.reduceEqDiff, or_self, or_false, false_or, mo_k hm.1, mo_r5 hm.1, mo_k5 hm.1, mo_z5 hm.1, mo_r16 hm.1, mo_k16 hm.1, mo_z16 hm.1, mo_r17 hm.1, mo_k17 hm.1, mo_z17 hm.1, mo_r18 hm.1, mo_k18 hm.1, mo_z18 hm.1, mo_r21 hm.1, mo_k21 hm.1, mo_z21 hm.1, mo_r22 hm.1, mo_k22 hm.1, mo_z22 hm.1, mo_r23 hm.1, mo_k23 hm.1, mo_z23 hm.1, mo_r24 hm.1, mo_k24 hm.1, mo_z24 hm.1, mo_r25 hm.1, mo_k25 hm.1, mo_z25 hm.1, mo_r26 hm.1, mo_k26 hm.1, mo_z26 hm.1, mo_r27 hm.1, mo_k27 hm.1, mo_z27 hm.1, mo_r29 hm.1, mo_k29 hm.1, mo_z29 hm.1, mo_r30 hm.1, mo_k30 hm.1, mo_z30 hm.1, mo_r31 hm.1, mo_k31 hm.1, mo_z31 hm.1, mo_r32 hm.1, mo_k32 hm.1, mo_z32 hm.1, mo_r40 hm.1, mo_k40 hm.1, mo_z40 hm.1, mo_r43 hm.1, mo_k43 hm.1, mo_z43 hm.1, mo_r44 hm.1, mo_k44 hm.1, mo_z44 hm.1, mf_k hm.2.1, mf_r14 hm.2.1, mf_k14 hm.2.1, mf_z14 hm.2.1, mf_r15 hm.2.1, mf_k15 hm.2.1, mf_z15 hm.2.1, mf_r16 hm.2.1, mf_k16 hm.2.1, mf_z16 hm.2.1, mf_r17 hm.2.1, mf_k17 hm.2.1, mf_z17 hm.2.1, mf_r18 hm.2.1, mf_k18 hm.2.1, mf_z18 hm.2.1, mf_r19 hm.2.1, mf_k19 hm.2.1, mf_z19 hm.2.1, mf_r20 hm.2.1, mf_k20 hm.2.1, mf_z20 hm.2.1, mf_r21 hm.2.1, mf_k21 hm.2.1, mf_z21 hm.2.1, mf_r22 hm.2.1, mf_k22 hm.2.1, mf_z22 hm.2.1, mf_r23 hm.2.1, mf_k23 hm.2.1, mf_z23 hm.2.1, mf_r24 hm.2.1, mf_k24 hm.2.1, mf_z24 hm.2.1, mf_r25 hm.2.1, mf_k25 hm.2.1, mf_z25 hm.2.1, mf_r26 hm.2.1, mf_k26 hm.2.1, mf_z26 hm.2.1, mf_r27 hm.2.1, mf_k27 hm.2.1, mf_z27 hm.2.1, mf_r28 hm.2.1, mf_k28 hm.2.1, mf_z28 hm.2.1, mf_r29 hm.2.1, mf_k29 hm.2.1, mf_z29 hm.2.1, mf_r30 hm.2.1, mf_k30 hm.2.1, mf_z30 hm.2.1, mf_r31 hm.2.1, mf_k31 hm.2.1, mf_z31 hm.2.1, mf_r32 hm.2.1, mf_k32 hm.2.1, mf_z32 hm.2.1, mf_r33 hm.2.1, mf_k33 hm.2.1, mf_z33 hm.2.1, mf_r34 hm.2.1, mf_k34 hm.2.1, mf_z34 hm.2.1, mf_r35 hm.2.1, mf_k35 hm.2.1, mf_z35 hm.2.1, mf_r36 hm.2.1, mf_k36 hm.2.1, mf_z36 hm.2.1, hm.2.2.1, hm.2.2.2, h1, h2, show (100 : Int32) = w 100 from rfl, show ¬ w 100 = (0 : Int32) by decide, w_mul, w_div (a := (x - tt) * g) (b := 100) (by omega) (by omega) (by omega), w_add, w_le (a := (x - tt) + (x - tt) * g / 100) (b := r) (by omega) (by omega)]
      unfold q_h1
      by_cases c : r < (x - tt) + (x - tt) * g / 100
      · rw [if_neg (by omega), if_pos c, E_299_5, w_inc]
      · rw [if_pos (by omega), if_neg c, E_299_4, E_299_5, w_inc]
    show jd 299 1 _ _ _ = jd 299 1 _ _ _
    rw [E_299_1, if_neg (w_nle hi (by omega))]
    by_cases c : x ≤ tt
    · rw [if_pos (by rw [w_le (by omega) (by omega)]; exact c), E_299_2, show (0 : Int32) = w (x - tt) by rw [show x - tt = 0 by omega]; rfl]
      exact b3
    · rw [if_neg (by rw [w_le (by omega) (by omega)]; exact c), w_sub (by omega) (by omega)]
      exact b3
  · show jd 299 1 _ _ _ = _
    rw [E_299_1, if_pos (Int32.le_refl _), E_299_6]
    rfl
end HM
/-! PAIRS OF CALLS with a flight: a herd -/
section PH
variable {I : qI} {L : qL} {s : qS} {t t' f U S dn R O W : Nat}
theorem h1_gr (h : qH1 I s t t' f U S dn R O W) : ∃ g r, qd I t 0 1 = w g ∧ g ≤ 99 ∧ qd I t 0 2 = w r ∧ r ≤ 999 ∧ ∀ q, mZ (cT I q) 240 f 1 = w g ∧ mZ (cT I q) 240 f 2 = w r := by
  obtain ⟨g, e1, h1⟩ := h.2.2.2.2.1.2.2.2.2.1
  obtain ⟨r, e2, h2⟩ := h.2.2.2.2.1.2.2.2.2.2.1
  have hZ := h1_Z h
  exact ⟨g, r, e1, h1, e2, h2, fun q => ⟨((hZ q).1.2.2.1.1 1 (by omega)).trans e1, ((hZ q).1.2.2.1.1 2 (by omega)).trans e2⟩⟩
theorem le_or (x : Int32) {n : Nat} (hn : n < 999999) : (∃ k, k ≤ n ∧ x = w k) ∨ x < 0 ∨ w n < x := by
  rcases small_or x (n := n + 1) (by omega) with ⟨k, h1, h2⟩ | h | h
  · exact Or.inl ⟨k, by omega, h2⟩
  · exact Or.inr (Or.inl h)
  · refine Or.inr (Or.inr (Int32.lt_of_lt_of_le ?_ h))
    rw [w_lt (by omega) (by omega)]; omega
theorem w_nlt {k n : Nat} (h : k ≤ n) (hn : n < 1000000) : ¬ w n < w k := by rw [w_lt (by omega) (by omega)]; omega
theorem w_le' {k n : Nat} (h : k ≤ n) (hn : n < 1000000) : w k ≤ w n := by rw [w_le (by omega) (by omega)]; omega
theorem p_herd (h : qH1 I s t t' f U S dn R O W) (a b c : Int32) : qAns I L s 150 [.ref 100, .int a, .int b, .int c] 301 [.ref 240, .int a, .int b, .int c] := by
  obtain ⟨hd, hd0, hd9⟩ := h1_d h
  obtain ⟨g, r, e1, hg, e2, hr, hmm⟩ := h1_gr h
  obtain ⟨hx, hm, hf, hT⟩ := id h
  have k9 : (999 : Int32) = w 999 := rfl
  have k2 : (200 : Int32) = w 200 := rfl
  have bad : (¬ ∃ n tt y, n ≤ 999 ∧ tt ≤ 999 ∧ y ≤ 200 ∧ a = w n ∧ b = w tt ∧ c = w y) → qAns I L s 150 [.ref 100, .int a, .int b, .int c] 301 [.ref 240, .int a, .int b, .int c] := by
    intro hno
    have e3 : jd 150 1 [some (.ref 100), some (.int a), some (.int b), some (.int c)] [] (I, L, s) = jd 150 2 [some (.ref 100), none, none, none] [] (I, L, s) := by
      rw [E_150_1, k9, k2]
      rcases le_or a (n := 999) (by omega) with ⟨n, h1, rfl⟩ | z | z
      · rw [if_neg (w_nn (by omega)), if_neg (w_nlt h1 (by omega))]
        rcases le_or b (n := 999) (by omega) with ⟨tt, h2, rfl⟩ | z | z
        · rw [if_neg (w_nn (by omega)), if_neg (w_nlt h2 (by omega))]
          rcases le_or c (n := 200) (by omega) with ⟨y, h3, rfl⟩ | z | z
          · exact absurd ⟨n, tt, y, h1, h2, h3, rfl, rfl, rfl⟩ hno
          · rw [if_pos z]
          · by_cases c0 : c < 0
            · rw [if_pos c0]
            · rw [if_neg c0, if_neg (Int32.not_le.mpr z)]
        · rw [if_pos z]
        · by_cases c0 : b < 0
          · rw [if_pos c0]
          · rw [if_neg c0, if_pos z]
      · rw [if_pos z]
      · by_cases c0 : a < 0
        · rw [if_pos c0]
        · rw [if_neg c0, if_pos z]
    have e4 : ∀ J : qI, jd 300 1 [none, some (.int a), some (.int b), some (.int c)] [] (J, L, s) = jd 300 2 [none, none, none, none] [] (J, L, s) := by
      intro J
      rw [E_300_1]
      simp only [in_eq, ↓reduceIte, q_i, q_l, q_k, q_r, q_z, q_si, q_sl, jx_lt, jx_ri, jx_rl, jx_rv, if_true, if_false, Nat.reduceLeDiff, Nat.add_one_ne_zero, and_self, true_or, or_true, Nat.reduceEqDiff, or_self, or_false, false_or, k9, k2]
      rcases le_or a (n := 999) (by omega) with ⟨n, h1, rfl⟩ | z | z
      · simp only [w_nn (a := n) (by omega), w_nlt h1 (by omega), ↓reduceIte, q_i, q_l, q_k, q_r, q_z, q_si, q_sl, jx_lt, jx_ri, jx_rl, jx_rv, if_true, if_false, Nat.reduceLeDiff, Nat.add_one_ne_zero, and_self, true_or, or_true, Nat.reduceEqDiff, or_self, or_false, false_or, show ¬ (1 : Int32) = 0 by decide]
        rcases le_or b (n := 999) (by omega) with ⟨tt, h2, rfl⟩ | z | z
        · simp only [w_nn (a := tt) (by omega), w_nlt h2 (by omega), ↓reduceIte, q_i, q_l, q_k, q_r, q_z, q_si, q_sl, jx_lt, jx_ri, jx_rl, jx_rv, if_true, if_false, Nat.reduceLeDiff, Nat.add_one_ne_zero, and_self, true_or, or_true, Nat.reduceEqDiff, or_self, or_false, false_or, show ¬ (1 : Int32) = 0 by decide]
          rcases le_or c (n := 200) (by omega) with ⟨y, h3, rfl⟩ | z | z
          · exact absurd ⟨n, tt, y, h1, h2, h3, rfl, rfl, rfl⟩ hno
          · simp only [z, ↓reduceIte, q_i, q_l, q_k, q_r, q_z, q_si, q_sl, jx_lt, jx_ri, jx_rl, jx_rv, if_true, if_false, Nat.reduceLeDiff, Nat.add_one_ne_zero, and_self, true_or, or_true, Nat.reduceEqDiff, or_self, or_false, false_or]
          · by_cases c0 : c < 0
            · simp only [c0, ↓reduceIte, q_i, q_l, q_k, q_r, q_z, q_si, q_sl, jx_lt, jx_ri, jx_rl, jx_rv, if_true, if_false, Nat.reduceLeDiff, Nat.add_one_ne_zero, and_self, true_or, or_true, Nat.reduceEqDiff, or_self, or_false, false_or]
            · simp only [c0, z, ↓reduceIte, q_i, q_l, q_k, q_r, q_z, q_si, q_sl, jx_lt, jx_ri, jx_rl, jx_rv, if_true, if_false, Nat.reduceLeDiff, Nat.add_one_ne_zero, and_self, true_or, or_true, Nat.reduceEqDiff, or_self, or_false, false_or]
        · simp only [z, ↓reduceIte, q_i, q_l, q_k, q_r, q_z, q_si, q_sl, jx_lt, jx_ri, jx_rl, jx_rv, if_true, if_false, Nat.reduceLeDiff, Nat.add_one_ne_zero, and_self, true_or, or_true, Nat.reduceEqDiff, or_self, or_false, false_or]
        · by_cases c0 : b < 0
          · simp only [c0, ↓reduceIte, q_i, q_l, q_k, q_r, q_z, q_si, q_sl, jx_lt, jx_ri, jx_rl, jx_rv, if_true, if_false, Nat.reduceLeDiff, Nat.add_one_ne_zero, and_self, true_or, or_true, Nat.reduceEqDiff, or_self, or_false, false_or]
          · simp only [c0, z, ↓reduceIte, q_i, q_l, q_k, q_r, q_z, q_si, q_sl, jx_lt, jx_ri, jx_rl, jx_rv, if_true, if_false, Nat.reduceLeDiff, Nat.add_one_ne_zero, and_self, true_or, or_true, Nat.reduceEqDiff, or_self, or_false, false_or]
      · simp only [z, ↓reduceIte, q_i, q_l, q_k, q_r, q_z, q_si, q_sl, jx_lt, jx_ri, jx_rl, jx_rv, if_true, if_false, Nat.reduceLeDiff, Nat.add_one_ne_zero, and_self, true_or, or_true, Nat.reduceEqDiff, or_self, or_false, false_or]
      · by_cases c0 : a < 0
        · simp only [c0, ↓reduceIte, q_i, q_l, q_k, q_r, q_z, q_si, q_sl, jx_lt, jx_ri, jx_rl, jx_rv, if_true, if_false, Nat.reduceLeDiff, Nat.add_one_ne_zero, and_self, true_or, or_true, Nat.reduceEqDiff, or_self, or_false, false_or]
        · simp only [c0, z, ↓reduceIte, q_i, q_l, q_k, q_r, q_z, q_si, q_sl, jx_lt, jx_ri, jx_rl, jx_rv, if_true, if_false, Nat.reduceLeDiff, Nat.add_one_ne_zero, and_self, true_or, or_true, Nat.reduceEqDiff, or_self, or_false, false_or]
    refine ans_T (v := .int (-1)) (r := 2) (J := mZ (cT I 2) 240) ?_ ?_ fr_mZ fr_x13 (by decide)
    · simp only [D_150, E_150_0, ↓reduceIte, q_i, q_l, q_k, q_r, q_z, q_si, q_sl, jx_lt, jx_ri, jx_rl, jx_rv, if_true, if_false, Nat.reduceLeDiff, Nat.add_one_ne_zero, and_self, true_or, or_true, Nat.reduceEqDiff, or_self, or_false, false_or, xo_k hx, xo_r0 hx, xo_r1 hx, xo_r2 hx, xo_r3 hx, xo_r4 hx, xo_r5 hx, xo_r6 hx, xo_r7 hx, xo_r8 hx, xo_r9 hx, xo_r10 hx, xo_r11 hx, xo_ka hx, xo_ra0 hx, xo_ra1 hx, xo_ko hx, xo_ro0 hx, xo_ro1 hx, xo_kf hx, xo_rf0 hx, xo_kh hx, xo_rh0 hx, xo_ke hx, xo_re0 hx, xo_re1 hx, xo_kn hx, xo_zn hx, xo_re2 hx, xo_re3 hx, xo_kt hx, xo_rt0 hx, xo_t0 hx, (xo_ft hx).1, (xo_now hx).1, (xo_now hx).2.1, (xo_now hx).2.2.1, (xo_try hx).1, (xo_yr hx).1.1, (xo_ty hx).1, answered_eq hx, refused_eq hx, show ¬ (1 : Int32) = 0 by decide, Nat.reduceLT, hasFlight_eq hx hd hd9, show ¬ dn = 0 by omega, e3, E_150_2]
    · simp only [D_301, E_301_0, E_301_2, D_300, E_300_0, ↓reduceIte, q_i, q_l, q_k, q_r, q_z, q_si, q_sl, jx_lt, jx_ri, jx_rl, jx_rv, if_true, if_false, Nat.reduceLeDiff, Nat.add_one_ne_zero, and_self, true_or, or_true, Nat.reduceEqDiff, or_self, or_false, false_or, mo_k hm.1, mo_r5 hm.1, mo_k5 hm.1, mo_z5 hm.1, mo_r16 hm.1, mo_k16 hm.1, mo_z16 hm.1, mo_r17 hm.1, mo_k17 hm.1, mo_z17 hm.1, mo_r18 hm.1, mo_k18 hm.1, mo_z18 hm.1, mo_r21 hm.1, mo_k21 hm.1, mo_z21 hm.1, mo_r22 hm.1, mo_k22 hm.1, mo_z22 hm.1, mo_r23 hm.1, mo_k23 hm.1, mo_z23 hm.1, mo_r24 hm.1, mo_k24 hm.1, mo_z24 hm.1, mo_r25 hm.1, mo_k25 hm.1, mo_z25 hm.1, mo_r26 hm.1, mo_k26 hm.1, mo_z26 hm.1, mo_r27 hm.1, mo_k27 hm.1, mo_z27 hm.1, mo_r29 hm.1, mo_k29 hm.1, mo_z29 hm.1, mo_r30 hm.1, mo_k30 hm.1, mo_z30 hm.1, mo_r31 hm.1, mo_k31 hm.1, mo_z31 hm.1, mo_r32 hm.1, mo_k32 hm.1, mo_z32 hm.1, mo_r40 hm.1, mo_k40 hm.1, mo_z40 hm.1, mo_r43 hm.1, mo_k43 hm.1, mo_z43 hm.1, mo_r44 hm.1, mo_k44 hm.1, mo_z44 hm.1, mf_k hm.2.1, mf_r14 hm.2.1, mf_k14 hm.2.1, mf_z14 hm.2.1, mf_r15 hm.2.1, mf_k15 hm.2.1, mf_z15 hm.2.1, mf_r16 hm.2.1, mf_k16 hm.2.1, mf_z16 hm.2.1, mf_r17 hm.2.1, mf_k17 hm.2.1, mf_z17 hm.2.1, mf_r18 hm.2.1, mf_k18 hm.2.1, mf_z18 hm.2.1, mf_r19 hm.2.1, mf_k19 hm.2.1, mf_z19 hm.2.1, mf_r20 hm.2.1, mf_k20 hm.2.1, mf_z20 hm.2.1, mf_r21 hm.2.1, mf_k21 hm.2.1, mf_z21 hm.2.1, mf_r22 hm.2.1, mf_k22 hm.2.1, mf_z22 hm.2.1, mf_r23 hm.2.1, mf_k23 hm.2.1, mf_z23 hm.2.1, mf_r24 hm.2.1, mf_k24 hm.2.1, mf_z24 hm.2.1, mf_r25 hm.2.1, mf_k25 hm.2.1, mf_z25 hm.2.1, mf_r26 hm.2.1, mf_k26 hm.2.1, mf_z26 hm.2.1, mf_r27 hm.2.1, mf_k27 hm.2.1, mf_z27 hm.2.1, mf_r28 hm.2.1, mf_k28 hm.2.1, mf_z28 hm.2.1, mf_r29 hm.2.1, mf_k29 hm.2.1, mf_z29 hm.2.1, mf_r30 hm.2.1, mf_k30 hm.2.1, mf_z30 hm.2.1, mf_r31 hm.2.1, mf_k31 hm.2.1, mf_z31 hm.2.1, mf_r32 hm.2.1, mf_k32 hm.2.1, mf_z32 hm.2.1, mf_r33 hm.2.1, mf_k33 hm.2.1, mf_z33 hm.2.1, mf_r34 hm.2.1, mf_k34 hm.2.1, mf_z34 hm.2.1, mf_r35 hm.2.1, mf_k35 hm.2.1, mf_z35 hm.2.1, mf_r36 hm.2.1, mf_k36 hm.2.1, mf_z36 hm.2.1, hm.2.2.1, hm.2.2.2, q_mZ, mgood_eq hm.1, mrefused_eq hm.1, show ¬ (1 : Int32) = 0 by decide, show ¬ (1 : Int32) ≤ 0 by decide, show ¬ (2 : Int32) ≤ 0 by decide, show ¬ (6 : Int32) ≤ 0 by decide, show (0 : Int32) ≤ 0 by decide, e4, E_300_2, E_300_3]
  by_cases hno : ∃ n tt y, n ≤ 999 ∧ tt ≤ 999 ∧ y ≤ 200 ∧ a = w n ∧ b = w tt ∧ c = w y
  · obtain ⟨n, tt, y, hn, ht, hy, rfl, rfl, rfl⟩ := hno
    refine ans_G (v := .int (w (q_herd g r tt y n))) (J := mZ (cT I 0) 240) ?_ ?_ fr_mZ fr_x13
    · simp only [D_150, E_150_0, ↓reduceIte, q_i, q_l, q_k, q_r, q_z, q_si, q_sl, jx_lt, jx_ri, jx_rl, jx_rv, if_true, if_false, Nat.reduceLeDiff, Nat.add_one_ne_zero, and_self, true_or, or_true, Nat.reduceEqDiff, or_self, or_false, false_or, xo_k hx, xo_r0 hx, xo_r1 hx, xo_r2 hx, xo_r3 hx, xo_r4 hx, xo_r5 hx, xo_r6 hx, xo_r7 hx, xo_r8 hx, xo_r9 hx, xo_r10 hx, xo_r11 hx, xo_ka hx, xo_ra0 hx, xo_ra1 hx, xo_ko hx, xo_ro0 hx, xo_ro1 hx, xo_kf hx, xo_rf0 hx, xo_kh hx, xo_rh0 hx, xo_ke hx, xo_re0 hx, xo_re1 hx, xo_kn hx, xo_zn hx, xo_re2 hx, xo_re3 hx, xo_kt hx, xo_rt0 hx, xo_t0 hx, (xo_ft hx).1, (xo_now hx).1, (xo_now hx).2.1, (xo_now hx).2.2.1, (xo_try hx).1, (xo_yr hx).1.1, (xo_ty hx).1, answered_eq hx, refused_eq hx, show ¬ (1 : Int32) = 0 by decide, Nat.reduceLT, hasFlight_eq hx hd hd9, show ¬ dn = 0 by omega]
      rw [E_150_1, k9, k2, if_neg (w_nn (by omega)), if_neg (w_nlt hn (by omega)), if_neg (w_nn (by omega)), if_neg (w_nlt ht (by omega)), if_neg (w_nn (by omega)), if_pos (w_le' hy (by omega)), E_150_3]
      simp only [↓reduceIte, q_i, q_l, q_k, q_r, q_z, q_si, q_sl, jx_lt, jx_ri, jx_rl, jx_rv, if_true, if_false, Nat.reduceLeDiff, Nat.add_one_ne_zero, and_self, true_or, or_true, Nat.reduceEqDiff, or_self, or_false, false_or, xo_k hx, xo_r0 hx, xo_r1 hx, xo_r2 hx, xo_r3 hx, xo_r4 hx, xo_r5 hx, xo_r6 hx, xo_r7 hx, xo_r8 hx, xo_r9 hx, xo_r10 hx, xo_r11 hx, xo_ka hx, xo_ra0 hx, xo_ra1 hx, xo_ko hx, xo_ro0 hx, xo_ro1 hx, xo_kf hx, xo_rf0 hx, xo_kh hx, xo_rh0 hx, xo_ke hx, xo_re0 hx, xo_re1 hx, xo_kn hx, xo_zn hx, xo_re2 hx, xo_re3 hx, xo_kt hx, xo_rt0 hx, xo_t0 hx, (xo_ft hx).1, (xo_now hx).1, (xo_now hx).2.1, (xo_now hx).2.2.1, (xo_try hx).1, (xo_yr hx).1.1, (xo_ty hx).1, answered_eq hx, refused_eq hx, show ¬ (1 : Int32) = 0 by decide, Nat.reduceLT, herdC_eq hx e1 hg e2 hr ht hy hn]
    · simp only [D_301, E_301_0, D_300, E_300_0, E_300_1, E_300_3, ↓reduceIte, q_i, q_l, q_k, q_r, q_z, q_si, q_sl, jx_lt, jx_ri, jx_rl, jx_rv, if_true, if_false, Nat.reduceLeDiff, Nat.add_one_ne_zero, and_self, true_or, or_true, Nat.reduceEqDiff, or_self, or_false, false_or, mo_k hm.1, mo_r5 hm.1, mo_k5 hm.1, mo_z5 hm.1, mo_r16 hm.1, mo_k16 hm.1, mo_z16 hm.1, mo_r17 hm.1, mo_k17 hm.1, mo_z17 hm.1, mo_r18 hm.1, mo_k18 hm.1, mo_z18 hm.1, mo_r21 hm.1, mo_k21 hm.1, mo_z21 hm.1, mo_r22 hm.1, mo_k22 hm.1, mo_z22 hm.1, mo_r23 hm.1, mo_k23 hm.1, mo_z23 hm.1, mo_r24 hm.1, mo_k24 hm.1, mo_z24 hm.1, mo_r25 hm.1, mo_k25 hm.1, mo_z25 hm.1, mo_r26 hm.1, mo_k26 hm.1, mo_z26 hm.1, mo_r27 hm.1, mo_k27 hm.1, mo_z27 hm.1, mo_r29 hm.1, mo_k29 hm.1, mo_z29 hm.1, mo_r30 hm.1, mo_k30 hm.1, mo_z30 hm.1, mo_r31 hm.1, mo_k31 hm.1, mo_z31 hm.1, mo_r32 hm.1, mo_k32 hm.1, mo_z32 hm.1, mo_r40 hm.1, mo_k40 hm.1, mo_z40 hm.1, mo_r43 hm.1, mo_k43 hm.1, mo_z43 hm.1, mo_r44 hm.1, mo_k44 hm.1, mo_z44 hm.1, mf_k hm.2.1, mf_r14 hm.2.1, mf_k14 hm.2.1, mf_z14 hm.2.1, mf_r15 hm.2.1, mf_k15 hm.2.1, mf_z15 hm.2.1, mf_r16 hm.2.1, mf_k16 hm.2.1, mf_z16 hm.2.1, mf_r17 hm.2.1, mf_k17 hm.2.1, mf_z17 hm.2.1, mf_r18 hm.2.1, mf_k18 hm.2.1, mf_z18 hm.2.1, mf_r19 hm.2.1, mf_k19 hm.2.1, mf_z19 hm.2.1, mf_r20 hm.2.1, mf_k20 hm.2.1, mf_z20 hm.2.1, mf_r21 hm.2.1, mf_k21 hm.2.1, mf_z21 hm.2.1, mf_r22 hm.2.1, mf_k22 hm.2.1, mf_z22 hm.2.1, mf_r23 hm.2.1, mf_k23 hm.2.1, mf_z23 hm.2.1, mf_r24 hm.2.1, mf_k24 hm.2.1, mf_z24 hm.2.1, mf_r25 hm.2.1, mf_k25 hm.2.1, mf_z25 hm.2.1, mf_r26 hm.2.1, mf_k26 hm.2.1, mf_z26 hm.2.1, mf_r27 hm.2.1, mf_k27 hm.2.1, mf_z27 hm.2.1, mf_r28 hm.2.1, mf_k28 hm.2.1, mf_z28 hm.2.1, mf_r29 hm.2.1, mf_k29 hm.2.1, mf_z29 hm.2.1, mf_r30 hm.2.1, mf_k30 hm.2.1, mf_z30 hm.2.1, mf_r31 hm.2.1, mf_k31 hm.2.1, mf_z31 hm.2.1, mf_r32 hm.2.1, mf_k32 hm.2.1, mf_z32 hm.2.1, mf_r33 hm.2.1, mf_k33 hm.2.1, mf_z33 hm.2.1, mf_r34 hm.2.1, mf_k34 hm.2.1, mf_z34 hm.2.1, mf_r35 hm.2.1, mf_k35 hm.2.1, mf_z35 hm.2.1, mf_r36 hm.2.1, mf_k36 hm.2.1, mf_z36 hm.2.1, hm.2.2.1, hm.2.2.2, q_mZ, mgood_eq hm.1, mrefused_eq hm.1, show ¬ (1 : Int32) = 0 by decide, show ¬ (1 : Int32) ≤ 0 by decide, show ¬ (2 : Int32) ≤ 0 by decide, show ¬ (6 : Int32) ≤ 0 by decide, show (0 : Int32) ≤ 0 by decide, in_eq, k9, k2, w_nn (a := n) (by omega), w_nlt hn (by omega), w_nn (a := tt) (by omega), w_nlt ht (by omega), w_nn (a := y) (by omega), w_nlt hy (by omega), E_301_1, E_301_2, herdM_eq hm (hmm 0).1 hg (hmm 0).2 hr ht hy hn, mgood_eq hm.1]
  · exact bad hno
theorem p_mostTaken (h : qH1 I s t t' f U S dn R O W) (a c : Int32) : qAns I L s 151 [.ref 100, .int a, .int c] 302 [.ref 240, .int a, .int c] := by
  obtain ⟨hd, hd0, hd9⟩ := h1_d h
  obtain ⟨g, r, e1, hg, e2, hr, hmm⟩ := h1_gr h
  obtain ⟨hx, hm, hf, hT⟩ := id h
  have k9 : (999 : Int32) = w 999 := rfl
  have k2 : (200 : Int32) = w 200 := rfl
  have bad : (¬ ∃ n y, n ≤ 999 ∧ y ≤ 200 ∧ a = w n ∧ c = w y) → qAns I L s 151 [.ref 100, .int a, .int c] 302 [.ref 240, .int a, .int c] := by
    intro hno
    have e3 : jd 151 1 [some (.ref 100), some (.int a), some (.int c), none, none, none, none, none] [] (I, L, s) = jd 151 2 [some (.ref 100), none, none, none, none, none, none, none] [] (I, L, s) := by
      rw [E_151_1, k9, k2]
      rcases le_or a (n := 999) (by omega) with ⟨n, h1, rfl⟩ | z | z
      · rw [if_neg (w_nn (by omega)), if_neg (w_nlt h1 (by omega))]
        rcases le_or c (n := 200) (by omega) with ⟨y, h3, rfl⟩ | z | z
        · exact absurd ⟨n, y, h1, h3, rfl, rfl⟩ hno
        · rw [if_pos z]
        · by_cases c0 : c < 0
          · rw [if_pos c0]
          · rw [if_neg c0, if_neg (Int32.not_le.mpr z)]
      · rw [if_pos z]
      · by_cases c0 : a < 0
        · rw [if_pos c0]
        · rw [if_neg c0, if_pos z]
    have e4 : ∀ J : qI, jd 300 1 [none, some (.int a), some (.int 0), some (.int c)] [] (J, L, s) = jd 300 2 [none, none, none, none] [] (J, L, s) := by
      intro J
      rw [E_300_1]
      simp only [in_eq, ↓reduceIte, q_i, q_l, q_k, q_r, q_z, q_si, q_sl, jx_lt, jx_ri, jx_rl, jx_rv, if_true, if_false, Nat.reduceLeDiff, Nat.add_one_ne_zero, and_self, true_or, or_true, Nat.reduceEqDiff, or_self, or_false, false_or, k9, k2]
      rcases le_or a (n := 999) (by omega) with ⟨n, h1, rfl⟩ | z | z
      · simp only [w_nn (a := n) (by omega), w_nlt h1 (by omega), ↓reduceIte, q_i, q_l, q_k, q_r, q_z, q_si, q_sl, jx_lt, jx_ri, jx_rl, jx_rv, if_true, if_false, Nat.reduceLeDiff, Nat.add_one_ne_zero, and_self, true_or, or_true, Nat.reduceEqDiff, or_self, or_false, false_or, show ¬ (1 : Int32) = 0 by decide, show ¬ (0 : Int32) < 0 by decide, show ¬ w 999 < (0 : Int32) by decide]
        rcases le_or c (n := 200) (by omega) with ⟨y, h3, rfl⟩ | z | z
        · exact absurd ⟨n, y, h1, h3, rfl, rfl⟩ hno
        · simp only [z, ↓reduceIte, q_i, q_l, q_k, q_r, q_z, q_si, q_sl, jx_lt, jx_ri, jx_rl, jx_rv, if_true, if_false, Nat.reduceLeDiff, Nat.add_one_ne_zero, and_self, true_or, or_true, Nat.reduceEqDiff, or_self, or_false, false_or]
        · by_cases c0 : c < 0
          · simp only [c0, ↓reduceIte, q_i, q_l, q_k, q_r, q_z, q_si, q_sl, jx_lt, jx_ri, jx_rl, jx_rv, if_true, if_false, Nat.reduceLeDiff, Nat.add_one_ne_zero, and_self, true_or, or_true, Nat.reduceEqDiff, or_self, or_false, false_or]
          · simp only [c0, z, ↓reduceIte, q_i, q_l, q_k, q_r, q_z, q_si, q_sl, jx_lt, jx_ri, jx_rl, jx_rv, if_true, if_false, Nat.reduceLeDiff, Nat.add_one_ne_zero, and_self, true_or, or_true, Nat.reduceEqDiff, or_self, or_false, false_or]
      · simp only [z, ↓reduceIte, q_i, q_l, q_k, q_r, q_z, q_si, q_sl, jx_lt, jx_ri, jx_rl, jx_rv, if_true, if_false, Nat.reduceLeDiff, Nat.add_one_ne_zero, and_self, true_or, or_true, Nat.reduceEqDiff, or_self, or_false, false_or]
      · by_cases c0 : a < 0
        · simp only [c0, ↓reduceIte, q_i, q_l, q_k, q_r, q_z, q_si, q_sl, jx_lt, jx_ri, jx_rl, jx_rv, if_true, if_false, Nat.reduceLeDiff, Nat.add_one_ne_zero, and_self, true_or, or_true, Nat.reduceEqDiff, or_self, or_false, false_or]
        · simp only [c0, z, ↓reduceIte, q_i, q_l, q_k, q_r, q_z, q_si, q_sl, jx_lt, jx_ri, jx_rl, jx_rv, if_true, if_false, Nat.reduceLeDiff, Nat.add_one_ne_zero, and_self, true_or, or_true, Nat.reduceEqDiff, or_self, or_false, false_or]
    refine ans_T (v := .int (-1)) (r := 2) (J := mZ (cT I 2) 240) ?_ ?_ fr_mZ fr_x13 (by decide)
    · simp only [D_151, E_151_0, ↓reduceIte, q_i, q_l, q_k, q_r, q_z, q_si, q_sl, jx_lt, jx_ri, jx_rl, jx_rv, if_true, if_false, Nat.reduceLeDiff, Nat.add_one_ne_zero, and_self, true_or, or_true, Nat.reduceEqDiff, or_self, or_false, false_or, xo_k hx, xo_r0 hx, xo_r1 hx, xo_r2 hx, xo_r3 hx, xo_r4 hx, xo_r5 hx, xo_r6 hx, xo_r7 hx, xo_r8 hx, xo_r9 hx, xo_r10 hx, xo_r11 hx, xo_ka hx, xo_ra0 hx, xo_ra1 hx, xo_ko hx, xo_ro0 hx, xo_ro1 hx, xo_kf hx, xo_rf0 hx, xo_kh hx, xo_rh0 hx, xo_ke hx, xo_re0 hx, xo_re1 hx, xo_kn hx, xo_zn hx, xo_re2 hx, xo_re3 hx, xo_kt hx, xo_rt0 hx, xo_t0 hx, (xo_ft hx).1, (xo_now hx).1, (xo_now hx).2.1, (xo_now hx).2.2.1, (xo_try hx).1, (xo_yr hx).1.1, (xo_ty hx).1, answered_eq hx, refused_eq hx, show ¬ (1 : Int32) = 0 by decide, Nat.reduceLT, hasFlight_eq hx hd hd9, show ¬ dn = 0 by omega, e3, E_151_2]
    · simp only [D_302, E_302_0, D_300, E_300_0, ↓reduceIte, q_i, q_l, q_k, q_r, q_z, q_si, q_sl, jx_lt, jx_ri, jx_rl, jx_rv, if_true, if_false, Nat.reduceLeDiff, Nat.add_one_ne_zero, and_self, true_or, or_true, Nat.reduceEqDiff, or_self, or_false, false_or, mo_k hm.1, mo_r5 hm.1, mo_k5 hm.1, mo_z5 hm.1, mo_r16 hm.1, mo_k16 hm.1, mo_z16 hm.1, mo_r17 hm.1, mo_k17 hm.1, mo_z17 hm.1, mo_r18 hm.1, mo_k18 hm.1, mo_z18 hm.1, mo_r21 hm.1, mo_k21 hm.1, mo_z21 hm.1, mo_r22 hm.1, mo_k22 hm.1, mo_z22 hm.1, mo_r23 hm.1, mo_k23 hm.1, mo_z23 hm.1, mo_r24 hm.1, mo_k24 hm.1, mo_z24 hm.1, mo_r25 hm.1, mo_k25 hm.1, mo_z25 hm.1, mo_r26 hm.1, mo_k26 hm.1, mo_z26 hm.1, mo_r27 hm.1, mo_k27 hm.1, mo_z27 hm.1, mo_r29 hm.1, mo_k29 hm.1, mo_z29 hm.1, mo_r30 hm.1, mo_k30 hm.1, mo_z30 hm.1, mo_r31 hm.1, mo_k31 hm.1, mo_z31 hm.1, mo_r32 hm.1, mo_k32 hm.1, mo_z32 hm.1, mo_r40 hm.1, mo_k40 hm.1, mo_z40 hm.1, mo_r43 hm.1, mo_k43 hm.1, mo_z43 hm.1, mo_r44 hm.1, mo_k44 hm.1, mo_z44 hm.1, mf_k hm.2.1, mf_r14 hm.2.1, mf_k14 hm.2.1, mf_z14 hm.2.1, mf_r15 hm.2.1, mf_k15 hm.2.1, mf_z15 hm.2.1, mf_r16 hm.2.1, mf_k16 hm.2.1, mf_z16 hm.2.1, mf_r17 hm.2.1, mf_k17 hm.2.1, mf_z17 hm.2.1, mf_r18 hm.2.1, mf_k18 hm.2.1, mf_z18 hm.2.1, mf_r19 hm.2.1, mf_k19 hm.2.1, mf_z19 hm.2.1, mf_r20 hm.2.1, mf_k20 hm.2.1, mf_z20 hm.2.1, mf_r21 hm.2.1, mf_k21 hm.2.1, mf_z21 hm.2.1, mf_r22 hm.2.1, mf_k22 hm.2.1, mf_z22 hm.2.1, mf_r23 hm.2.1, mf_k23 hm.2.1, mf_z23 hm.2.1, mf_r24 hm.2.1, mf_k24 hm.2.1, mf_z24 hm.2.1, mf_r25 hm.2.1, mf_k25 hm.2.1, mf_z25 hm.2.1, mf_r26 hm.2.1, mf_k26 hm.2.1, mf_z26 hm.2.1, mf_r27 hm.2.1, mf_k27 hm.2.1, mf_z27 hm.2.1, mf_r28 hm.2.1, mf_k28 hm.2.1, mf_z28 hm.2.1, mf_r29 hm.2.1, mf_k29 hm.2.1, mf_z29 hm.2.1, mf_r30 hm.2.1, mf_k30 hm.2.1, mf_z30 hm.2.1, mf_r31 hm.2.1, mf_k31 hm.2.1, mf_z31 hm.2.1, mf_r32 hm.2.1, mf_k32 hm.2.1, mf_z32 hm.2.1, mf_r33 hm.2.1, mf_k33 hm.2.1, mf_z33 hm.2.1, mf_r34 hm.2.1, mf_k34 hm.2.1, mf_z34 hm.2.1, mf_r35 hm.2.1, mf_k35 hm.2.1, mf_z35 hm.2.1, mf_r36 hm.2.1, mf_k36 hm.2.1, mf_z36 hm.2.1, hm.2.2.1, hm.2.2.2, q_mZ, mgood_eq hm.1, mrefused_eq hm.1, show ¬ (1 : Int32) = 0 by decide, show ¬ (1 : Int32) ≤ 0 by decide, show ¬ (2 : Int32) ≤ 0 by decide, show ¬ (6 : Int32) ≤ 0 by decide, show (0 : Int32) ≤ 0 by decide, e4, E_300_2, E_300_3]
  by_cases hno : ∃ n y, n ≤ 999 ∧ y ≤ 200 ∧ a = w n ∧ c = w y
  · obtain ⟨n, y, hn, hy, rfl, rfl⟩ := hno
    generalize hp : (fun k => decide (n ≤ q_herd g r k y n)) = p
    have hpk : ∀ k, p k = decide (n ≤ q_herd g r k y n) := fun k => by rw [← hp]
    have hanti : ∀ a b, a ≤ b → p b = true → p a = true := fun a b hab hb => by
      rw [hpk, decide_eq_true_eq] at hb ⊢
      exact Nat.le_trans hb (herd_mono hab y)
    refine ans_G (v := .int (q_mt p 1000)) (J := mZ (cT I 0) 240) ?_ ?_ fr_mZ fr_x13
    · simp only [D_151, E_151_0, ↓reduceIte, q_i, q_l, q_k, q_r, q_z, q_si, q_sl, jx_lt, jx_ri, jx_rl, jx_rv, if_true, if_false, Nat.reduceLeDiff, Nat.add_one_ne_zero, and_self, true_or, or_true, Nat.reduceEqDiff, or_self, or_false, false_or, xo_k hx, xo_r0 hx, xo_r1 hx, xo_r2 hx, xo_r3 hx, xo_r4 hx, xo_r5 hx, xo_r6 hx, xo_r7 hx, xo_r8 hx, xo_r9 hx, xo_r10 hx, xo_r11 hx, xo_ka hx, xo_ra0 hx, xo_ra1 hx, xo_ko hx, xo_ro0 hx, xo_ro1 hx, xo_kf hx, xo_rf0 hx, xo_kh hx, xo_rh0 hx, xo_ke hx, xo_re0 hx, xo_re1 hx, xo_kn hx, xo_zn hx, xo_re2 hx, xo_re3 hx, xo_kt hx, xo_rt0 hx, xo_t0 hx, (xo_ft hx).1, (xo_now hx).1, (xo_now hx).2.1, (xo_now hx).2.2.1, (xo_try hx).1, (xo_yr hx).1.1, (xo_ty hx).1, answered_eq hx, refused_eq hx, show ¬ (1 : Int32) = 0 by decide, Nat.reduceLT, hasFlight_eq hx hd hd9, show ¬ dn = 0 by omega]
      rw [E_151_1, k9, k2, if_neg (w_nn (by omega)), if_neg (w_nlt hn (by omega)), if_neg (w_nn (by omega)), if_pos (w_le' hy (by omega)), E_151_3]
      have hgo := half_go (I := I) (L := L) hx e1 hg e2 hr hy hn hpk hanti 1000 0 1000 0 rfl (by omega) (Nat.le_refl _) (fun k hk => absurd hk (Nat.not_lt_zero k)) (fun k h1 h2 => absurd h2 (by omega)) (Or.inr ⟨by omega, Or.inl ⟨rfl, by omega⟩⟩)
      refine Eq.trans ?_ (Eq.trans hgo ?_)
      · rfl
      · rw [E_151_7]
        simp only [↓reduceIte, q_i, q_l, q_k, q_r, q_z, q_si, q_sl, jx_lt, jx_ri, jx_rl, jx_rv, if_true, if_false, Nat.reduceLeDiff, Nat.add_one_ne_zero, and_self, true_or, or_true, Nat.reduceEqDiff, or_self, or_false, false_or, xo_k hx, xo_r0 hx, xo_r1 hx, xo_r2 hx, xo_r3 hx, xo_r4 hx, xo_r5 hx, xo_r6 hx, xo_r7 hx, xo_r8 hx, xo_r9 hx, xo_r10 hx, xo_r11 hx, xo_ka hx, xo_ra0 hx, xo_ra1 hx, xo_ko hx, xo_ro0 hx, xo_ro1 hx, xo_kf hx, xo_rf0 hx, xo_kh hx, xo_rh0 hx, xo_ke hx, xo_re0 hx, xo_re1 hx, xo_kn hx, xo_zn hx, xo_re2 hx, xo_re3 hx, xo_kt hx, xo_rt0 hx, xo_t0 hx, (xo_ft hx).1, (xo_now hx).1, (xo_now hx).2.1, (xo_now hx).2.2.1, (xo_try hx).1, (xo_yr hx).1.1, (xo_ty hx).1, answered_eq hx, refused_eq hx, show ¬ (1 : Int32) = 0 by decide, Nat.reduceLT]
    · simp only [D_302, E_302_0, D_300, E_300_0, E_300_1, E_300_3, ↓reduceIte, q_i, q_l, q_k, q_r, q_z, q_si, q_sl, jx_lt, jx_ri, jx_rl, jx_rv, if_true, if_false, Nat.reduceLeDiff, Nat.add_one_ne_zero, and_self, true_or, or_true, Nat.reduceEqDiff, or_self, or_false, false_or, mo_k hm.1, mo_r5 hm.1, mo_k5 hm.1, mo_z5 hm.1, mo_r16 hm.1, mo_k16 hm.1, mo_z16 hm.1, mo_r17 hm.1, mo_k17 hm.1, mo_z17 hm.1, mo_r18 hm.1, mo_k18 hm.1, mo_z18 hm.1, mo_r21 hm.1, mo_k21 hm.1, mo_z21 hm.1, mo_r22 hm.1, mo_k22 hm.1, mo_z22 hm.1, mo_r23 hm.1, mo_k23 hm.1, mo_z23 hm.1, mo_r24 hm.1, mo_k24 hm.1, mo_z24 hm.1, mo_r25 hm.1, mo_k25 hm.1, mo_z25 hm.1, mo_r26 hm.1, mo_k26 hm.1, mo_z26 hm.1, mo_r27 hm.1, mo_k27 hm.1, mo_z27 hm.1, mo_r29 hm.1, mo_k29 hm.1, mo_z29 hm.1, mo_r30 hm.1, mo_k30 hm.1, mo_z30 hm.1, mo_r31 hm.1, mo_k31 hm.1, mo_z31 hm.1, mo_r32 hm.1, mo_k32 hm.1, mo_z32 hm.1, mo_r40 hm.1, mo_k40 hm.1, mo_z40 hm.1, mo_r43 hm.1, mo_k43 hm.1, mo_z43 hm.1, mo_r44 hm.1, mo_k44 hm.1, mo_z44 hm.1, mf_k hm.2.1, mf_r14 hm.2.1, mf_k14 hm.2.1, mf_z14 hm.2.1, mf_r15 hm.2.1, mf_k15 hm.2.1, mf_z15 hm.2.1, mf_r16 hm.2.1, mf_k16 hm.2.1, mf_z16 hm.2.1, mf_r17 hm.2.1, mf_k17 hm.2.1, mf_z17 hm.2.1, mf_r18 hm.2.1, mf_k18 hm.2.1, mf_z18 hm.2.1, mf_r19 hm.2.1, mf_k19 hm.2.1, mf_z19 hm.2.1, mf_r20 hm.2.1, mf_k20 hm.2.1, mf_z20 hm.2.1, mf_r21 hm.2.1, mf_k21 hm.2.1, mf_z21 hm.2.1, mf_r22 hm.2.1, mf_k22 hm.2.1, mf_z22 hm.2.1, mf_r23 hm.2.1, mf_k23 hm.2.1, mf_z23 hm.2.1, mf_r24 hm.2.1, mf_k24 hm.2.1, mf_z24 hm.2.1, mf_r25 hm.2.1, mf_k25 hm.2.1, mf_z25 hm.2.1, mf_r26 hm.2.1, mf_k26 hm.2.1, mf_z26 hm.2.1, mf_r27 hm.2.1, mf_k27 hm.2.1, mf_z27 hm.2.1, mf_r28 hm.2.1, mf_k28 hm.2.1, mf_z28 hm.2.1, mf_r29 hm.2.1, mf_k29 hm.2.1, mf_z29 hm.2.1, mf_r30 hm.2.1, mf_k30 hm.2.1, mf_z30 hm.2.1, mf_r31 hm.2.1, mf_k31 hm.2.1, mf_z31 hm.2.1, mf_r32 hm.2.1, mf_k32 hm.2.1, mf_z32 hm.2.1, mf_r33 hm.2.1, mf_k33 hm.2.1, mf_z33 hm.2.1, mf_r34 hm.2.1, mf_k34 hm.2.1, mf_z34 hm.2.1, mf_r35 hm.2.1, mf_k35 hm.2.1, mf_z35 hm.2.1, mf_r36 hm.2.1, mf_k36 hm.2.1, mf_z36 hm.2.1, hm.2.2.1, hm.2.2.2, q_mZ, mgood_eq hm.1, mrefused_eq hm.1, show ¬ (1 : Int32) = 0 by decide, show ¬ (1 : Int32) ≤ 0 by decide, show ¬ (2 : Int32) ≤ 0 by decide, show ¬ (6 : Int32) ≤ 0 by decide, show (0 : Int32) ≤ 0 by decide, in_eq, k9, k2, w_nn (a := n) (by omega), w_nlt hn (by omega), show ¬ (0 : Int32) < 0 by decide, show ¬ w 999 < (0 : Int32) by decide, w_nn (a := y) (by omega), w_nlt hy (by omega), E_302_1]
      have key : ∀ k, k ≤ 1000 → jd 302 2 [some (.ref 240), some (.int (w n)), some (.int (w y)), none, some (.int (w k - 1))] [] (mZ (cT I 0) 240, L, s) = some (some (.int (q_mt p k)), mG (mZ (cT I 0) 240) 240 0, L, s) := by
        intro k
        induction k with
        | zero =>
          intro _
          rw [E_302_2, if_pos (show w 0 - 1 < (0 : Int32) by decide), E_302_4]
          simp only [↓reduceIte, q_i, q_l, q_k, q_r, q_z, q_si, q_sl, jx_lt, jx_ri, jx_rl, jx_rv, if_true, if_false, Nat.reduceLeDiff, Nat.add_one_ne_zero, and_self, true_or, or_true, Nat.reduceEqDiff, or_self, or_false, false_or, mo_k hm.1, mgood_eq hm.1]
          rfl
        | succ k ih =>
          intro hk
          have hh := herd_le (g := g) (r := r) (t := k) (n := n) hr hn y
          rw [E_302_2, w_sub1 (by omega), if_neg (w_nn (by omega))]
          simp only [↓reduceIte, q_i, q_l, q_k, q_r, q_z, q_si, q_sl, jx_lt, jx_ri, jx_rl, jx_rv, if_true, if_false, Nat.reduceLeDiff, Nat.add_one_ne_zero, and_self, true_or, or_true, Nat.reduceEqDiff, or_self, or_false, false_or, mo_k hm.1, herdM_eq hm (hmm 0).1 hg (hmm 0).2 hr (show k ≤ 999 by omega) hy hn, w_lt (a := q_herd g r k y n) (b := n) (by omega) (by omega)]
          show _ = some (some (Value.int (if p k = true then w k else q_mt p k)), mG (mZ (cT I 0) 240) 240 0, L, s)
          by_cases c : q_herd g r k y n < n
          · rw [if_pos c, E_302_3, show (-1 : Int32) = -(1 : Int32) from rfl, ← Int32.sub_eq_add_neg, ih (by omega), if_neg]
            rw [hpk, decide_eq_true_eq]; omega
          · rw [if_neg c, if_pos (by rw [hpk, decide_eq_true_eq]; omega)]
            simp only [mgood_eq hm.1, ↓reduceIte, q_i, q_l, q_k, q_r, q_z, q_si, q_sl, jx_lt, jx_ri, jx_rl, jx_rv, if_true, if_false, Nat.reduceLeDiff, Nat.add_one_ne_zero, and_self, true_or, or_true, Nat.reduceEqDiff, or_self, or_false, false_or]
      exact key 1000 (Nat.le_refl _)
  · exact bad hno
end PH
