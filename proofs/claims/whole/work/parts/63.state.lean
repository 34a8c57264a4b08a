/-! THE WHOLE STATE -/
def q_lw : List Nat := [214211860, 6694067, 643568, 23609, 735599309185, 599495, 66667, 16496818, 16052, 591150, 763332]
def q_ln : List Nat := [0, 1, 3, 4, 5, 6, 7, 8, 9, 10, 11]
def qn (s : qS) : Nat := s.2.2.2.1
def qw (s : qS) : Nat := s.2.2.2.2
def qKw (s s' : qS) : Prop := (∀ a, a < qn s → qk s' a = qk s a ∧ qz s' a = qz s a) ∧ (∀ a k, a < qn s → ((a ≠ 214 ∨ k < 7) ∧ (a ≠ 240 ∨ k ≠ 4) ∧ (a ≠ 181 ∨ k ≠ 5)) → qr s' a k = qr s a k) ∧ qn s ≤ qn s'
section KW
variable {s s' : qS} {t t' : Nat}
theorem kw_of (h : qKs s s') : qKw s s' := ⟨fun a _ => ⟨congrFun (ks_k h) a, congrFun (ks_z h) a⟩, fun a k _ hc => h.2 a k hc.1, by show s.2.2.2.1 ≤ s'.2.2.2.1; rw [h.1]; exact Nat.le_refl _⟩
theorem kw_r (h : qKw s s') {a k : Nat} (ha : a < qn s) (hc : (a ≠ 214 ∨ k < 7) ∧ (a ≠ 240 ∨ k ≠ 4) ∧ (a ≠ 181 ∨ k ≠ 5)) : qr s' a k = qr s a k := h.2.1 a k ha hc
theorem kw_row (h : qKw s s') {r n : Nat} (hr : r + 1 < qn s) (q : qRow s r n) : qRow s' r n := ⟨(h.1 r (by omega)).1.trans q.1, (kw_r h (by omega) ⟨Or.inr (by omega), Or.inr (by omega), Or.inr (by omega)⟩).trans q.2.1, (h.1 _ hr).1.trans q.2.2.1, (h.1 _ hr).2.trans q.2.2.2.1, q.2.2.2.2⟩
theorem kw_fl (h : qKw s s') {r : Nat} (hr : r + 39 < 181 ∧ r + 39 < qn s) (q : qFl s r) : qFl s' r := ⟨(h.1 r (by omega)).1.trans q.1, fun k hk => ⟨(kw_r h (by omega) ⟨Or.inl (by omega), Or.inl (by omega), Or.inl (by omega)⟩).trans (q.2 k hk).1, kw_row h (by omega) (q.2 k hk).2⟩⟩
theorem kw_pl (h : qKw s s') {r : Nat} (hr : r + 2 < qn s) (q : qPl s r) : qPl s' r := ⟨(h.1 r (by omega)).1.trans q.1, (kw_r h (by omega) ⟨Or.inr (by omega), Or.inr (by omega), Or.inr (by omega)⟩).trans q.2.1, kw_row h (by omega) q.2.2⟩
theorem kw_yr (h : qKw s s') {r : Nat} (hr : r + 15 < qn s ∧ r ≠ 181 ∧ r ≠ 240) (q : qYr0 s r) : qYr0 s' r := ⟨(h.1 r (by omega)).1.trans q.1, fun k hk => ⟨(kw_r h (by omega) ⟨Or.inr hk, Or.inl (by omega), Or.inl (by omega)⟩).trans (q.2 k hk).1, kw_row h (by omega) (q.2 k hk).2⟩⟩
theorem xo_kw (hn : 260 ≤ qn s) (h : qKw s s') (hx : qXo s t t') : qXo s' t t' :=
  ⟨(h.1 _ (by omega)).1.trans (xo_k hx), (kw_r h (by omega) (by decide)).trans (xo_r0 hx), (kw_r h (by omega) (by decide)).trans (xo_r1 hx), (kw_r h (by omega) (by decide)).trans (xo_r2 hx), (kw_r h (by omega) (by decide)).trans (xo_r3 hx), (kw_r h (by omega) (by decide)).trans (xo_r4 hx), (kw_r h (by omega) (by decide)).trans (xo_r5 hx), (kw_r h (by omega) (by decide)).trans (xo_r6 hx), (kw_r h (by omega) (by decide)).trans (xo_r7 hx), (kw_r h (by omega) (by decide)).trans (xo_r8 hx), (kw_r h (by omega) (by decide)).trans (xo_r9 hx), (kw_r h (by omega) (by decide)).trans (xo_r10 hx), (kw_r h (by omega) (by decide)).trans (xo_r11 hx), xo_tt hx, kw_fl h (by have := xo_tt hx; omega) (xo_ft hx), kw_fl h (by have := xo_tt hx; omega) (xo_ft' hx), kw_row h (by omega) (xo_row179 hx), kw_pl h (by omega) (xo_now hx), kw_pl h (by omega) (xo_try hx), (h.1 _ (by omega)).1.trans (xo_ka hx), (kw_r h (by omega) (by decide)).trans (xo_ra0 hx), (kw_r h (by omega) (by decide)).trans (xo_ra1 hx), kw_row h (by omega) (xo_past hx), kw_row h (by omega) (xo_marks hx), ⟨kw_yr h (by omega) (xo_yr hx).1, (kw_r h (by omega) (by decide)).trans (xo_yr hx).2.1, (kw_r h (by omega) (by decide)).trans (xo_yr hx).2.2⟩, kw_yr h (by omega) (xo_ty hx), (h.1 _ (by omega)).1.trans (xo_ko hx), (kw_r h (by omega) (by decide)).trans (xo_ro0 hx), (kw_r h (by omega) (by decide)).trans (xo_ro1 hx), kw_row h (by omega) (xo_routes hx), kw_row h (by omega) (xo_found hx), (h.1 _ (by omega)).1.trans (xo_kf hx), (kw_r h (by omega) (by decide)).trans (xo_rf0 hx), kw_row h (by omega) (xo_seen hx), (h.1 _ (by omega)).1.trans (xo_kh hx), (kw_r h (by omega) (by decide)).trans (xo_rh0 hx), kw_row h (by omega) (xo_rounds hx), (h.1 _ (by omega)).1.trans (xo_ke hx), (kw_r h (by omega) (by decide)).trans (xo_re0 hx), (kw_r h (by omega) (by decide)).trans (xo_re1 hx), (h.1 _ (by omega)).1.trans (xo_kn hx), (h.1 _ (by omega)).2.trans (xo_zn hx), (kw_r h (by omega) (by decide)).trans (xo_re2 hx), kw_row h (by omega) (xo_nsort hx), (kw_r h (by omega) (by decide)).trans (xo_re3 hx), kw_row h (by omega) (xo_nnum hx), (h.1 _ (by omega)).1.trans (xo_kt hx), (kw_r h (by omega) (by decide)).trans (xo_rt0 hx)⟩
theorem mo_kw (hn : 260 ≤ qn s) (h : qKw s s') (hm : qMo s 240) : qMo s' 240 := by
  exact ⟨(h.1 _ (by omega)).1.trans (mo_k hm), ⟨(kw_r h (by omega) (by decide)).trans (mo_r5 hm), (h.1 _ (by omega)).1.trans (mo_k5 hm), (h.1 _ (by omega)).2.trans (mo_z5 hm)⟩, ⟨(kw_r h (by omega) (by decide)).trans (mo_r16 hm), (h.1 _ (by omega)).1.trans (mo_k16 hm), (h.1 _ (by omega)).2.trans (mo_z16 hm)⟩, ⟨(kw_r h (by omega) (by decide)).trans (mo_r17 hm), (h.1 _ (by omega)).1.trans (mo_k17 hm), (h.1 _ (by omega)).2.trans (mo_z17 hm)⟩, ⟨(kw_r h (by omega) (by decide)).trans (mo_r18 hm), (h.1 _ (by omega)).1.trans (mo_k18 hm), (h.1 _ (by omega)).2.trans (mo_z18 hm)⟩, ⟨(kw_r h (by omega) (by decide)).trans (mo_r21 hm), (h.1 _ (by omega)).1.trans (mo_k21 hm), (h.1 _ (by omega)).2.trans (mo_z21 hm)⟩, ⟨(kw_r h (by omega) (by decide)).trans (mo_r22 hm), (h.1 _ (by omega)).1.trans (mo_k22 hm), (h.1 _ (by omega)).2.trans (mo_z22 hm)⟩, ⟨(kw_r h (by omega) (by decide)).trans (mo_r23 hm), (h.1 _ (by omega)).1.trans (mo_k23 hm), (h.1 _ (by omega)).2.trans (mo_z23 hm)⟩, ⟨(kw_r h (by omega) (by decide)).trans (mo_r24 hm), (h.1 _ (by omega)).1.trans (mo_k24 hm), (h.1 _ (by omega)).2.trans (mo_z24 hm)⟩, ⟨(kw_r h (by omega) (by decide)).trans (mo_r25 hm), (h.1 _ (by omega)).1.trans (mo_k25 hm), (h.1 _ (by omega)).2.trans (mo_z25 hm)⟩, ⟨(kw_r h (by omega) (by decide)).trans (mo_r26 hm), (h.1 _ (by omega)).1.trans (mo_k26 hm), (h.1 _ (by omega)).2.trans (mo_z26 hm)⟩, ⟨(kw_r h (by omega) (by decide)).trans (mo_r27 hm), (h.1 _ (by omega)).1.trans (mo_k27 hm), (h.1 _ (by omega)).2.trans (mo_z27 hm)⟩, ⟨(kw_r h (by omega) (by decide)).trans (mo_r29 hm), (h.1 _ (by omega)).1.trans (mo_k29 hm), (h.1 _ (by omega)).2.trans (mo_z29 hm)⟩, ⟨(kw_r h (by omega) (by decide)).trans (mo_r30 hm), (h.1 _ (by omega)).1.trans (mo_k30 hm), (h.1 _ (by omega)).2.trans (mo_z30 hm)⟩, ⟨(kw_r h (by omega) (by decide)).trans (mo_r31 hm), (h.1 _ (by omega)).1.trans (mo_k31 hm), (h.1 _ (by omega)).2.trans (mo_z31 hm)⟩, ⟨(kw_r h (by omega) (by decide)).trans (mo_r32 hm), (h.1 _ (by omega)).1.trans (mo_k32 hm), (h.1 _ (by omega)).2.trans (mo_z32 hm)⟩, ⟨(kw_r h (by omega) (by decide)).trans (mo_r40 hm), (h.1 _ (by omega)).1.trans (mo_k40 hm), (h.1 _ (by omega)).2.trans (mo_z40 hm)⟩, ⟨(kw_r h (by omega) (by decide)).trans (mo_r43 hm), (h.1 _ (by omega)).1.trans (mo_k43 hm), (h.1 _ (by omega)).2.trans (mo_z43 hm)⟩, ⟨(kw_r h (by omega) (by decide)).trans (mo_r44 hm), (h.1 _ (by omega)).1.trans (mo_k44 hm), (h.1 _ (by omega)).2.trans (mo_z44 hm)⟩⟩
theorem mf_kw {f : Nat} (hf : 260 ≤ f) (hfn : f + 24 ≤ qn s) (h : qKw s s') (hm : qMf s f) : qMf s' f :=
  ⟨(h.1 _ (by omega)).1.trans (mf_k hm), ⟨(kw_r h (by omega) ⟨Or.inl (by omega), Or.inl (by omega), Or.inl (by omega)⟩).trans (mf_r14 hm), (h.1 _ (by omega)).1.trans (mf_k14 hm), (h.1 _ (by omega)).2.trans (mf_z14 hm)⟩, ⟨(kw_r h (by omega) ⟨Or.inl (by omega), Or.inl (by omega), Or.inl (by omega)⟩).trans (mf_r15 hm), (h.1 _ (by omega)).1.trans (mf_k15 hm), (h.1 _ (by omega)).2.trans (mf_z15 hm)⟩, ⟨(kw_r h (by omega) ⟨Or.inl (by omega), Or.inl (by omega), Or.inl (by omega)⟩).trans (mf_r16 hm), (h.1 _ (by omega)).1.trans (mf_k16 hm), (h.1 _ (by omega)).2.trans (mf_z16 hm)⟩, ⟨(kw_r h (by omega) ⟨Or.inl (by omega), Or.inl (by omega), Or.inl (by omega)⟩).trans (mf_r17 hm), (h.1 _ (by omega)).1.trans (mf_k17 hm), (h.1 _ (by omega)).2.trans (mf_z17 hm)⟩, ⟨(kw_r h (by omega) ⟨Or.inl (by omega), Or.inl (by omega), Or.inl (by omega)⟩).trans (mf_r18 hm), (h.1 _ (by omega)).1.trans (mf_k18 hm), (h.1 _ (by omega)).2.trans (mf_z18 hm)⟩, ⟨(kw_r h (by omega) ⟨Or.inl (by omega), Or.inl (by omega), Or.inl (by omega)⟩).trans (mf_r19 hm), (h.1 _ (by omega)).1.trans (mf_k19 hm), (h.1 _ (by omega)).2.trans (mf_z19 hm)⟩, ⟨(kw_r h (by omega) ⟨Or.inl (by omega), Or.inl (by omega), Or.inl (by omega)⟩).trans (mf_r20 hm), (h.1 _ (by omega)).1.trans (mf_k20 hm), (h.1 _ (by omega)).2.trans (mf_z20 hm)⟩, ⟨(kw_r h (by omega) ⟨Or.inl (by omega), Or.inl (by omega), Or.inl (by omega)⟩).trans (mf_r21 hm), (h.1 _ (by omega)).1.trans (mf_k21 hm), (h.1 _ (by omega)).2.trans (mf_z21 hm)⟩, ⟨(kw_r h (by omega) ⟨Or.inl (by omega), Or.inl (by omega), Or.inl (by omega)⟩).trans (mf_r22 hm), (h.1 _ (by omega)).1.trans (mf_k22 hm), (h.1 _ (by omega)).2.trans (mf_z22 hm)⟩, ⟨(kw_r h (by omega) ⟨Or.inl (by omega), Or.inl (by omega), Or.inl (by omega)⟩).trans (mf_r23 hm), (h.1 _ (by omega)).1.trans (mf_k23 hm), (h.1 _ (by omega)).2.trans (mf_z23 hm)⟩, ⟨(kw_r h (by omega) ⟨Or.inl (by omega), Or.inl (by omega), Or.inl (by omega)⟩).trans (mf_r24 hm), (h.1 _ (by omega)).1.trans (mf_k24 hm), (h.1 _ (by omega)).2.trans (mf_z24 hm)⟩, ⟨(kw_r h (by omega) ⟨Or.inl (by omega), Or.inl (by omega), Or.inl (by omega)⟩).trans (mf_r25 hm), (h.1 _ (by omega)).1.trans (mf_k25 hm), (h.1 _ (by omega)).2.trans (mf_z25 hm)⟩, ⟨(kw_r h (by omega) ⟨Or.inl (by omega), Or.inl (by omega), Or.inl (by omega)⟩).trans (mf_r26 hm), (h.1 _ (by omega)).1.trans (mf_k26 hm), (h.1 _ (by omega)).2.trans (mf_z26 hm)⟩, ⟨(kw_r h (by omega) ⟨Or.inl (by omega), Or.inl (by omega), Or.inl (by omega)⟩).trans (mf_r27 hm), (h.1 _ (by omega)).1.trans (mf_k27 hm), (h.1 _ (by omega)).2.trans (mf_z27 hm)⟩, ⟨(kw_r h (by omega) ⟨Or.inl (by omega), Or.inl (by omega), Or.inl (by omega)⟩).trans (mf_r28 hm), (h.1 _ (by omega)).1.trans (mf_k28 hm), (h.1 _ (by omega)).2.trans (mf_z28 hm)⟩, ⟨(kw_r h (by omega) ⟨Or.inl (by omega), Or.inl (by omega), Or.inl (by omega)⟩).trans (mf_r29 hm), (h.1 _ (by omega)).1.trans (mf_k29 hm), (h.1 _ (by omega)).2.trans (mf_z29 hm)⟩, ⟨(kw_r h (by omega) ⟨Or.inl (by omega), Or.inl (by omega), Or.inl (by omega)⟩).trans (mf_r30 hm), (h.1 _ (by omega)).1.trans (mf_k30 hm), (h.1 _ (by omega)).2.trans (mf_z30 hm)⟩, ⟨(kw_r h (by omega) ⟨Or.inl (by omega), Or.inl (by omega), Or.inl (by omega)⟩).trans (mf_r31 hm), (h.1 _ (by omega)).1.trans (mf_k31 hm), (h.1 _ (by omega)).2.trans (mf_z31 hm)⟩, ⟨(kw_r h (by omega) ⟨Or.inl (by omega), Or.inl (by omega), Or.inl (by omega)⟩).trans (mf_r32 hm), (h.1 _ (by omega)).1.trans (mf_k32 hm), (h.1 _ (by omega)).2.trans (mf_z32 hm)⟩, ⟨(kw_r h (by omega) ⟨Or.inl (by omega), Or.inl (by omega), Or.inl (by omega)⟩).trans (mf_r33 hm), (h.1 _ (by omega)).1.trans (mf_k33 hm), (h.1 _ (by omega)).2.trans (mf_z33 hm)⟩, ⟨(kw_r h (by omega) ⟨Or.inl (by omega), Or.inl (by omega), Or.inl (by omega)⟩).trans (mf_r34 hm), (h.1 _ (by omega)).1.trans (mf_k34 hm), (h.1 _ (by omega)).2.trans (mf_z34 hm)⟩, ⟨(kw_r h (by omega) ⟨Or.inl (by omega), Or.inl (by omega), Or.inl (by omega)⟩).trans (mf_r35 hm), (h.1 _ (by omega)).1.trans (mf_k35 hm), (h.1 _ (by omega)).2.trans (mf_z35 hm)⟩, ⟨(kw_r h (by omega) ⟨Or.inl (by omega), Or.inl (by omega), Or.inl (by omega)⟩).trans (mf_r36 hm), (h.1 _ (by omega)).1.trans (mf_k36 hm), (h.1 _ (by omega)).2.trans (mf_z36 hm)⟩⟩
end KW
/-- names of the class's lines -/
def qNm (I : qI) (L : qL) : Prop := ∀ k, k < 11 → L 182 k = wl (q_lw.getD k 0) ∧ I (183 + 1) k = 0 ∧ I (185 + 1) k = w (q_ln.getD k 0)
def qTp (I : qI) : Prop := (∃ T, I 100 12 = w T ∧ T ≤ 1100 ∧ I 240 6 = w T) ∧ ∀ k, k < 1100 → ∃ b, b < 256 ∧ I (179 + 1) k = w b ∧ I (240 + 1) k &&& 255 = w b
def qTr (I : qI) : Prop := I 100 14 = I 240 13 ∧ I 100 13 = I 240 1 ∧ I 240 2 = (if I 100 13 = 4 then I 100 15 else -1)
def qSt (I : qI) (s : qS) (t t' : Nat) : Prop := qH0 I s t t' ∨ ∃ f U S dn R O W, qHV I s t t' f U S dn R O W ∧ f + 24 ≤ qn s
/-- script, texts, out -/
def qSx (I : qI) (s : qS) (X : Nat → Int32) (N : Nat) : Prop := I 1 = X ∧ qk s 1 = 30 ∧ qz s 1 = N ∧ (∀ a, 2 ≤ a → a < 59 → qk s a = 40) ∧ qk s 259 = 21 ∧ qz s 259 = 1 ∧ 260 ≤ qn s
def qOk (I : qI) (L : qL) (s : qS) (t t' : Nat) (X : Nat → Int32) (N : Nat) : Prop := qNm I L ∧ qTp I ∧ qTr I ∧ qSt I s t t' ∧ qSx I s X N
/-- a call of both sides, the same answer, and all holds on -/
def qStep (I : qI) (L : qL) (s : qS) (X : Nat → Int32) (N : Nat) (j : Nat) (as : List Value) (j' : Nat) (as' : List Value) : Prop :=
  ∃ v I1 L1 s1 I2 L2 s2 t2 t2', jD j as (I, L, s) = some (some v, I1, L1, s1) ∧ jD j' as' (I1, L1, s1) = some (some v, I2, L2, s2) ∧ I1 1 = X ∧ qk s1 1 = 30 ∧ qz s1 1 = N ∧ qk s1 240 = 13 ∧ qOk I2 L2 s2 t2 t2' X N ∧ qn s2 ≤ qn s + 24 ∧ qw s2 ≤ qw s + 1000
/-- what may change -/
def qFrW (I J : qI) (t' n : Nat) : Prop := (∀ a, ¬ qSc a → ¬ (180 ≤ a ∧ a ≤ 187) → a ≠ 241 → ¬ (t' ≤ a ∧ a < t' + 39) → a < n → J a = I a) ∧ J 240 19 = I 240 19 ∧ J 240 20 = I 240 20
section ST
variable {I J : qI} {L L' : qL} {s s' : qS} {t t' : Nat} {X : Nat → Int32} {N : Nat}
theorem sx_kw (hx : qSx I s X N) (h1 : J 1 = I 1) (hk : qKw s s') : qSx J s' X N := by
  obtain ⟨a1, a2, a3, a4, a5, a6, a7⟩ := hx
  exact ⟨h1.trans a1, (hk.1 _ (by omega)).1.trans a2, (hk.1 _ (by omega)).2.trans a3, fun a h2 h3 => (hk.1 a (by omega)).1.trans (a4 a h2 h3), (hk.1 _ (by omega)).1.trans a5, (hk.1 _ (by omega)).2.trans a6, Nat.le_trans a7 hk.2.2⟩
theorem st_x (h : qSt I s t t') : qXo s t t' := by
  rcases h with h | ⟨f, U, S, dn, R, O, W, h, -⟩
  · exact h.1
  · exact h.1.1
theorem st_m (h : qSt I s t t') : qMo s 240 := by
  rcases h with h | ⟨f, U, S, dn, R, O, W, h, -⟩
  · exact h.2.1
  · exact h.1.2.1.1
theorem st_W (hn : 260 ≤ qn s) (h : qSt I s t t') (hf : qFrW I J t' (qn s)) (hk : qKw s s') : qSt J s' t t' := by
  have htt := xo_tt (st_x h)
  have c : ∀ a, ¬ qSc a → ¬ (180 ≤ a ∧ a ≤ 187) → a ≠ 241 → ¬ (t' ≤ a ∧ a < t' + 39) → a < qn s → J a = I a := hf.1
  have ed : qd J t = qd I t := qd_same fun a h1 h2 => c a (by unfold qSc; omega) (by omega) (by omega) (by omega) (by omega)
  rcases h with h | ⟨f, U, S, dn, R, O, W, h, hfn⟩
  · obtain ⟨h1, h2, h3, h4, h5, h6⟩ := h
    refine Or.inl ⟨xo_kw hn hk h1, mo_kw hn hk h2, (kw_r hk (by omega) (by decide)).trans h3, by rw [ed]; exact h4, ?_, ?_⟩
    · rw [c 194 (by unfold qSc; omega) (by omega) (by omega) (by omega) (by omega)]; exact h5
    · rw [c 194 (by unfold qSc; omega) (by omega) (by omega) (by omega) (by omega)]; exact h6
  · obtain ⟨h1, h2, h3, h4, h5, h6⟩ := h
    obtain ⟨hx, hm, hf9, hT⟩ := h1
    refine Or.inr ⟨f, U, S, dn, R, O, W, ⟨⟨xo_kw hn hk hx, ⟨mo_kw hn hk hm.1, mf_kw hf9 hfn hk hm.2.1, (kw_r hk (by omega) (by decide)).trans hm.2.2.1, hm.2.2.2⟩, hf9, ?_⟩, ?_, ?_, ?_, ?_, ?_⟩, Nat.le_trans hfn hk.2.2⟩
    · rw [ed, c (188 + 2) (by unfold qSc; omega) (by omega) (by omega) (by omega) (by omega)]
      exact tie_congr (me_congr fun k hk => c _ (by unfold qSc; omega) (by omega) (by omega) (by omega) (by omega)) (c _ (by unfold qSc; omega) (by omega) (by omega) (by omega) (by omega)) hT
    · unfold qYY at h2 ⊢
      rw [ed, c (188 + 2) (by unfold qSc; omega) (by omega) (by omega) (by omega) (by omega), c (199 + 1 + 2 * 0 + 1) (by unfold qSc; omega) (by omega) (by omega) (by omega) (by omega), c (199 + 1 + 2 * 1 + 1) (by unfold qSc; omega) (by omega) (by omega) (by omega) (by omega), c (199 + 1 + 2 * 2 + 1) (by unfold qSc; omega) (by omega) (by omega) (by omega) (by omega), c (199 + 1 + 2 * 3 + 1) (by unfold qSc; omega) (by omega) (by omega) (by omega) (by omega), c (199 + 1 + 2 * 4 + 1) (by unfold qSc; omega) (by omega) (by omega) (by omega) (by omega), c (199 + 1 + 2 * 6 + 1) (by unfold qSc; omega) (by omega) (by omega) (by omega) (by omega)]
      exact h2
    · unfold qOO at h3 ⊢
      rw [ed, c (232 + 1) (by unfold qSc; omega) (by omega) (by omega) (by omega) (by omega), c (230 + 1) (by unfold qSc; omega) (by omega) (by omega) (by omega) (by omega)]
      exact h3
    · rw [ed]; exact ca_congr (c 234 (by unfold qSc; omega) (by omega) (by omega) (by omega) (by omega)) h4
    · rw [ed, c (188 + 2) (by unfold qSc; omega) (by omega) (by omega) (by omega) (by omega), c (240 + 2) (by unfold qSc; omega) (by omega) (by omega) (by omega) (by omega)]; exact h5
    · unfold qAc at h6 ⊢
      rw [ed, c 194 (by unfold qSc; omega) (by omega) (by omega) (by omega) (by omega), c (195 + 1) (by unfold qSc; omega) (by omega) (by omega) (by omega) (by omega), c (197 + 1) (by unfold qSc; omega) (by omega) (by omega) (by omega) (by omega), c (240 + 3) (by unfold qSc; omega) (by omega) (by omega) (by omega) (by omega), c (240 + 4) (by unfold qSc; omega) (by omega) (by omega) (by omega) (by omega), hf.2.1, hf.2.2]
      exact h6
theorem fr_W (h : qFr I J) {n : Nat} : qFrW I J t' n := ⟨fun a ha _ _ _ _ => h.1 a ha, h.2.2.2.2.1, h.2.2.2.2.2⟩
/-- tape and names, by what lasts -/
theorem tp_fr (h1 : J 100 12 = I 100 12) (h2 : J 240 6 = I 240 6) (h3 : J (179 + 1) = I (179 + 1)) (h4 : J (240 + 1) = I (240 + 1)) (h : qTp I) : qTp J := by
  obtain ⟨⟨T, a1, a2, a3⟩, a4⟩ := h
  exact ⟨⟨T, h1.trans a1, a2, h2.trans a3⟩, by rw [h3, h4]; exact a4⟩
theorem nm_fr (h1 : ∀ k, L' 182 k = L 182 k) (h2 : J (183 + 1) = I (183 + 1)) (h3 : J (185 + 1) = I (185 + 1)) (h : qNm I L) : qNm J L' := fun k hk => by
  rw [h1, h2, h3]; exact h k hk
theorem step_0 {j j' : Nat} {as as' : List Value} (ok : qOk I L s t t' X N) (h0 : qH0 I s t t') (ha : qAns I L s j as j' as') : qStep I L s X N j as j' as' := by
  obtain ⟨v, r, J1, L1, s1, J2, L2, s2, a1, a2, a3, a4, a5, a6, a7, a8, a9, a10, a11⟩ := ha
  obtain ⟨o1, o2, o3, o4, o5⟩ := ok
  have hk := kw_of a8
  have c : ∀ a, ¬ qSc a → J2 a = I a := a3.1
  have h1 : ∀ a, qk s1 a = qk s a ∧ qz s1 a = qz s a := fun a => by
    have e1 : qk s1 = qk s := congrArg (fun x => x.1) a11
    have e2 : qz s1 = qz s := congrArg (fun x => x.2.1) a11
    exact ⟨congrFun e1 a, congrFun e2 a⟩
  refine ⟨v, J1, L1, s1, J2, L2, s2, t, t', a1, a2, a10.trans o5.1, (h1 1).1.trans o5.2.1, (h1 1).2.trans o5.2.2.1, (h1 240).1.trans h0.2.1.1, ⟨nm_fr a9 (c _ (by unfold qSc; omega)) (c _ (by unfold qSc; omega)) o1, tp_fr a3.2.1.1 a3.2.2.1 (c _ (by unfold qSc; omega)) (c _ (by unfold qSc; omega)) o2, ⟨?_, a4.trans a5.symm, ?_⟩, st_W o5.2.2.2.2.2.2 o4 (fr_W a3) hk, sx_kw o5 (c 1 (by unfold qSc; omega)) hk⟩, ?_, ?_⟩
  · rw [a3.2.1.2.1, a3.2.2.2.1]; exact o3.1
  · rw [a6, a4, if_neg a7]
  · show s2.2.2.2.1 ≤ s.2.2.2.1 + 24
    rw [a8.1]; omega
  · show s2.2.2.2.2 ≤ s.2.2.2.2 + 1000
    rw [a8.1]; omega
theorem step_1 {j j' : Nat} {as as' : List Value} {f U S dn R O W : Nat} (ok : qOk I L s t t' X N) (h0 : qHV I s t t' f U S dn R O W) (hfn : f + 24 ≤ qn s) (ha : qAnsA I L s t t' f U S dn R O W j as j' as') : qStep I L s X N j as j' as' := by
  obtain ⟨v, r, J1, L1, s1, J2, L2, s2, a1, a2, c, a3, b1, b2, a4, a5, a6, a7, a8, a9, hv, a10, a11⟩ := ha
  obtain ⟨o1, o2, o3, o4, o5⟩ := ok
  have hk := kw_of a8
  have h1 : ∀ a, qk s1 a = qk s a ∧ qz s1 a = qz s a := fun a => by
    have e1 : qk s1 = qk s := congrArg (fun x => x.1) a11
    have e2 : qz s1 = qz s := congrArg (fun x => x.2.1) a11
    exact ⟨congrFun e1 a, congrFun e2 a⟩
  refine ⟨v, J1, L1, s1, J2, L2, s2, t, t', a1, a2, a10.trans o5.1, (h1 1).1.trans o5.2.1, (h1 1).2.trans o5.2.2.1, (h1 240).1.trans h0.1.2.1.1.1, ⟨nm_fr a9 (c _ (by omega)) (c _ (by omega)) o1, tp_fr a3.1 b1 (c _ (by omega)) (c _ (by omega)) o2, ⟨?_, a4.trans a5.symm, ?_⟩, Or.inr ⟨f, U, S, dn, R, O, W, hv, Nat.le_trans hfn hk.2.2⟩, sx_kw o5 (c 1 (by omega)) hk⟩, ?_, ?_⟩
  · rw [a3.2.1, b2]; exact o3.1
  · rw [a6, a4, if_neg a7]
  · show s2.2.2.2.1 ≤ s.2.2.2.1 + 24
    rw [a8.1]; omega
  · show s2.2.2.2.2 ≤ s.2.2.2.2 + 1000
    rw [a8.1]; omega
/-- nothing but the reference's own small cells is changed -/
theorem ok_Z (ok : qOk I L s t t' X N) : qOk (mZ I 240) L s t t' X N := by
  obtain ⟨o1, o2, o3, o4, o5⟩ := ok
  have c : ∀ a, ¬ qSc a → mZ I 240 a = I a := (fr_mZ (I := I)).1
  have h100 : mZ I 240 100 = I 100 := fr_x13
  have h240 : ∀ j, j ≠ 0 → mZ I 240 240 j = I 240 j := fun j hj => by rw [mZ, q_up_eq, q_set_ne hj]
  refine ⟨nm_fr (fun _ => rfl) (c _ (by unfold qSc; omega)) (c _ (by unfold qSc; omega)) o1, tp_fr (by rw [h100]) (h240 6 (by decide)) (c _ (by unfold qSc; omega)) (c _ (by unfold qSc; omega)) o2, ⟨?_, ?_, ?_⟩, st_W o5.2.2.2.2.2.2 o4 (fr_W fr_mZ) (kw_of ks_refl), sx_kw o5 (c 1 (by unfold qSc; omega)) (kw_of ks_refl)⟩
  · rw [h100, h240 13 (by decide)]; exact o3.1
  · rw [h100, h240 1 (by decide)]; exact o3.2.1
  · rw [h100, h240 2 (by decide)]; exact o3.2.2
theorem step_Z {j j' : Nat} {as as' : List Value} {v : Value} (ok : qOk I L s t t' X N) (h1 : jD j as (I, L, s) = some (some v, I, L, s)) (h2 : jD j' as' (I, L, s) = some (some v, mZ I 240, L, s)) : qStep I L s X N j as j' as' :=
  ⟨v, I, L, s, _, L, s, t, t', h1, h2, ok.2.2.2.2.1, ok.2.2.2.2.2.1, ok.2.2.2.2.2.2.1, (st_m ok.2.2.2.1).1, ok_Z ok, Nat.le_add_right _ _, Nat.le_add_right _ _⟩
theorem s_fault (ok : qOk I L s t t' X N) : qStep I L s X N 116 [.ref 100] 233 [.ref 240] := by
  have hx := st_x ok.2.2.2.1
  have hm := st_m ok.2.2.2.1
  refine step_Z (v := .int (I 100 14)) ok ?_ ?_
  · simp only [D_116, E_116_0, ↓reduceIte, q_i, q_l, q_k, q_r, q_z, q_si, q_sl, jx_lt, jx_ri, jx_rl, jx_rv, if_true, if_false, Nat.reduceLeDiff, Nat.add_one_ne_zero, and_self, true_or, or_true, Nat.reduceEqDiff, or_self, or_false, false_or, xo_k hx]
  · simp only [D_233, E_233_0, ↓reduceIte, q_i, q_l, q_k, q_r, q_z, q_si, q_sl, jx_lt, jx_ri, jx_rl, jx_rv, if_true, if_false, Nat.reduceLeDiff, Nat.add_one_ne_zero, and_self, true_or, or_true, Nat.reduceEqDiff, or_self, or_false, false_or, mo_k hm, q_mZ]
    rw [ok.2.2.1.1]
    rw [mZ, q_up_eq, q_set_ne (by decide)]
theorem s_where (ok : qOk I L s t t' X N) : qStep I L s X N 117 [.ref 100] 234 [.ref 240] := by
  have hx := st_x ok.2.2.2.1
  have hm := st_m ok.2.2.2.1
  refine step_Z (v := .int (I 240 2)) ok ?_ ?_
  · rw [ok.2.2.1.2.2]
    by_cases c : I 100 13 = 4
    · simp only [D_117, E_117_0, E_117_1, E_117_2, ↓reduceIte, q_i, q_l, q_k, q_r, q_z, q_si, q_sl, jx_lt, jx_ri, jx_rl, jx_rv, if_true, if_false, Nat.reduceLeDiff, Nat.add_one_ne_zero, and_self, true_or, or_true, Nat.reduceEqDiff, or_self, or_false, false_or, xo_k hx, c]
    · simp only [D_117, E_117_0, E_117_1, E_117_2, ↓reduceIte, q_i, q_l, q_k, q_r, q_z, q_si, q_sl, jx_lt, jx_ri, jx_rl, jx_rv, if_true, if_false, Nat.reduceLeDiff, Nat.add_one_ne_zero, and_self, true_or, or_true, Nat.reduceEqDiff, or_self, or_false, false_or, xo_k hx, c]
  · simp only [D_234, E_234_0, ↓reduceIte, q_i, q_l, q_k, q_r, q_z, q_si, q_sl, jx_lt, jx_ri, jx_rl, jx_rv, if_true, if_false, Nat.reduceLeDiff, Nat.add_one_ne_zero, and_self, true_or, or_true, Nat.reduceEqDiff, or_self, or_false, false_or, mo_k hm, q_mZ]
    rw [mZ, q_up_eq, q_set_ne (by decide)]
theorem s_trouble (ok : qOk I L s t t' X N) : qStep I L s X N 162 [.ref 100] 314 [.ref 240] := by
  have hx := st_x ok.2.2.2.1
  have hm := st_m ok.2.2.2.1
  refine step_Z (v := .int (I 100 13)) ok ?_ ?_
  · simp only [D_162, E_162_0, ↓reduceIte, q_i, q_l, q_k, q_r, q_z, q_si, q_sl, jx_lt, jx_ri, jx_rl, jx_rv, if_true, if_false, Nat.reduceLeDiff, Nat.add_one_ne_zero, and_self, true_or, or_true, Nat.reduceEqDiff, or_self, or_false, false_or, xo_k hx]
  · simp only [D_314, E_314_0, ↓reduceIte, q_i, q_l, q_k, q_r, q_z, q_si, q_sl, jx_lt, jx_ri, jx_rl, jx_rv, if_true, if_false, Nat.reduceLeDiff, Nat.add_one_ne_zero, and_self, true_or, or_true, Nat.reduceEqDiff, or_self, or_false, false_or, mo_k hm, q_mZ]
    rw [ok.2.2.1.2.1]
    rw [mZ, q_up_eq, q_set_ne (by decide)]
/-! size -/
theorem sw_161_12 {x0 : Nat} {M : jM} : jd 161 0 [some (.ref x0), some (.int (w 12))] [] M = jd 161 1 [some (.ref x0), none] [] M := jd_eq _ _ _ _ _
theorem sw_161_13 {x0 : Nat} {M : jM} : jd 161 0 [some (.ref x0), some (.int (w 13))] [] M = jd 161 2 [some (.ref x0), none] [] M := jd_eq _ _ _ _ _
theorem sw_161_14 {x0 : Nat} {M : jM} : jd 161 0 [some (.ref x0), some (.int (w 14))] [] M = jd 161 3 [some (.ref x0), none] [] M := jd_eq _ _ _ _ _
theorem sw_161_d {x0 : Nat} {x1 : Int32} {M : jM} (h : x1.toInt < 12 ∨ 12 + 3 ≤ x1.toInt) : jd 161 0 [some (.ref x0), some (.int x1)] [] M = jd 161 4 [some (.ref x0), some (.int x1)] [] M := by
  have e : jx_sw (jt_sw 3) x1 = 4 := if_pos h
  refine (jd_eq _ _ _ _ _).trans ?_
  show jd 161 (jx_sw (jt_sw 3) x1) (jx_mk (jt_cd 161 (jx_sw (jt_sw 3) x1)).2.2.2 _) _ _ = _
  rw [e]
  rfl
theorem sw_313_0 {x0 : Nat} {M : jM} : jd 313 3 [some (.ref x0), some (.int (w 0))] [] M = jd 313 4 [some (.ref x0), none] [] M := jd_eq _ _ _ _ _
theorem sw_313_1 {x0 : Nat} {M : jM} : jd 313 3 [some (.ref x0), some (.int (w 1))] [] M = jd 313 5 [some (.ref x0), none] [] M := jd_eq _ _ _ _ _
theorem sw_313_2 {x0 : Nat} {M : jM} : jd 313 3 [some (.ref x0), some (.int (w 2))] [] M = jd 313 6 [some (.ref x0), none] [] M := jd_eq _ _ _ _ _
theorem sw_313_3 {x0 : Nat} {M : jM} : jd 313 3 [some (.ref x0), some (.int (w 3))] [] M = jd 313 7 [some (.ref x0), none] [] M := jd_eq _ _ _ _ _
theorem sw_313_4 {x0 : Nat} {M : jM} : jd 313 3 [some (.ref x0), some (.int (w 4))] [] M = jd 313 8 [some (.ref x0), none] [] M := jd_eq _ _ _ _ _
theorem sw_313_5 {x0 : Nat} {M : jM} : jd 313 3 [some (.ref x0), some (.int (w 5))] [] M = jd 313 9 [some (.ref x0), none] [] M := jd_eq _ _ _ _ _
theorem sw_313_6 {x0 : Nat} {M : jM} : jd 313 3 [some (.ref x0), some (.int (w 6))] [] M = jd 313 10 [some (.ref x0), none] [] M := jd_eq _ _ _ _ _
theorem sw_313_7 {x0 : Nat} {M : jM} : jd 313 3 [some (.ref x0), some (.int (w 7))] [] M = jd 313 11 [some (.ref x0), none] [] M := jd_eq _ _ _ _ _
theorem sw_313_8 {x0 : Nat} {M : jM} : jd 313 3 [some (.ref x0), some (.int (w 8))] [] M = jd 313 12 [some (.ref x0), none] [] M := jd_eq _ _ _ _ _
theorem sw_313_9 {x0 : Nat} {M : jM} : jd 313 3 [some (.ref x0), some (.int (w 9))] [] M = jd 313 13 [some (.ref x0), none] [] M := jd_eq _ _ _ _ _
theorem sw_313_10 {x0 : Nat} {M : jM} : jd 313 3 [some (.ref x0), some (.int (w 10))] [] M = jd 313 14 [some (.ref x0), none] [] M := jd_eq _ _ _ _ _
theorem sw_313_11 {x0 : Nat} {M : jM} : jd 313 3 [some (.ref x0), some (.int (w 11))] [] M = jd 313 15 [some (.ref x0), none] [] M := jd_eq _ _ _ _ _
theorem sw_313_12 {x0 : Nat} {M : jM} : jd 313 3 [some (.ref x0), some (.int (w 12))] [] M = jd 313 16 [some (.ref x0), none] [] M := jd_eq _ _ _ _ _
theorem sw_313_13 {x0 : Nat} {M : jM} : jd 313 3 [some (.ref x0), some (.int (w 13))] [] M = jd 313 17 [some (.ref x0), none] [] M := jd_eq _ _ _ _ _
theorem s_size (ok : qOk I L s t t' X N) (a : Int32) : qStep I L s X N 161 [.ref 100, .int a] 313 [.ref 240, .int a] := by
  have hx := st_x ok.2.2.2.1
  have hm := st_m ok.2.2.2.1
  obtain ⟨T, e1, hT, e2⟩ := ok.2.1.1
  have r0 := fl_k (xo_ft hx) (k := 0) (n := 12) (by omega) rfl
  have k13 : (13 : Int32) = w 13 := rfl
  have k14 : (14 : Int32) = w 14 := rfl
  have z6 : mZ I 240 240 6 = I 240 6 := by rw [mZ, q_up_eq, q_set_ne (by decide)]
  have z19 : mZ I 240 240 19 = I 240 19 := by rw [mZ, q_up_eq, q_set_ne (by decide)]
  have z20 : mZ I 240 240 20 = I 240 20 := by rw [mZ, q_up_eq, q_set_ne (by decide)]
  rcases small_or a (n := 15) (by omega) with ⟨k, hk, rfl⟩ | c
  · by_cases c14 : k = 14
    · subst c14
      refine step_Z (v := .int (w T)) ok ?_ ?_
      · rw [D_161, sw_161_14, E_161_3]
        simp only [↓reduceIte, q_i, q_l, q_k, q_r, q_z, q_si, q_sl, jx_lt, jx_ri, jx_rl, jx_rv, if_true, if_false, Nat.reduceLeDiff, Nat.add_one_ne_zero, and_self, true_or, or_true, Nat.reduceEqDiff, or_self, or_false, false_or, xo_k hx, e1]
      · rw [D_313, E_313_0]
        simp only [↓reduceIte, q_i, q_l, q_k, q_r, q_z, q_si, q_sl, jx_lt, jx_ri, jx_rl, jx_rv, if_true, if_false, Nat.reduceLeDiff, Nat.add_one_ne_zero, and_self, true_or, or_true, Nat.reduceEqDiff, or_self, or_false, false_or, mo_k hm, q_mZ, k14, z6, e2]
    · have hk14 : ¬ w k = w 14 := by rw [w_eq (by omega) (by omega)]; exact c14
      have m1 : jD 313 [.ref 240, .int (w k)] (I, L, s) = if qr s 240 3 = 0 then some (some (.int 0), mZ I 240, L, s) else jd 313 3 [some (.ref 240), some (.int (w k))] [] (mZ I 240, L, s) := by
        rw [D_313, E_313_0]
        by_cases c : qr s 240 3 = 0
        · rw [if_pos c]
          simp only [↓reduceIte, q_i, q_l, q_k, q_r, q_z, q_si, q_sl, jx_lt, jx_ri, jx_rl, jx_rv, if_true, if_false, Nat.reduceLeDiff, Nat.add_one_ne_zero, and_self, true_or, or_true, Nat.reduceEqDiff, or_self, or_false, false_or, mo_k hm, q_mZ, k14, hk14, E_313_1, in_eq, k13, w_nn (a := k) (by omega), show ¬ w 13 < w k by rw [w_lt (by omega) (by omega)]; omega, show ¬ (1 : Int32) = 0 by decide, E_313_2, c]
        · rw [if_neg c]
          simp only [↓reduceIte, q_i, q_l, q_k, q_r, q_z, q_si, q_sl, jx_lt, jx_ri, jx_rl, jx_rv, if_true, if_false, Nat.reduceLeDiff, Nat.add_one_ne_zero, and_self, true_or, or_true, Nat.reduceEqDiff, or_self, or_false, false_or, mo_k hm, q_mZ, k14, hk14, E_313_1, in_eq, k13, w_nn (a := k) (by omega), show ¬ w 13 < w k by rw [w_lt (by omega) (by omega)]; omega, show ¬ (1 : Int32) = 0 by decide, E_313_2, c]
      rcases ok.2.2.2.1 with h0 | ⟨f, U, S, dn, R, O, W, hv, hfn⟩
      · obtain ⟨-, -, h3, h4, h5, h6⟩ := h0
        refine step_Z (v := .int 0) ok ?_ (by rw [m1, if_pos h3])
        by_cases c12 : k = 12
        · subst c12
          rw [D_161, sw_161_12, E_161_1]
          simp only [↓reduceIte, q_i, q_l, q_k, q_r, q_z, q_si, q_sl, jx_lt, jx_ri, jx_rl, jx_rv, if_true, if_false, Nat.reduceLeDiff, Nat.add_one_ne_zero, and_self, true_or, or_true, Nat.reduceEqDiff, or_self, or_false, false_or, xo_k hx, xo_r0 hx, xo_r1 hx, xo_r2 hx, xo_r3 hx, xo_r4 hx, xo_r5 hx, xo_r6 hx, xo_r7 hx, xo_r8 hx, xo_r9 hx, xo_r10 hx, xo_r11 hx, xo_ka hx, xo_ra0 hx, xo_ra1 hx, xo_ko hx, xo_ro0 hx, xo_ro1 hx, xo_kf hx, xo_rf0 hx, xo_kh hx, xo_rh0 hx, xo_ke hx, xo_re0 hx, xo_re1 hx, xo_kn hx, xo_zn hx, xo_re2 hx, xo_re3 hx, xo_kt hx, xo_rt0 hx, xo_t0 hx, (xo_ft hx).1, (xo_now hx).1, (xo_now hx).2.1, (xo_now hx).2.2.1, (xo_try hx).1, (xo_yr hx).1.1, (xo_ty hx).1, h5]
        · by_cases c13 : k = 13
          · subst c13
            rw [D_161, sw_161_13, E_161_2]
            simp only [↓reduceIte, q_i, q_l, q_k, q_r, q_z, q_si, q_sl, jx_lt, jx_ri, jx_rl, jx_rv, if_true, if_false, Nat.reduceLeDiff, Nat.add_one_ne_zero, and_self, true_or, or_true, Nat.reduceEqDiff, or_self, or_false, false_or, xo_k hx, xo_r0 hx, xo_r1 hx, xo_r2 hx, xo_r3 hx, xo_r4 hx, xo_r5 hx, xo_r6 hx, xo_r7 hx, xo_r8 hx, xo_r9 hx, xo_r10 hx, xo_r11 hx, xo_ka hx, xo_ra0 hx, xo_ra1 hx, xo_ko hx, xo_ro0 hx, xo_ro1 hx, xo_kf hx, xo_rf0 hx, xo_kh hx, xo_rh0 hx, xo_ke hx, xo_re0 hx, xo_re1 hx, xo_kn hx, xo_zn hx, xo_re2 hx, xo_re3 hx, xo_kt hx, xo_rt0 hx, xo_t0 hx, (xo_ft hx).1, (xo_now hx).1, (xo_now hx).2.1, (xo_now hx).2.2.1, (xo_try hx).1, (xo_yr hx).1.1, (xo_ty hx).1, h6]
          · have h9 : I (t + 1 + 2 * 0 + 1) k = 0 := h4 k (by omega)
            rw [D_161, sw_161_d (Or.inl (by rw [w_int (by omega)]; omega)), E_161_4, if_neg (w_nn (by omega)), if_pos (by rw [show (11 : Int32) = w 11 from rfl, w_le (by omega) (by omega)]; omega), E_161_6]
            simp only [↓reduceIte, q_i, q_l, q_k, q_r, q_z, q_si, q_sl, jx_lt, jx_ri, jx_rl, jx_rv, if_true, if_false, Nat.reduceLeDiff, Nat.add_one_ne_zero, and_self, true_or, or_true, Nat.reduceEqDiff, or_self, or_false, false_or, xo_k hx, xo_r0 hx, xo_r1 hx, xo_r2 hx, xo_r3 hx, xo_r4 hx, xo_r5 hx, xo_r6 hx, xo_r7 hx, xo_r8 hx, xo_r9 hx, xo_r10 hx, xo_r11 hx, xo_ka hx, xo_ra0 hx, xo_ra1 hx, xo_ko hx, xo_ro0 hx, xo_ro1 hx, xo_kf hx, xo_rf0 hx, xo_kh hx, xo_rh0 hx, xo_ke hx, xo_re0 hx, xo_re1 hx, xo_kn hx, xo_zn hx, xo_re2 hx, xo_re3 hx, xo_kt hx, xo_rt0 hx, xo_t0 hx, (xo_ft hx).1, (xo_now hx).1, (xo_now hx).2.1, (xo_now hx).2.2.1, (xo_try hx).1, (xo_yr hx).1.1, (xo_ty hx).1, (xo_ft hx).1, r0.1, r0.2.1, look_eq r0.2, q_at_w (n := 12) (k := k) (by omega) (by omega), h9, E_161_7]
      · obtain ⟨hx', hmF, hf9, hT'⟩ := hv.1
        obtain ⟨o, n, mk, g1, g2, g3, g4, g5, g6, g7, g8, -⟩ := hv.2.2.2.2.2
        have hne : ¬ qr s 240 3 = 0 := by rw [hmF.2.2.1]; exact hmF.2.2.2
        rw [if_neg hne] at m1
        have hZf : ∀ a, a ≠ 240 → mZ I 240 a = I a := fun a ha => q_up_ne ha
        by_cases c12 : k = 12
        · subst c12
          refine step_Z (v := .int (w n)) ok ?_ ?_
          · rw [D_161, sw_161_12, E_161_1]
            simp only [↓reduceIte, q_i, q_l, q_k, q_r, q_z, q_si, q_sl, jx_lt, jx_ri, jx_rl, jx_rv, if_true, if_false, Nat.reduceLeDiff, Nat.add_one_ne_zero, and_self, true_or, or_true, Nat.reduceEqDiff, or_self, or_false, false_or, xo_k hx, xo_r0 hx, xo_r1 hx, xo_r2 hx, xo_r3 hx, xo_r4 hx, xo_r5 hx, xo_r6 hx, xo_r7 hx, xo_r8 hx, xo_r9 hx, xo_r10 hx, xo_r11 hx, xo_ka hx, xo_ra0 hx, xo_ra1 hx, xo_ko hx, xo_ro0 hx, xo_ro1 hx, xo_kf hx, xo_rf0 hx, xo_kh hx, xo_rh0 hx, xo_ke hx, xo_re0 hx, xo_re1 hx, xo_kn hx, xo_zn hx, xo_re2 hx, xo_re3 hx, xo_kt hx, xo_rt0 hx, xo_t0 hx, (xo_ft hx).1, (xo_now hx).1, (xo_now hx).2.1, (xo_now hx).2.2.1, (xo_try hx).1, (xo_yr hx).1.1, (xo_ty hx).1, g3]
          · rw [m1, sw_313_12, E_313_16]
            simp only [↓reduceIte, q_i, q_l, q_k, q_r, q_z, q_si, q_sl, jx_lt, jx_ri, jx_rl, jx_rv, if_true, if_false, Nat.reduceLeDiff, Nat.add_one_ne_zero, and_self, true_or, or_true, Nat.reduceEqDiff, or_self, or_false, false_or, mo_k hm, z19, g7]
        · by_cases c13 : k = 13
          · subst c13
            refine step_Z (v := .int (w mk)) ok ?_ ?_
            · rw [D_161, sw_161_13, E_161_2]
              simp only [↓reduceIte, q_i, q_l, q_k, q_r, q_z, q_si, q_sl, jx_lt, jx_ri, jx_rl, jx_rv, if_true, if_false, Nat.reduceLeDiff, Nat.add_one_ne_zero, and_self, true_or, or_true, Nat.reduceEqDiff, or_self, or_false, false_or, xo_k hx, xo_r0 hx, xo_r1 hx, xo_r2 hx, xo_r3 hx, xo_r4 hx, xo_r5 hx, xo_r6 hx, xo_r7 hx, xo_r8 hx, xo_r9 hx, xo_r10 hx, xo_r11 hx, xo_ka hx, xo_ra0 hx, xo_ra1 hx, xo_ko hx, xo_ro0 hx, xo_ro1 hx, xo_kf hx, xo_rf0 hx, xo_kh hx, xo_rh0 hx, xo_ke hx, xo_re0 hx, xo_re1 hx, xo_kn hx, xo_zn hx, xo_re2 hx, xo_re3 hx, xo_kt hx, xo_rt0 hx, xo_t0 hx, (xo_ft hx).1, (xo_now hx).1, (xo_now hx).2.1, (xo_now hx).2.2.1, (xo_try hx).1, (xo_yr hx).1.1, (xo_ty hx).1, g5]
            · rw [m1, sw_313_13, E_313_17]
              simp only [↓reduceIte, q_i, q_l, q_k, q_r, q_z, q_si, q_sl, jx_lt, jx_ri, jx_rl, jx_rv, if_true, if_false, Nat.reduceLeDiff, Nat.add_one_ne_zero, and_self, true_or, or_true, Nat.reduceEqDiff, or_self, or_false, false_or, mo_k hm, z20, g8]
          · refine step_Z (v := .int (qd I t 0 k)) ok ?_ ?_
            · have h9 : I (t + 1 + 2 * 0 + 1) k = qd I t 0 k := rfl
              rw [D_161, sw_161_d (Or.inl (by rw [w_int (by omega)]; omega)), E_161_4, if_neg (w_nn (by omega)), if_pos (by rw [show (11 : Int32) = w 11 from rfl, w_le (by omega) (by omega)]; omega), E_161_6]
              simp only [↓reduceIte, q_i, q_l, q_k, q_r, q_z, q_si, q_sl, jx_lt, jx_ri, jx_rl, jx_rv, if_true, if_false, Nat.reduceLeDiff, Nat.add_one_ne_zero, and_self, true_or, or_true, Nat.reduceEqDiff, or_self, or_false, false_or, xo_k hx, xo_r0 hx, xo_r1 hx, xo_r2 hx, xo_r3 hx, xo_r4 hx, xo_r5 hx, xo_r6 hx, xo_r7 hx, xo_r8 hx, xo_r9 hx, xo_r10 hx, xo_r11 hx, xo_ka hx, xo_ra0 hx, xo_ra1 hx, xo_ko hx, xo_ro0 hx, xo_ro1 hx, xo_kf hx, xo_rf0 hx, xo_kh hx, xo_rh0 hx, xo_ke hx, xo_re0 hx, xo_re1 hx, xo_kn hx, xo_zn hx, xo_re2 hx, xo_re3 hx, xo_kt hx, xo_rt0 hx, xo_t0 hx, (xo_ft hx).1, (xo_now hx).1, (xo_now hx).2.1, (xo_now hx).2.2.1, (xo_try hx).1, (xo_yr hx).1.1, (xo_ty hx).1, (xo_ft hx).1, r0.1, r0.2.1, look_eq r0.2, q_at_w (n := 12) (k := k) (by omega) (by omega), h9, E_161_7]
            · rw [m1]
              have hE := hT'.1.2.2.1
              have hlo : ∀ j, j < 10 → mZ I 240 f j = qd I t 0 j := fun j hj => by
                rw [hZf f (by omega)]; exact hE.1 j hj
              have h11 : mZ I 240 f 11 = qd I t 0 10 := by rw [hZf f (by omega)]; exact hE.2.1
              have h12 : mZ I 240 f 12 = qd I t 0 11 := by rw [hZf f (by omega)]; exact hE.2.2.1
              have hm' : qMF s 240 f := hmF
              have hkk : k = 0 ∨ k = 1 ∨ k = 2 ∨ k = 3 ∨ k = 4 ∨ k = 5 ∨ k = 6 ∨ k = 7 ∨ k = 8 ∨ k = 9 ∨ k = 10 ∨ k = 11 := by omega
              rcases hkk with rfl | rfl | rfl | rfl | rfl | rfl | rfl | rfl | rfl | rfl | rfl | rfl
              · rw [sw_313_0, E_313_4]
                simp only [↓reduceIte, q_i, q_l, q_k, q_r, q_z, q_si, q_sl, jx_lt, jx_ri, jx_rl, jx_rv, if_true, if_false, Nat.reduceLeDiff, Nat.add_one_ne_zero, and_self, true_or, or_true, Nat.reduceEqDiff, or_self, or_false, false_or, mo_k hm, hm'.2.2.1, hm'.2.2.2, mf_k hm'.2.1, hlo 0 (by omega)]
              · rw [sw_313_1, E_313_5]
                simp only [↓reduceIte, q_i, q_l, q_k, q_r, q_z, q_si, q_sl, jx_lt, jx_ri, jx_rl, jx_rv, if_true, if_false, Nat.reduceLeDiff, Nat.add_one_ne_zero, and_self, true_or, or_true, Nat.reduceEqDiff, or_self, or_false, false_or, mo_k hm, hm'.2.2.1, hm'.2.2.2, mf_k hm'.2.1, hlo 1 (by omega)]
              · rw [sw_313_2, E_313_6]
                simp only [↓reduceIte, q_i, q_l, q_k, q_r, q_z, q_si, q_sl, jx_lt, jx_ri, jx_rl, jx_rv, if_true, if_false, Nat.reduceLeDiff, Nat.add_one_ne_zero, and_self, true_or, or_true, Nat.reduceEqDiff, or_self, or_false, false_or, mo_k hm, hm'.2.2.1, hm'.2.2.2, mf_k hm'.2.1, hlo 2 (by omega)]
              · rw [sw_313_3, E_313_7]
                simp only [↓reduceIte, q_i, q_l, q_k, q_r, q_z, q_si, q_sl, jx_lt, jx_ri, jx_rl, jx_rv, if_true, if_false, Nat.reduceLeDiff, Nat.add_one_ne_zero, and_self, true_or, or_true, Nat.reduceEqDiff, or_self, or_false, false_or, mo_k hm, hm'.2.2.1, hm'.2.2.2, mf_k hm'.2.1, hlo 3 (by omega)]
              · rw [sw_313_4, E_313_8]
                simp only [↓reduceIte, q_i, q_l, q_k, q_r, q_z, q_si, q_sl, jx_lt, jx_ri, jx_rl, jx_rv, if_true, if_false, Nat.reduceLeDiff, Nat.add_one_ne_zero, and_self, true_or, or_true, Nat.reduceEqDiff, or_self, or_false, false_or, mo_k hm, hm'.2.2.1, hm'.2.2.2, mf_k hm'.2.1, hlo 4 (by omega)]
              · rw [sw_313_5, E_313_9]
                simp only [↓reduceIte, q_i, q_l, q_k, q_r, q_z, q_si, q_sl, jx_lt, jx_ri, jx_rl, jx_rv, if_true, if_false, Nat.reduceLeDiff, Nat.add_one_ne_zero, and_self, true_or, or_true, Nat.reduceEqDiff, or_self, or_false, false_or, mo_k hm, hm'.2.2.1, hm'.2.2.2, mf_k hm'.2.1, hlo 5 (by omega)]
              · rw [sw_313_6, E_313_10]
                simp only [↓reduceIte, q_i, q_l, q_k, q_r, q_z, q_si, q_sl, jx_lt, jx_ri, jx_rl, jx_rv, if_true, if_false, Nat.reduceLeDiff, Nat.add_one_ne_zero, and_self, true_or, or_true, Nat.reduceEqDiff, or_self, or_false, false_or, mo_k hm, hm'.2.2.1, hm'.2.2.2, mf_k hm'.2.1, hlo 6 (by omega)]
              · rw [sw_313_7, E_313_11]
                simp only [↓reduceIte, q_i, q_l, q_k, q_r, q_z, q_si, q_sl, jx_lt, jx_ri, jx_rl, jx_rv, if_true, if_false, Nat.reduceLeDiff, Nat.add_one_ne_zero, and_self, true_or, or_true, Nat.reduceEqDiff, or_self, or_false, false_or, mo_k hm, hm'.2.2.1, hm'.2.2.2, mf_k hm'.2.1, hlo 7 (by omega)]
              · rw [sw_313_8, E_313_12]
                simp only [↓reduceIte, q_i, q_l, q_k, q_r, q_z, q_si, q_sl, jx_lt, jx_ri, jx_rl, jx_rv, if_true, if_false, Nat.reduceLeDiff, Nat.add_one_ne_zero, and_self, true_or, or_true, Nat.reduceEqDiff, or_self, or_false, false_or, mo_k hm, hm'.2.2.1, hm'.2.2.2, mf_k hm'.2.1, hlo 8 (by omega)]
              · rw [sw_313_9, E_313_13]
                simp only [↓reduceIte, q_i, q_l, q_k, q_r, q_z, q_si, q_sl, jx_lt, jx_ri, jx_rl, jx_rv, if_true, if_false, Nat.reduceLeDiff, Nat.add_one_ne_zero, and_self, true_or, or_true, Nat.reduceEqDiff, or_self, or_false, false_or, mo_k hm, hm'.2.2.1, hm'.2.2.2, mf_k hm'.2.1, hlo 9 (by omega)]
              · rw [sw_313_10, E_313_14]
                simp only [↓reduceIte, q_i, q_l, q_k, q_r, q_z, q_si, q_sl, jx_lt, jx_ri, jx_rl, jx_rv, if_true, if_false, Nat.reduceLeDiff, Nat.add_one_ne_zero, and_self, true_or, or_true, Nat.reduceEqDiff, or_self, or_false, false_or, mo_k hm, hm'.2.2.1, hm'.2.2.2, mf_k hm'.2.1, h11]
              · rw [sw_313_11, E_313_15]
                simp only [↓reduceIte, q_i, q_l, q_k, q_r, q_z, q_si, q_sl, jx_lt, jx_ri, jx_rl, jx_rv, if_true, if_false, Nat.reduceLeDiff, Nat.add_one_ne_zero, and_self, true_or, or_true, Nat.reduceEqDiff, or_self, or_false, false_or, mo_k hm, hm'.2.2.1, hm'.2.2.2, mf_k hm'.2.1, h12]
  · have ci : a.toInt < 0 ∨ 15 ≤ a.toInt := by
      rcases c with z | z
      · left
        have := Int32.lt_iff_toInt_lt.mp z
        simpa using this
      · right
        have := Int32.le_iff_toInt_le.mp z
        rw [w_int (by omega)] at this
        omega
    have hne : ¬ a = w 14 := by
      intro e
      rw [e, w_int (by omega)] at ci
      omega
    refine step_Z (v := .int (-1)) ok ?_ ?_
    · rw [D_161, sw_161_d (by omega), E_161_4]
      by_cases c0 : a < 0
      · rw [if_pos c0, E_161_5, E_161_7]
      · have c1 : ¬ a ≤ (11 : Int32) := fun z => absurd (Int32.le_trans (c.resolve_left c0) z) (by decide)
        rw [if_neg c0, if_neg c1, E_161_5, E_161_7]
    · rw [D_313, E_313_0]
      simp only [↓reduceIte, q_i, q_l, q_k, q_r, q_z, q_si, q_sl, jx_lt, jx_ri, jx_rl, jx_rv, if_true, if_false, Nat.reduceLeDiff, Nat.add_one_ne_zero, and_self, true_or, or_true, Nat.reduceEqDiff, or_self, or_false, false_or, mo_k hm, q_mZ, k14, hne, E_313_1, in_eq, k13]
      by_cases c0 : a < 0
      · simp only [c0, ↓reduceIte, q_i, q_l, q_k, q_r, q_z, q_si, q_sl, jx_lt, jx_ri, jx_rl, jx_rv, if_true, if_false, Nat.reduceLeDiff, Nat.add_one_ne_zero, and_self, true_or, or_true, Nat.reduceEqDiff, or_self, or_false, false_or]
      · have c1 : w 13 < a := Int32.lt_of_lt_of_le (by decide) (c.resolve_left c0)
        simp only [c0, c1, ↓reduceIte, q_i, q_l, q_k, q_r, q_z, q_si, q_sl, jx_lt, jx_ri, jx_rl, jx_rv, if_true, if_false, Nat.reduceLeDiff, Nat.add_one_ne_zero, and_self, true_or, or_true, Nat.reduceEqDiff, or_self, or_false, false_or]
end ST
