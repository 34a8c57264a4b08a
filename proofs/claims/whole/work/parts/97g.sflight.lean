/-! FLIGHT, both sides -/
theorem rdr_of {s : qS} {t t' : Nat} (hx : qXo s t t') : qRdr (q_ptr s 181 5 t') t' := by
  have htt := xo_tt hx
  refine ⟨(congrFun ptr_k _).trans (xo_ke hx), ?_, ?_, ?_, ?_, ptr_r_eq, (congrFun ptr_k _).trans (xo_kn hx), (congrFun ptr_z _).trans (xo_zn hx), ptr_row (by decide) (xo_nsort hx), ptr_row (by decide) (xo_nnum hx), (congrFun ptr_k _).trans (xo_kt hx), ?_, ptr_row (by decide) (xo_row179 hx), ptr_fl (by decide) (by rw [xo_ke hx]; decide) (xo_ft' hx), by omega⟩
  · rw [ptr_r_ne (by omega)]; exact xo_re0 hx
  · rw [ptr_r_ne (by omega)]; exact xo_re1 hx
  · rw [ptr_r_ne (by omega)]; exact xo_re2 hx
  · rw [ptr_r_ne (by omega)]; exact xo_re3 hx
  · rw [ptr_r_ne (by omega)]; exact xo_rt0 hx
theorem tp_b {I : qI} (h : qTp I) : ∃ b : Nat → Nat, qTxt I b ∧ qTxm I b := by
  refine ⟨fun k => if hk : k < 1100 then (h.2 k hk).choose else 0, fun k hk => ?_, fun k hk => ?_⟩
  · have := (h.2 k hk).choose_spec
    simp only [hk, dif_pos]
    exact ⟨this.2.1, this.1⟩
  · have := (h.2 k hk).choose_spec
    simp only [hk, dif_pos]
    exact ⟨this.2.2, this.1⟩
section SFl
variable {I J : qI} {L K : qL} {s s1 : qS} {t t' f n : Nat} {X : Nat → Int32} {N : Nat} {b : Nat → Nat}
/-- the two may begin -/
theorem cx_of (hx : qXo s t t') (hn : n ≤ 1100) (h1 : qTxt I b) (hm : qMo s1 240) (hq : qn s1 = f) (hf : 260 ≤ f) (h2 : qTxm J b) (hs : ∀ a, 2 ≤ a → a < 59 → qk s a = 40) (hs1 : ∀ a, 2 ≤ a → a < 59 → qk s1 a = 40) : qCx (q_ptr s 181 5 t') (q_nF s1 f) t' f n b I (qJb J f n) := by
  refine ⟨rdr_of hx, hn, h1, mo_kw (by omega) (nF_kw hq) hm, nF_4, nF_mf (by omega), by omega, hf, fun k hk => ?_, ?_, fun a a1 a2 => ⟨hs a a1 a2, ?_⟩⟩
  · rw [jb_o hf (by decide) (by omega)]; exact h2 k hk
  · rw [jb_240, q_set_ne (by decide), q_set_ne (by decide), q_set_ne (by decide), q_set_ne (by decide), q_set_eq]
  · rw [nF_k (by omega)]; exact hs1 a a1 a2
theorem go_read (hx : qXo s t t') (hN : qNm I L) (hn : n ≤ 1100) (h1 : qTxt I b) (hm : qMo s1 240) (hq : qn s1 = f) (hf : 260 ≤ f) (h2 : qTxm J b) (hs : ∀ a, 2 ≤ a → a < 59 → qk s a = 40) (hs1 : ∀ a, 2 ≤ a → a < 59 → qk s1 a = 40) : ∃ J4 K4, jD 202 [.ref 240] (qJb J f n, q_zL K f 23, q_nF s1 f) = some (none, J4, K4, q_nF s1 f) ∧ qRead (jD 50 [.ref 181, .int (w n), .ref t'] (I, L, s)) (jD 218 [.ref 240] (J4, K4, q_nF s1 f)) (q_ptr s 181 5 t') (q_nF s1 f) t' f n I L (qJb J f n) (q_zL K f 23) := by
  refine read_all (xo_ke hx) rfl (cx_of hx hn h1 hm hq hf h2 hs hs1) hN ?_ ?_ ?_ (fun k hk => jb_f hf hk)
  · rw [jb_240, q_set_ne (by decide), q_set_ne (by decide), q_set_eq]; rfl
  · rw [jb_240, q_set_eq]
  · rw [jb_240, q_set_ne (by decide), q_set_eq]
theorem flight_no (ok : qOk I L s t t' X N) {a : Int32} (ha : a < 0 ∨ I 100 12 < a) : qStep I L s X N 115 [.ref 100, .int a] 232 [.ref 240, .int a] := by
  have hx := st_x ok.2.2.2.1
  have hm := st_m ok.2.2.2.1
  obtain ⟨T, t1, t2, t3⟩ := ok.2.1.1
  have ha' : a < 0 ∨ ¬ a ≤ I 100 12 := ha.imp id Int32.not_le.mpr
  have e1 : jD 115 [.ref 100, .int a] (I, L, s) = some (some (.int (-1)), cT I 2, L, s) := by
    have e : jd 115 1 [some (.ref 100), none, none, none] [] (I, L, s) = some (some (.int (-1)), cT I 2, L, s) := by
      rw [E_115_1]
      simp only [↓reduceIte, q_i, q_l, q_k, q_r, q_z, q_si, q_sl, jx_lt, jx_ri, jx_rl, jx_rv, if_true, if_false, Nat.reduceLeDiff, Nat.add_one_ne_zero, and_self, true_or, or_true, Nat.reduceEqDiff, or_self, or_false, false_or, xo_k hx, refused_eq hx]
    rw [D_115, E_115_0]
    by_cases c : a < 0
    · rw [if_pos c]; exact e
    · rw [if_neg c]
      simp only [↓reduceIte, q_i, q_l, q_k, q_r, q_z, q_si, q_sl, jx_lt, jx_ri, jx_rl, jx_rv, if_true, if_false, Nat.reduceLeDiff, Nat.add_one_ne_zero, and_self, true_or, or_true, Nat.reduceEqDiff, or_self, or_false, false_or, xo_k hx, ha'.resolve_left c, e]
  have x6 : mZ (cT I 2) 240 240 6 = I 100 12 := by
    rw [mZ, q_up_eq, q_set_ne (by decide), cT, q_up_ne (by decide), t3, t1]
  have e2 : jD 232 [.ref 240, .int a] (cT I 2, L, s) = some (some (.int (-1)), mG (mZ (cT I 2) 240) 240 2, L, s) := by
    have e : jd 232 1 [some (.ref 240), none, none, none] [] (mZ (cT I 2) 240, L, s) = some (some (.int (-1)), mG (mZ (cT I 2) 240) 240 2, L, s) := by
      rw [E_232_1]
      simp only [↓reduceIte, q_i, q_l, q_k, q_r, q_z, q_si, q_sl, jx_lt, jx_ri, jx_rl, jx_rv, if_true, if_false, Nat.reduceLeDiff, Nat.add_one_ne_zero, and_self, true_or, or_true, Nat.reduceEqDiff, or_self, or_false, false_or, mo_k hm, mrefused_eq hm]
    rw [D_232, E_232_0]
    simp only [↓reduceIte, q_i, q_l, q_k, q_r, q_z, q_si, q_sl, jx_lt, jx_ri, jx_rl, jx_rv, if_true, if_false, Nat.reduceLeDiff, Nat.add_one_ne_zero, and_self, true_or, or_true, Nat.reduceEqDiff, or_self, or_false, false_or, mo_k hm, q_mZ]
    by_cases c : a < 0
    · rw [if_pos c]; exact e
    · rw [if_neg c, x6, if_neg (ha'.resolve_left c)]; exact e
  have ans : qAns I L s 115 [.ref 100, .int a] 232 [.ref 240, .int a] := ans_T e1 e2 fr_mZ (by rw [mZ, q_up_ne (by decide)]) (by decide)
  rcases ok.2.2.2.1 with h0 | ⟨f, U, S, dn, R, O, W, hv, hfn⟩
  · exact step_0 ok h0 ans
  · exact step_1 ok hv hfn (ansA_0 hv ans)
end SFl
