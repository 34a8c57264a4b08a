/-! FLIGHT, both sides: a fault -/
section SFf
variable {I I' : qI} {L L' : qL} {s : qS} {t t' n T : Nat} {X : Nat → Int32} {N : Nat} {v : Int32}
/-- what the class has once it has read -/
def q_cRd (I' : qI) : qI := q_up I' 100 (q_set (q_set (I' 100) 14 (I' 181 6)) 15 (I' 181 7))
theorem xo_A (hx : qXo s t t') {v : Nat} : qXo (q_ptr s 181 5 v) t t' := by
  refine xo_re (u := t) (u' := t') hx (fun _ => rfl) (fun _ => rfl) (fun a k a1 a2 a3 a4 => ptr_r_ne (by omega)) ?_ ?_ (Or.inl ⟨rfl, rfl⟩) (fun k hk => ptr_r_ne (by omega)) ?_ ?_
  · rw [ptr_r_ne (by omega)]; exact xo_r0 hx
  · rw [ptr_r_ne (by omega)]; exact xo_r1 hx
  · rw [ptr_r_ne (by omega)]; exact (xo_yr hx).2.1
  · rw [ptr_r_ne (by omega)]; exact (xo_yr hx).2.2
theorem c115_x (hx : qXo s t t') (h12 : I 100 12 = w T) (hn : n ≤ T) (hT : T ≤ 1100) (hX : jD 50 [.ref 181, .int (w n), .ref t'] (q_up I 100 (q_set (I 100) 12 0), L, s) = some (some (.int v), I', L', q_ptr s 181 5 t')) : jD 115 [.ref 100, .int (w n)] (I, L, s) = if v = 0 then some (some (.int (-1)), cT (q_cRd I') 4, L', q_ptr s 181 5 t') else jd 115 3 [some (.ref 100), none, none, none] [] (q_cRd I', L', q_ptr s 181 5 t') := by
  have htt := xo_tt hx
  have hxA := xo_A hx (v := t')
  have t0' : ¬ t' = 0 := by omega
  have hle : w n ≤ w T := w_le' hn (by omega)
  have kA : qk (q_ptr s 181 5 t') = qk s := rfl
  have rA : qr (q_ptr s 181 5 t') 100 3 = 181 := (ptr_r_ne (by omega)).trans (xo_r3 hx)
  have o1 : ∀ g, q_up I' 100 g 181 = I' 181 := fun g => q_up_ne (by decide)
  rw [D_115, E_115_0, if_neg (w_nn (show n < 2147483648 by omega))]
  simp only [↓reduceIte, q_i, q_l, q_k, q_r, q_z, q_si, q_sl, jx_lt, jx_ri, jx_rl, jx_rv, if_true, if_false, Nat.reduceLeDiff, Nat.add_one_ne_zero, and_self, true_or, or_true, Nat.reduceEqDiff, or_self, or_false, false_or, xo_k hx, h12, hle]
  rw [E_115_2]
  simp only [↓reduceIte, q_i, q_l, q_k, q_r, q_z, q_si, q_sl, jx_lt, jx_ri, jx_rl, jx_rv, if_true, if_false, Nat.reduceLeDiff, Nat.add_one_ne_zero, and_self, true_or, or_true, Nat.reduceEqDiff, or_self, or_false, false_or, xo_k hx, xo_r3 hx, xo_r1 hx, xo_ke hx, t0', hX, kA, rA, q_up_eq, q_up_up, o1, refused_eq hxA]
  rfl
/-- two readings of one memory: the same -/
theorem x_inj {a b : Int32} {I1 I2 : qI} {L1 L2 : qL} {s1 s2 : qS} (h : (some (some (.int a), I1, L1, s1) : Option (Option Value × jM)) = some (some (.int b), I2, L2, s2)) : a = b ∧ I1 = I2 ∧ L1 = L2 := by
  have h2 := Option.some.inj h
  exact ⟨Value.int.inj (Option.some.inj (congrArg (fun (y : Option Value × jM) => y.1) h2)), congrArg (fun (y : Option Value × jM) => y.2.1) h2, congrArg (fun (y : Option Value × jM) => y.2.2.1) h2⟩
/-- frames of a read -/
def qRf (I I' : qI) (t' : Nat) : Prop := ∀ a, ¬ qCw t' a → I' a = I a
theorem flight_f (ok : qOk I L s t t' X N) (h12 : I 100 12 = w T) (h6 : I 240 6 = w T) (hn : n ≤ T) (hT : T ≤ 1100) (hX : jD 50 [.ref 181, .int (w n), .ref t'] (q_up I 100 (q_set (I 100) 12 0), L, s) = some (some (.int 0), I', L', q_ptr s 181 5 t')) (hfr : qRf (q_up I 100 (q_set (I 100) 12 0)) I' t') : qStep I L s X N 115 [.ref 100, .int (w n)] 232 [.ref 240, .int (w n)] := by
  have hx := st_x ok.2.2.2.1
  have hm := st_m ok.2.2.2.1
  have htt := xo_tt hx
  obtain ⟨sx1, sx2, sx3, sx4, sx5, sx6, hq⟩ := ok.2.2.2.2
  obtain ⟨f, hf⟩ : ∃ f, f = qn s := ⟨_, rfl⟩
  rw [← hf] at hq
  obtain ⟨b, tb1, tb2⟩ := tp_b ok.2.1
  have e115 := (c115_x hx h12 hn hT hX).trans (if_pos rfl)
  have ncw : ∀ a, a ≠ 181 → a ≠ 184 → a ≠ 186 → a ≠ 187 → ¬ (t' ≤ a ∧ a < t' + 39) → ¬ qCw t' a := fun a x1 x2 x3 x4 x5 z => by
    unfold qCw at z
    omega
  have ha0 : ∀ a, a ≠ 100 → ¬ qCw t' a → I' a = I a := fun a x y => (hfr a y).trans (q_up_ne x)
  have hc0 : ∀ a, a ≠ 100 → ¬ qCw t' a → cT (q_cRd I') 4 a = I a := fun a x y => by
    unfold cT q_cRd
    rw [q_up_ne x, q_up_ne x]; exact ha0 a x y
  have hc240 : cT (q_cRd I') 4 240 = I 240 := hc0 240 (by decide) (ncw _ (by decide) (by decide) (by decide) (by decide) (by omega))
  have hmA : qMo (q_ptr s 181 5 t') 240 := mo_kw (by omega) kw_181 hm
  have tbA : qTxm (cT (q_cRd I') 4) b := fun k hk => by
    rw [hc0 (240 + 1) (by decide) (ncw _ (by decide) (by decide) (by decide) (by decide) (by omega))]; exact tb2 k hk
  have tbI : qTxt (q_up I 100 (q_set (I 100) 12 0)) b := fun k hk => by
    rw [q_up_ne (by decide)]; exact tb1 k hk
  have hNm : qNm (q_up I 100 (q_set (I 100) 12 0)) L := fun k hk => by
    rw [q_up_ne (by decide), q_up_ne (by decide)]; exact ok.1 k hk
  obtain ⟨J4, K4, h202, hR⟩ := go_read (I := q_up I 100 (q_set (I 100) 12 0)) (J := cT (q_cRd I') 4) (L := L) (K := L') (s1 := q_ptr s 181 5 t') (f := f) hx hNm (show n ≤ 1100 by omega) tbI hmA hf.symm hq tbA sx4 sx4
  rcases hR with ⟨C, I2, L2, J', K', r1, -⟩ | ⟨I2, L2, J', K', r1, r2, fa⟩
  · exact absurd (x_inj (hX.symm.trans r1)).1 (by decide)
  · obtain ⟨-, rfl, rfl⟩ := x_inj (hX.symm.trans r1)
    obtain ⟨⟨a1, a2, a3, a4, a5, a6, a7⟩, r, av, hr0, hr9, q1, q2, q3, q4, q5⟩ := fa
    have hc6 : cT (q_cRd I') 4 240 6 = w T := by rw [hc240]; exact h6
    have e232 := m232_y (J := cT (q_cRd I') 4) (K := L') hmA hf.symm hq hc6 hn hT h202 r2
    have hpos : ¬ J' 240 13 ≤ 0 := by
      rw [q4, show (0 : Int32) = w 0 from rfl, w_le (by omega) (by omega)]; omega
    rw [if_neg hpos] at e232
    obtain ⟨If, hIf⟩ : ∃ A, A = q_up J' 240 (q_set (q_set (J' 240) 1 4) 2 (J' 240 14)) := ⟨_, rfl⟩
    rw [← hIf] at e232
    have j0 : ∀ a, a ≠ 240 → a < f → If a = cT (q_cRd I') 4 a := fun a x y => by
      rw [hIf, q_up_ne x, (a3 a (by unfold qMw; omega)).1, jb_o hq x (by omega)]
    have jI : ∀ a, a ≠ 240 → a ≠ 100 → a < f → ¬ qCw t' a → If a = I a := fun a x y z u => by rw [j0 a x z, hc0 a y u]
    have jk : ∀ a, a ≠ 240 → a < f → K' a = L' a := fun a x y => by
      rw [(a3 a (by unfold qMw; omega)).2, zL_o (by omega)]
    have b240 : ∀ k, k < 8 ∨ 14 < k → J' 240 k = q_set (q_set (q_set (q_set (q_set (q_set (cT (q_cRd I') 4 240) 0 0) 7 (w n)) 6 0) 8 0) 13 0) 9 0 k := fun k hk => by
      rw [a4 k hk, jb_240]
    have c100 : If 100 = cT (q_cRd I') 4 100 := j0 100 (by decide) (by omega)
    have d100 : ∀ k, cT (q_cRd I') 4 100 k = if k = 13 then 4 else if k = 15 then w av else if k = 14 then w r else if k = 12 then 0 else I 100 k := fun k => by
      unfold cT q_cRd
      rw [q_up_eq, q_up_eq, q1, q2, hfr 100 (ncw _ (by decide) (by decide) (by decide) (by decide) (by omega)), q_up_eq]
      rfl
    have kw : qKw s (q_nF (q_ptr s 181 5 t') f) := kw_trans kw_181 (nF_kw hf.symm)
    refine ⟨.int (-1), _, _, _, If, K', q_nF (q_ptr s 181 5 t') f, t, t', e115, e232, ?_, sx2, sx3, mo_k hm, ⟨fun k hk => ?_, ⟨⟨0, ?_, Nat.zero_le _, ?_⟩, fun k hk => ?_⟩, ⟨?_, ?_, ?_⟩, ?_, ?_⟩, ?_, ?_⟩
    · rw [hc0 1 (by decide) (ncw _ (by decide) (by decide) (by decide) (by decide) (by omega))]; exact sx1
    · rw [jk 182 (by decide) (by omega), j0 (183 + 1) (by decide) (by omega), j0 (185 + 1) (by decide) (by omega)]
      have x1 : cT (q_cRd I') 4 (183 + 1) = I' (183 + 1) := by
        unfold cT q_cRd
        rw [q_up_ne (by decide), q_up_ne (by decide)]
      have x2 : cT (q_cRd I') 4 (185 + 1) = I' (185 + 1) := by
        unfold cT q_cRd
        rw [q_up_ne (by decide), q_up_ne (by decide)]
      rw [x1, x2]
      exact a6 k hk
    · rw [c100, d100]; rfl
    · rw [hIf, q_up_eq, q_set_ne (by decide), q_set_ne (by decide), b240 6 (by omega), q_set_ne (by decide), q_set_ne (by decide), q_set_ne (by decide), q_set_eq]; rfl
    · obtain ⟨y, y1, y2, y3⟩ := ok.2.1.2 k hk
      rw [jI (179 + 1) (by decide) (by decide) (by omega) (ncw _ (by decide) (by decide) (by decide) (by decide) (by omega)), jI (240 + 1) (by decide) (by decide) (by omega) (ncw _ (by decide) (by decide) (by decide) (by decide) (by omega))]
      exact ⟨y, y1, y2, y3⟩
    · rw [c100, d100, hIf, q_up_eq, q_set_ne (by decide), q_set_ne (by decide), q4]; rfl
    · rw [c100, d100, hIf, q_up_eq, q_set_ne (by decide), q_set_eq]; rfl
    · rw [c100, d100, d100, hIf, q_up_eq, q_set_eq, q5]; rfl
    · refine st_W (by omega) ok.2.2.2.1 ⟨fun a x1 x2 x3 x4 x5 => ?_, ?_, ?_⟩ kw
      · unfold qSc at x1
        exact jI a (by omega) (by omega) (by omega) (ncw a (by omega) (by omega) (by omega) (by omega) x4)
      · rw [hIf, q_up_eq, q_set_ne (by decide), q_set_ne (by decide), b240 19 (by omega), q_set_ne (by decide), q_set_ne (by decide), q_set_ne (by decide), q_set_ne (by decide), q_set_ne (by decide), q_set_ne (by decide), hc240]
      · rw [hIf, q_up_eq, q_set_ne (by decide), q_set_ne (by decide), b240 20 (by omega), q_set_ne (by decide), q_set_ne (by decide), q_set_ne (by decide), q_set_ne (by decide), q_set_ne (by decide), q_set_ne (by decide), hc240]
    · exact sx_kw ok.2.2.2.2 (jI 1 (by decide) (by decide) (by omega) (ncw _ (by decide) (by decide) (by decide) (by decide) (by omega))) kw
    · rw [nF_n]; omega
    · rw [nF_w]
      show qw s + 377 ≤ qw s + 1000
      omega
end SFf
