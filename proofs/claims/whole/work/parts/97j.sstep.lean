/-! FLIGHT, both sides: the step -/
section SFs
variable {I I' : qI} {L L' : qL} {s : qS} {t t' n T f : Nat} {X : Nat → Int32} {N : Nat} {C : Nat → Nat}
theorem flight_s {J1 : qI} {K1 : qL} {Jb : qI} {Kb : qL} {f1 : Nat} (ok : qOk I L s t t' X N) (h12 : I 100 12 = w T) (h6 : I 240 6 = w T) (hn : n ≤ T) (hT : T ≤ 1100) (hX : jD 50 [.ref 181, .int (w n), .ref t'] (q_up I 100 (q_set (I 100) 12 0), L, s) = some (some (.int 1), I', L', q_ptr s 181 5 t')) (g1 : qGo (qZp t' f1 0 C) t' f1 n (q_up I 100 (q_set (I 100) 12 0)) L Jb Kb I' L' J1 K1) (h0 : C 0 ≠ 0) : qStep I L s X N 115 [.ref 100, .int (w n)] 232 [.ref 240, .int (w n)] := by
  have hx := st_x ok.2.2.2.1
  have hm := st_m ok.2.2.2.1
  have htt := xo_tt hx
  have hxD := xo_sw hx
  obtain ⟨sx1, sx2, sx3, sx4, sx5, sx6, hq⟩ := ok.2.2.2.2
  obtain ⟨f, hf⟩ : ∃ f, f = qn s := ⟨_, rfl⟩
  rw [← hf] at hq
  obtain ⟨b, tb1, tb2⟩ := tp_b ok.2.1
  have hfr := g1.1.1
  have hfy := g1.2.2.2.2.2
  have d100 : qd (q_cRd I') t' = qd I' t' := qd_same fun a h1 h2 => by
    unfold q_cRd
    rw [q_up_ne (by omega)]
  obtain ⟨hD, hw⟩ := fy_vd hfy h0
  rw [← d100] at hD hw
  have l5 : C 5 ≤ 6 := hD.2.1
  obtain ⟨Ic, c115, k1, k2, k3, k4, k5, k6, k7, k8, k9⟩ := c115_3 (L := L') hx hD hw
  rw [d100] at k2 k8
  have e115 := ((c115_x hx h12 hn hT hX).trans (if_neg (by decide))).trans c115
  have ncw : ∀ a, a ≠ 181 → a ≠ 184 → a ≠ 186 → a ≠ 187 → ¬ (t' ≤ a ∧ a < t' + 39) → ¬ qCw t' a := fun a x1 x2 x3 x4 x5 z => by
    unfold qCw at z
    omega
  -- what the class leaves as it was read
  have hcI : ∀ a, a ≠ 100 → a ≠ 188 + 1 + 1 → a ≠ 194 → a ≠ 230 + 1 → a ≠ 232 + 1 → a ≠ 234 → (a < 199 ∨ 214 ≤ a) → cT Ic 0 a = I' a := fun a x0 x1 x2 x3 x4 x5 x6 => by
    have e : cT Ic 0 a = Ic a := by
      unfold cT
      rw [q_up_ne x0]
    rw [e, k1 a x1 x2 x3 x4 x5 x6]
    unfold q_cRd
    rw [q_up_ne x0]
  have hc0 : ∀ a, a ≠ 100 → a ≠ 188 + 1 + 1 → a ≠ 194 → a ≠ 230 + 1 → a ≠ 232 + 1 → a ≠ 234 → (a < 199 ∨ 214 ≤ a) → ¬ qCw t' a → cT Ic 0 a = I a := fun a x0 x1 x2 x3 x4 x5 x6 x7 => by
    rw [hcI a x0 x1 x2 x3 x4 x5 x6]
    exact (hfr a x7).trans (q_up_ne x0)
  have hcs : ∀ a, a ≠ 100 → cT Ic 0 a = Ic a := fun a x => by
    unfold cT
    rw [q_up_ne x]
  have hc240 : cT Ic 0 240 = I 240 := hc0 240 (by decide) (by decide) (by decide) (by decide) (by decide) (by decide) (by omega) (ncw _ (by decide) (by decide) (by decide) (by decide) (by omega))
  have hc100 : ∀ k, cT Ic 0 100 k = if k = 13 then 0 else if k = 15 then I' 181 7 else if k = 14 then 0 else if k = 12 then 0 else I 100 k := fun k => by
    unfold cT
    rw [q_up_eq, k1 100 (by decide) (by decide) (by decide) (by decide) (by decide) (by omega)]
    unfold q_cRd
    rw [q_up_eq, g1.2.1.2, hfr 100 (ncw _ (by decide) (by decide) (by decide) (by decide) (by omega)), q_up_eq]
    rfl
  have hmD : qMo (q_swp s t t') 240 := mo_sw hm
  have hqD : qn (q_swp s t t') = f := hf.symm
  have tbA : qTxm (cT Ic 0) b := fun k hk => by
    rw [hc0 (240 + 1) (by decide) (by decide) (by decide) (by decide) (by decide) (by decide) (by omega) (ncw _ (by decide) (by decide) (by decide) (by decide) (by omega))]; exact tb2 k hk
  have tbI : qTxt (q_up I 100 (q_set (I 100) 12 0)) b := fun k hk => by
    rw [q_up_ne (by decide)]; exact tb1 k hk
  have hNm : qNm (q_up I 100 (q_set (I 100) 12 0)) L := fun k hk => by
    rw [q_up_ne (by decide), q_up_ne (by decide)]; exact ok.1 k hk
  obtain ⟨J4, K4, h202, hR⟩ := go_read (I := q_up I 100 (q_set (I 100) 12 0)) (J := cT Ic 0) (L := L) (K := L') (s1 := q_swp s t t') (f := f) hx hNm (show n ≤ 1100 by omega) tbI hmD hqD hq tbA sx4 sx4
  rcases hR with ⟨C2, I2, L2, J', K', r1, r2, g2, h02, -⟩ | ⟨I2, L2, J', K', r1, -⟩
  · obtain ⟨-, rfl, rfl⟩ := x_inj (hX.symm.trans r1)
    have hc6 : cT Ic 0 240 6 = w T := by rw [hc240]; exact h6
    have e232 := m232_y (J := cT Ic 0) (K := L') hmD hqD hq hc6 hn hT h202 r2
    rw [g2.2.1.1, if_pos (Int32.le_refl 0)] at e232
    have hmF : qMo (q_nF (q_swp s t t') f) 240 := mo_kw (by omega) (nF_kw hqD) hmD
    have hfF : qMf (q_nF (q_swp s t t') f) f := nF_mf (by omega)
    obtain ⟨V, e3, v48, hV⟩ := m232_3 (J := J') (K := K') hmF nF_4 hfF hq
    -- the counts of both readings are the same
    have lq : ∀ k, k < 12 → q_lim k < 2000 := by decide
    have hCC : ∀ k, k < 12 → C2 k = C k := fun k hk => by
      have a1 := hfy.1.1 k hk
      have a2 := g2.2.2.2.2.2.1.1 k hk
      have := lq k hk
      have e : w (C k) = w (C2 k) := a1.1.symm.trans a2.1
      rw [w_eq (by omega) (by omega)] at e
      exact e.symm
    have hfy2 := g2.2.2.2.2.2
    obtain ⟨⟨a1, a2, a3, a4, a5, a6, a7⟩, -, -, -, -⟩ := id g2
    obtain ⟨If, hIf⟩ : ∃ A, A = mG (q_up (q_up J' (240 + 2) V) 240 (q_set (q_set (J' 240) 19 0) 20 0)) 240 0 := ⟨_, rfl⟩
    rw [← hIf] at e3
    have hJ5 : J' f 5 = w (C 5) := by
      rw [zp_m g2.2.2.2.2 (by omega), hCC 5 (by omega)]
    rw [hJ5] at e3
    have f240 : ∀ k, If 240 k = if k = 2 then -1 else if k = 1 then 0 else if k = 20 then 0 else if k = 19 then 0 else J' 240 k := fun k => by
      rw [hIf]
      unfold mG
      rw [q_up_eq, q_up_eq]
      rfl
    have jo : ∀ a, a ≠ 240 → a ≠ 240 + 2 → If a = J' a := fun a x y => by
      rw [hIf]
      unfold mG
      rw [q_up_ne x, q_up_ne x, q_up_ne y]
    have j2 : If (240 + 2) = V := by
      rw [hIf]
      unfold mG
      rw [q_up_ne (by decide), q_up_ne (by decide), q_up_eq]
    have jc : ∀ a, a ≠ 240 → a ≠ 240 + 2 → a < f → If a = cT Ic 0 a := fun a x y z => by
      rw [jo a x y, (a3 a (by unfold qMw; omega)).1, jb_o hq x (by omega)]
    have jk : ∀ a, a ≠ 240 → a < f → K' a = L' a := fun a x y => by
      rw [(a3 a (by unfold qMw; omega)).2, zL_o (by omega)]
    have b240 : ∀ k, k < 8 ∨ 14 < k → J' 240 k = q_set (q_set (q_set (q_set (q_set (q_set (cT Ic 0 240) 0 0) 7 (w n)) 6 0) 8 0) 13 0) 9 0 k := fun k hk => by
      rw [a4 k hk, jb_240]
    have jI : ∀ a, a ≠ 240 → a ≠ 240 + 2 → a ≠ 100 → a ≠ 188 + 1 + 1 → a ≠ 194 → a ≠ 230 + 1 → a ≠ 232 + 1 → a ≠ 234 → (a < 199 ∨ 214 ≤ a) → a < f → ¬ qCw t' a → If a = I a := fun a y0 y1 x0 x1 x2 x3 x4 x5 x6 z x7 => by rw [jc a y0 y1 z, hc0 a x0 x1 x2 x3 x4 x5 x6 x7]
    have i1 : If 1 = I 1 := jI 1 (by decide) (by decide) (by decide) (by decide) (by decide) (by decide) (by decide) (by decide) (by omega) (by omega) (ncw _ (by decide) (by decide) (by decide) (by decide) (by omega))
    have c100 : If 100 = cT Ic 0 100 := jc 100 (by decide) (by decide) (by omega)
    have dIf : qd If t' = qd I' t' := qd_same fun a h1 h2 => by
      rw [jc a (by omega) (by omega) (by omega), hcI a (by omega) (by omega) (by omega) (by omega) (by omega) (by omega) (by omega)]
    have mIf : qme If f = qme J' f := by
      funext k
      exact me_of fun hk => jo _ (by omega) (by omega)
    -- the graph
    have kwD : qKw (q_swp s t t') (q_nF (q_swp s t t') f) := nF_kw hqD
    have hxF : qXo (q_nF (q_swp s t t') f) t' t := xo_kw (by omega) kwD hxD
    have hxG : qXo (q_ptr (q_nF (q_swp s t t') f) 240 3 f) t' t := by
      refine xo_re (u := t') (u' := t) hxF (fun _ => rfl) (fun _ => rfl) (fun a k a1 a2 a3 a4 => ptr_r_ne (by omega)) ?_ ?_ (Or.inl ⟨rfl, rfl⟩) (fun k hk => ptr_r_ne (by omega)) ?_ ?_
      · rw [ptr_r_ne (by omega)]; exact xo_r0 hxF
      · rw [ptr_r_ne (by omega)]; exact xo_r1 hxF
      · rw [ptr_r_ne (by omega)]; exact (xo_yr hxF).2.1
      · rw [ptr_r_ne (by omega)]; exact (xo_yr hxF).2.2
    have hmG : qMF (q_ptr (q_nF (q_swp s t t') f) 240 3 f) 240 f := ⟨mo_pt (Or.inl rfl) hmF, mf_pt (by omega) hfF, ptr_r_eq, by omega⟩
    -- what is told
    have hfyC : qFy (qd I' t') (qme J' f) C2 := hfy2
    have i190 : If (188 + 2) = Ic (188 + 1 + 1) := by
      rw [jc (188 + 2) (by decide) (by decide) (by omega), hcs (188 + 2) (by decide)]
    have hpr : qPR (qd I' t') (C2 5) (C2 3) (C2 0) (If (188 + 2)) (If (240 + 2)) := by
      rw [i190, j2]
      refine fy_pr hfyC k2 k3 v48 fun u hu => ?_
      rw [me_at (by omega), me_at (by omega), me_at (by omega), me_at (by omega)]
      exact hV u hu
    have hst : qSt If (q_ptr (q_nF (q_swp s t t') f) 240 3 f) t' t := by
      refine Or.inr ⟨f, C2 5, C2 3, C2 0, C2 6, C2 8, C2 11, ⟨⟨hxG, hmG, hq, ⟨?_, ?_, ?_⟩⟩, ?_, ?_, Or.inl ?_, ?_, 0, 0, 0, ?_⟩, ?_⟩
      · rw [dIf]
        unfold qMR
        rw [mIf]
        exact ⟨(fy_vd hfyC h02).1, hpr.1, fy_rd hfyC, hpr.2.1⟩
      · rw [dIf]; exact fy_xd hfyC
      · rw [dIf, mIf]; exact fy_xe hfyC
      · rw [hCC 5 (by omega), hCC 0 (by omega)]
        have ey : ∀ a, 199 ≤ a → a < 214 → If a = Ic a := fun a x y => by rw [jc a (by omega) (by omega) (by omega), hcs a (by omega)]
        have dC : qd Ic t' = qd I' t' := qd_same fun a h1 h2 => by
          rw [← hcs a (by omega), hcI a (by omega) (by omega) (by omega) (by omega) (by omega) (by omega) (by omega)]
        have k9' := k9
        unfold qYY at k9' ⊢
        rw [dIf, i190, ey (199 + 1 + 2 * 0 + 1) (by omega) (by omega), ey (199 + 1 + 2 * 1 + 1) (by omega) (by omega), ey (199 + 1 + 2 * 2 + 1) (by omega) (by omega), ey (199 + 1 + 2 * 3 + 1) (by omega) (by omega), ey (199 + 1 + 2 * 4 + 1) (by omega) (by omega), ey (199 + 1 + 2 * 6 + 1) (by omega) (by omega)]
        rw [dC] at k9'
        exact k9'
      · rw [dIf, hCC 5 (by omega), hCC 3 (by omega)]
        intro u hu y ey hlt
        rw [jc (232 + 1) (by decide) (by decide) (by omega), jc (230 + 1) (by decide) (by decide) (by omega), hcs (232 + 1) (by decide), hcs (230 + 1) (by decide)]
        exact k8 u hu y ey hlt
      · rw [jc 234 (by decide) (by decide) (by omega), hcs 234 (by decide)]; exact k7
      · rw [dIf]; exact hpr
      · have e194 : If 194 = Ic 194 := by rw [jc 194 (by decide) (by decide) (by omega), hcs 194 (by decide)]
        rw [e194, f240, f240]
        exact ⟨k4, by omega, k5, by omega, k6, by omega, rfl, rfl, fun i hi => absurd hi (Nat.not_lt_zero i), fun i hi => absurd hi (Nat.not_lt_zero i)⟩
      · show f + 24 ≤ f + 24
        exact Nat.le_refl _
    refine ⟨.int (w (C 5)), _, _, _, If, K', q_ptr (q_nF (q_swp s t t') f) 240 3 f, t', t, e115, e232.trans e3, ?_, sx2, sx3, mo_k hm, ⟨fun k hk => ?_, ⟨⟨0, ?_, Nat.zero_le _, ?_⟩, fun k hk => ?_⟩, ⟨?_, ?_, ?_⟩, hst, ?_⟩, ?_, ?_⟩
    · rw [hc0 1 (by decide) (by decide) (by decide) (by decide) (by decide) (by decide) (by omega) (ncw _ (by decide) (by decide) (by decide) (by decide) (by omega))]; exact sx1
    · rw [jk 182 (by decide) (by omega), jc (183 + 1) (by decide) (by decide) (by omega), jc (185 + 1) (by decide) (by decide) (by omega), hcI (183 + 1) (by decide) (by decide) (by decide) (by decide) (by decide) (by decide) (by omega), hcI (185 + 1) (by decide) (by decide) (by decide) (by decide) (by decide) (by decide) (by omega)]
      exact a6 k hk
    · rw [c100, hc100]; rfl
    · rw [f240, if_neg (by decide), if_neg (by decide), if_neg (by decide), if_neg (by decide), b240 6 (by omega), q_set_ne (by decide), q_set_ne (by decide), q_set_ne (by decide), q_set_eq]; rfl
    · obtain ⟨y, y1, y2, y3⟩ := ok.2.1.2 k hk
      rw [jI (179 + 1) (by decide) (by decide) (by decide) (by decide) (by decide) (by decide) (by decide) (by decide) (by omega) (by omega) (ncw _ (by decide) (by decide) (by decide) (by decide) (by omega)), jI (240 + 1) (by decide) (by decide) (by decide) (by decide) (by decide) (by decide) (by decide) (by decide) (by omega) (by omega) (ncw _ (by decide) (by decide) (by decide) (by decide) (by omega))]
      exact ⟨y, y1, y2, y3⟩
    · rw [c100, hc100, f240]; exact g2.2.1.1.symm
    · rw [c100, hc100, f240]; rfl
    · rw [c100, hc100, f240]; rfl
    · refine ⟨i1.trans sx1, ?_, ?_, fun a x1 x2 => ?_, ?_, ?_, ?_⟩
      · exact (nF_k (s := q_swp s t t') (f := f) (by omega)).trans sx2
      · exact (nF_z (s := q_swp s t t') (f := f) (by omega)).trans sx3
      · exact (nF_k (s := q_swp s t t') (f := f) (by omega)).trans (sx4 a x1 x2)
      · exact (nF_k (s := q_swp s t t') (f := f) (by omega)).trans sx5
      · exact (nF_z (s := q_swp s t t') (f := f) (by omega)).trans sx6
      · show 260 ≤ f + 24
        omega
    · show f + 24 ≤ qn s + 24
      omega
    · show qw (q_nF (q_swp s t t') f) ≤ qw s + 1000
      rw [nF_w]
      show qw s + 377 ≤ qw s + 1000
      omega
  · exact absurd (x_inj (hX.symm.trans r1)).1 (by decide)
theorem s_flight (ok : qOk I L s t t' X N) (a : Int32) : qStep I L s X N 115 [.ref 100, .int a] 232 [.ref 240, .int a] := by
  obtain ⟨T, t1, t2, t3⟩ := ok.2.1.1
  by_cases c : a < 0 ∨ I 100 12 < a
  · exact flight_no ok c
  · have c0 : ¬ a < 0 := fun z => c (Or.inl z)
    have c1 : a ≤ I 100 12 := Int32.not_lt.mp fun z => c (Or.inr z)
    obtain ⟨e, hlt⟩ := i_nn c0
    obtain ⟨n, hn⟩ : ∃ n, n = a.toNatClampNeg := ⟨_, rfl⟩
    rw [← hn] at e hlt
    subst e
    have hnT : n ≤ T := by
      rw [t1, w_le hlt (by omega)] at c1; exact c1
    have hx := st_x ok.2.2.2.1
    have hm := st_m ok.2.2.2.1
    obtain ⟨sx1, sx2, sx3, sx4, sx5, sx6, hq⟩ := ok.2.2.2.2
    obtain ⟨b, tb1, tb2⟩ := tp_b ok.2.1
    have tbI : qTxt (q_up I 100 (q_set (I 100) 12 0)) b := fun k hk => by
      rw [q_up_ne (by decide)]; exact tb1 k hk
    have tbA : qTxm (q_up I 100 (q_set (I 100) 12 0)) b := fun k hk => by
      rw [q_up_ne (by decide)]; exact tb2 k hk
    have hNm : qNm (q_up I 100 (q_set (I 100) 12 0)) L := fun k hk => by
      rw [q_up_ne (by decide), q_up_ne (by decide)]; exact ok.1 k hk
    obtain ⟨J4, K4, h202, hR⟩ := go_read (I := q_up I 100 (q_set (I 100) 12 0)) (J := q_up I 100 (q_set (I 100) 12 0)) (L := L) (K := L) (s1 := s) (f := qn s) hx hNm (show n ≤ 1100 by omega) tbI hm rfl hq tbA sx4 sx4
    rcases hR with ⟨C, I', L', J', K', r1, r2, g, h0, -⟩ | ⟨I', L', J', K', r1, r2, fa⟩
    · exact flight_s ok t1 t3 hnT t2 r1 g h0
    · exact flight_f ok t1 t3 hnT t2 r1 fa.1.1
end SFs
