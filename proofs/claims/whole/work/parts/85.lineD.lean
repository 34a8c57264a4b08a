/-! READING: the line of a stop -/
def qZn (t f c : Nat) (kc v : Int32) (x : Int64) (R : (Nat → Nat → Int32) → Prop) (C : Nat → Nat) (I : qI) (L : qL) (J : qI) (K : qL) : Prop := qZp t f 1 C I L J K ∧ I (183 + 1) (11 + c) = kc ∧ I (185 + 1) (11 + c) = v ∧ L 182 (11 + c) = x ∧ R (qd I t)
section PT
variable {s s2 : qS} {t f n : Nat} {b : Nat → Nat} {I0 J0 I J I' J' : qI} {L0 K0 L K L' K' : qL} {Z Z' : qI → qL → qI → qL → Prop} {C : Nat → Nat} {c : Nat} {kc v : Int32} {x : Int64} {R : (Nat → Nat → Int32) → Prop}
theorem zn_stab (ht : t = 101 ∨ t = 140) (hf : 260 ≤ f) : qStab (qZn t f c kc v x R C) := by
  intro I L J K g h g' h' hz
  obtain ⟨z1, z2, z3, z4, z5⟩ := hz
  refine ⟨zp_stab ht hf _ _ _ _ _ _ _ _ z1, ?_, ?_, ?_, ?_⟩
  · rw [q_up_ne (by decide)]; exact z2
  · rw [q_up_ne (by decide)]; exact z3
  · rw [upl_ne (by decide)]; exact z4
  · rw [qd_same (I := I) fun a h1 h2 => q_up_ne (by omega)]; exact z5
theorem zn_new (ht : t = 101 ∨ t = 140) (h : qZp t f 0 C I L J K) (hc : c = C 3 + C 5 + C 8) (hc9 : c < 20) (hR : R (qd I t)) : qZn t f c kc v x R C (q_nI I (11 + c) kc v) (q_nL L (11 + c) x) J K := by
  obtain ⟨⟨n1, n2, n3, n4, n5⟩, hfy⟩ := h
  have e1 : qd (q_nI I (11 + c) kc v) t = qd I t := qd_same fun a h1 h2 => by
    unfold q_nI
    rw [q_up_ne (by omega), q_up_ne (by omega), q_up_ne (by omega)]
  have e181 : q_nI I (11 + c) kc v 181 4 = w (11 + c + 1) := by
    unfold q_nI
    rw [q_up_eq, q_set_eq]
  have e184 : q_nI I (11 + c) kc v (183 + 1) = q_set (I (183 + 1)) (11 + c) kc := by
    unfold q_nI
    rw [q_up_ne (by decide), q_up_ne (by decide), q_up_eq]
  have e186 : q_nI I (11 + c) kc v (185 + 1) = q_set (I (185 + 1)) (11 + c) v := by
    unfold q_nI
    rw [q_up_ne (by decide), q_up_eq]
  have e182 : ∀ i, q_nL L (11 + c) x 182 i = if i = 11 + c then x else L 182 i := fun i => by
    show q_upl L 182 (q_setl (L 182) (11 + c) x) 182 i = _
    unfold q_upl q_setl
    rw [if_pos rfl]
  subst hc
  refine ⟨⟨⟨by omega, by omega, e181, n4, fun i hi => ?_⟩, by rw [e1]; exact hfy⟩, ?_, ?_, ?_, by rw [e1]; exact hR⟩
  · rw [e182, if_neg (by omega), e184, e186, q_set_ne (by omega), q_set_ne (by omega)]
    exact n5 i hi
  · rw [e184, q_set_eq]
  · rw [e186, q_set_eq]
  · rw [e182, if_pos rfl]
theorem line_stop (cx : qCx s s2 t f n b I0 J0) (h : qGo (qZp t f 0 C) t f n I0 L0 J0 K0 I L J K) (hk : I 187 4 = 1) (h0 : C 0 ≠ 0) (h8 : C 3 < 8) : qLine C (jd 53 7 [some (.ref 181), none, some (.int 3), none, none] [] (I, L, s)) (jD 221 [.ref 240] (J, K, s2)) s s2 t f n I0 L0 J0 K0 := by
  obtain ⟨hr, hn, -, hm, h4, hf, hf0, hf9, -, -, htx⟩ := id cx
  obtain ⟨k6, r0, r1, r2, r3, r5, k182, z182, row2, row3, k7, r7, rt, hfl, ht⟩ := id hr
  have r00 := fl_k hfl (k := 1) (n := 8) (by omega) rfl
  have t0 : ¬ t = 0 := by omega
  have hlim : ∀ k, k < 12 → C k ≤ q_lim k := fun k hk => (h.2.2.2.2.2.1.1 k hk).2
  have l5 : C 5 ≤ 6 := hlim 5 (by omega)
  have l8 : C 8 ≤ 6 := hlim 8 (by omega)
  have l0 : C 0 ≤ 20 := hlim 0 (by omega)
  obtain ⟨c, hc⟩ : ∃ c, c = C 3 + C 5 + C 8 := ⟨_, rfl⟩
  obtain ⟨I1, L1, J1, K1, e1, d1, g1, -⟩ := go_next cx (zp_stab ht hf9) h (by rw [hk]; decide) (by rw [hk]; decide)
  have hE0 : J f 0 ≠ 0 := by
    rw [zp_m h.2.2.2.2 (by omega)]
    exact fun z => h0 ((w_zero (by omega)).mp z)
  have hE3 : J f 3 = w (C 3) := zp_m h.2.2.2.2 (by omega)
  have hI3 : qd I1 t 0 3 = w (C 3) := (g1.2.2.2.2.2.1.1 3 (by omega)).1
  have hJ3 : J1 f 3 = w (C 3) := zp_m g1.2.2.2.2 (by omega)
  have e212 := m212_go (J := J) (K := K) (x := w (C 3)) (y := 8) hm h4 hf hf0 (fun z => by
    have := (w_eq (a := C 3) (b := 8) (by omega) (by omega)).mp z
    omega) hE0 d1
  have cl : jd 53 7 [some (.ref 181), none, some (.int 3), none, none] [] (I, L, s) = jd 53 10 [some (.ref 181), none, some (.int 3), none, none] [] (I1, L1, s) := by
    rw [E_53_7_3]
    simp only [↓reduceIte, q_i, q_l, q_k, q_r, q_z, q_si, q_sl, jx_lt, jx_ri, jx_rl, jx_rv, if_true, if_false, Nat.reduceLeDiff, Nat.add_one_ne_zero, and_self, true_or, or_true, Nat.reduceEqDiff, or_self, or_false, false_or, k6, r0, k7, e1]
  have fin0 : ∀ I' L', jD 56 [.ref 181, .int (w (C 3))] (I1, L1, s) = some (some (.int 0), I', L', s) → jd 53 7 [some (.ref 181), none, some (.int 3), none, none] [] (I, L, s) = some (some (.int 0), I', L', s) := fun I' L' e => by
    rw [cl, E_53_10]
    simp only [↓reduceIte, q_i, q_l, q_k, q_r, q_z, q_si, q_sl, jx_lt, jx_ri, jx_rl, jx_rv, if_true, if_false, Nat.reduceLeDiff, Nat.add_one_ne_zero, and_self, true_or, or_true, Nat.reduceEqDiff, or_self, or_false, false_or, k6, r5, t0, hfl.1, stops_eq hfl, hI3, e]
    exact end_no
  have hna : qNa (C 3) (C 5) (C 8) c 0 f I1 L1 J1 K1 := by rw [hc]; exact g1.2.2.2.2.1
  rcases go_new cx g1 hna (show c < 20 by omega) 3 (w (C 3)) with ⟨cs, h71, h213⟩ | ⟨x, I', J', h71, h213, fa⟩
  · have gn := go_nm (Z' := qZn t f c 3 (w (C 3)) (L1 187 5) (fun _ => True) C) cx g1 (m := 11 + c) (by omega) (zn_new ht g1.2.2.2.2 hc (by omega) trivial)
    have s187 : q_nI I1 (11 + c) 3 (w (C 3)) 187 = I1 187 := by
      unfold q_nI
      rw [q_up_ne (by decide), q_up_ne (by decide), q_up_ne (by decide)]
    obtain ⟨I3, L3, J3, K3, e3, d3, g3, -⟩ := go_next cx (zn_stab ht hf9) gn (by rw [s187, cs]; decide) (by rw [s187, cs]; decide)
    have e71 := h71 _ _ e3
    have d213 := h213 _ _ d3
    generalize hx : L1 187 5 = x at gn g3 d213
    have c16 := c_is (I := I3) (L := L3) hr (c := 16) (by decide) (htx 16 (by decide) (by decide)).1
    have c17 := c_is (I := I3) (L := L3) hr (c := 17) (by decide) (htx 17 (by decide) (by decide)).1
    have c18 := c_is (I := I3) (L := L3) hr (c := 18) (by decide) (htx 18 (by decide) (by decide)).1
    have m45 := m_is (J := J3) (K := K3) hm (c := 45) (by decide) (htx 45 (by decide) (by decide)).2
    have m46 := m_is (J := J3) (K := K3) hm (c := 46) (by decide) (htx 46 (by decide) (by decide)).2
    have m47 := m_is (J := J3) (K := K3) hm (c := 47) (by decide) (htx 47 (by decide) (by decide)).2
    have q16 := is_rel g3.2.2.2.1 t13.2.2.2.2.2.1
    have q17 := is_rel g3.2.2.2.1 t13.2.2.2.2.2.2.1
    have q18 := is_rel g3.2.2.2.1 t13.2.2.2.2.2.2.2.1
    have b56 : ∀ X, jd 56 1 [some (.ref 181), some (.int (w (C 3))), none] [] (I3, L3, s) = X → jD 56 [.ref 181, .int (w (C 3))] (I1, L1, s) = X := fun X e => by
      rw [D_56, E_56_0]
      simp only [↓reduceIte, q_i, q_l, q_k, q_r, q_z, q_si, q_sl, jx_lt, jx_ri, jx_rl, jx_rv, if_true, if_false, Nat.reduceLeDiff, Nat.add_one_ne_zero, and_self, true_or, or_true, Nat.reduceEqDiff, or_self, or_false, false_or, k6, e71, show ¬ (1 : Int32) = 0 by decide]
      exact e
    have b221 : jD 221 [.ref 240] (J, K, s2) = jx_ri (jD 204 [.ref 240, .ref 45] (J3, K3, s2)) fun v5 M4 => if v5 = 0 then jd 221 1 [some (.ref 240), some (.long x), none, none] [] M4 else jd 221 4 [some (.ref 240), some (.long x), none, none] [.int 0] M4 := by
      rw [D_221, E_221_0]
      simp only [↓reduceIte, q_i, q_l, q_k, q_r, q_z, q_si, q_sl, jx_lt, jx_ri, jx_rl, jx_rv, if_true, if_false, Nat.reduceLeDiff, Nat.add_one_ne_zero, and_self, true_or, or_true, Nat.reduceEqDiff, or_self, or_false, false_or, mo_k hm, h4, hf0, mf_k hf, hE3, e212, d213]
    have fin : ∀ v : Nat, v ≤ 2 → I3 187 4 = 1 → jd 56 1 [some (.ref 181), some (.int (w (C 3))), none] [] (I3, L3, s) = jd 56 6 [some (.ref 181), some (.int (w (C 3))), some (.int (w v))] [] (I3, L3, s) → jD 221 [.ref 240] (J, K, s2) = jd 221 5 [some (.ref 240), some (.long x), none, some (.int (w v))] [] (J3, K3, s2) → qLine C (jd 53 7 [some (.ref 181), none, some (.int 3), none, none] [] (I, L, s)) (jD 221 [.ref 240] (J, K, s2)) s s2 t f n I0 L0 J0 K0 := by
      intro v hv hs3 hcl hrf
      left
      have hz3 := g3.2.2.2.2
      have gp : qGo (qZn t f c 3 (w (C 3)) x (fun D => D 1 (C 3) = w v) C) t f n I0 L0 J0 K0 (q_up I3 (t + 1 + 2 * 1 + 1) (q_set (I3 (t + 1 + 2 * 1 + 1)) (C 3) (w v))) L3 J3 K3 := by
        refine go_put cx g3 (fun a ha => q_up_ne (by omega)) (fun a ha => rfl) (fun a ha => rfl) g3.1.2.2.2.2.2.2 ⟨⟨?_, ?_⟩, ?_, ?_, hz3.2.2.2.1, ?_⟩
        · obtain ⟨n1, n2, n3, n4, n5⟩ := hz3.1.1
          refine ⟨n1, n2, ?_, n4, fun i hi => ?_⟩
          · rw [q_up_ne (by omega)]; exact n3
          · rw [q_up_ne (show (183 + 1 : Nat) ≠ t + 1 + 2 * 1 + 1 by omega), q_up_ne (show (185 + 1 : Nat) ≠ t + 1 + 2 * 1 + 1 by omega)]
            exact n5 i hi
        · rw [qd_up (r := 1) (by omega)]
          refine fy_row1 hz3.1.2 (fun k hk1 => if_neg hk1) fun i hi => ?_
          show q_set (I3 (t + 1 + 2 * 1 + 1)) (C 3) (w v) i = qd I3 t 1 i
          rw [q_set_ne (by omega)]
          rfl
        · rw [q_up_ne (by omega)]; exact hz3.2.1
        · rw [q_up_ne (by omega)]; exact hz3.2.2.1
        · rw [qd_up (r := 1) (by omega)]
          show q_set (I3 (t + 1 + 2 * 1 + 1)) (C 3) (w v) (C 3) = w v
          exact q_set_eq
      have s3 : q_up I3 (t + 1 + 2 * 1 + 1) (q_set (I3 (t + 1 + 2 * 1 + 1)) (C 3) (w v)) 187 = I3 187 := q_up_ne (by omega)
      obtain ⟨I5, L5, J5, K5, e5, d5, g5, -⟩ := go_next cx (zn_stab ht hf9) gp (by rw [s3, hs3]; decide) (by rw [s3, hs3]; decide)
      have hz5 := g5.2.2.2.2
      have hI5 : I5 (t + 2) 3 = w (C 3) := (zp_f hz5.1 (by omega)).1
      have hJ5 : J5 f 3 = w (C 3) := zp_m hz5.1 (by omega)
      obtain ⟨n1, n2, n3, n4, n5⟩ := hz5.1.1
      rw [← hc] at n1 n3 n4 n5
      obtain ⟨C', cC, cO⟩ : ∃ C' : Nat → Nat, C' 3 = C 3 + 1 ∧ ∀ k, k ≠ 3 → C' k = C k := ⟨fun k => if k = 3 then C 3 + 1 else C k, rfl, fun k hk3 => if_neg hk3⟩
      have o1 : ∀ k v', q_mI J5 f c k v' f = q_set (J5 f) 13 (w (c + 1)) := fun k v' => q_up_eq
      have o2 : ∀ k v', q_mI J5 f c k v' (f + 1) = J5 (f + 1) := fun k v' => by
        unfold q_mI
        rw [q_up_ne (by omega), q_up_ne (by omega), q_up_ne (by omega)]
      have o3 : ∀ g, q_up (q_mI J5 f c 0 (w (C 3))) (f + 1) g f = q_set (J5 f) 13 (w (c + 1)) := fun g => by rw [q_up_ne (by omega), o1]
      have o4 : q_set (J5 f) 13 (w (c + 1)) 3 = w (C 3) := by rw [q_set_ne (by omega)]; exact hJ5
      have hJ6 : ∀ a, a ≠ f → a ≠ f + 1 → a ≠ f + 22 → a ≠ f + 23 → (q_up (q_up (q_mI J5 f c 0 (w (C 3))) (f + 1) (q_set (J5 (f + 1)) (C 3) (w v))) f (q_set (q_set (J5 f) 13 (w (c + 1))) 3 (w (C 3 + 1)))) a = J5 a := fun a h1 h2 h3 h4 => by
        rw [q_up_ne h1, q_up_ne h2]
        unfold q_mI
        rw [q_up_ne h1, q_up_ne h4, q_up_ne h3]
      have hJf : (q_up (q_up (q_mI J5 f c 0 (w (C 3))) (f + 1) (q_set (J5 (f + 1)) (C 3) (w v))) f (q_set (q_set (J5 f) 13 (w (c + 1))) 3 (w (C 3 + 1)))) f = q_set (q_set (J5 f) 13 (w (c + 1))) 3 (w (C 3 + 1)) := q_up_eq
      have hJ1 : (q_up (q_up (q_mI J5 f c 0 (w (C 3))) (f + 1) (q_set (J5 (f + 1)) (C 3) (w v))) f (q_set (q_set (J5 f) 13 (w (c + 1))) 3 (w (C 3 + 1)))) (f + 1) = q_set (J5 (f + 1)) (C 3) (w v) := by rw [q_up_ne (by omega), q_up_eq]
      have hJ22 : (q_up (q_up (q_mI J5 f c 0 (w (C 3))) (f + 1) (q_set (J5 (f + 1)) (C 3) (w v))) f (q_set (q_set (J5 f) 13 (w (c + 1))) 3 (w (C 3 + 1)))) (f + 22) = q_set (J5 (f + 22)) c 0 := by
        rw [q_up_ne (by omega), q_up_ne (by omega)]
        unfold q_mI
        rw [q_up_ne (by omega), q_up_ne (by omega), q_up_eq]
      have hJ23 : (q_up (q_up (q_mI J5 f c 0 (w (C 3))) (f + 1) (q_set (J5 (f + 1)) (C 3) (w v))) f (q_set (q_set (J5 f) 13 (w (c + 1))) 3 (w (C 3 + 1)))) (f + 23) = q_set (J5 (f + 23)) c (w (C 3)) := by
        rw [q_up_ne (by omega), q_up_ne (by omega)]
        unfold q_mI
        rw [q_up_ne (by omega), q_up_eq]
      have hK21 : q_mK K5 f c x (f + 21) = q_setl (K5 (f + 21)) c x := if_pos rfl
      refine ⟨C', q_up I5 (t + 2) (q_set (I5 (t + 2)) 3 (w (C 3 + 1))), L5, q_up (q_up (q_mI J5 f c 0 (w (C 3))) (f + 1) (q_set (J5 (f + 1)) (C 3) (w v))) f (q_set (q_set (J5 f) 13 (w (c + 1))) 3 (w (C 3 + 1))), q_mK K5 f c x, ?_, ?_, ?_, ?_⟩
      · have e56 : jD 56 [.ref 181, .int (w (C 3))] (I1, L1, s) = some (some (.int 1), I5, L5, s) := by
          refine b56 _ (hcl.trans ?_)
          rw [E_56_6]
          simp only [↓reduceIte, q_i, q_l, q_k, q_r, q_z, q_si, q_sl, jx_lt, jx_ri, jx_rl, jx_rv, if_true, if_false, Nat.reduceLeDiff, Nat.add_one_ne_zero, and_self, true_or, or_true, Nat.reduceEqDiff, or_self, or_false, false_or, k6, r5, t0, hfl.1, r00.1, r00.2.1, put_eq r00.2, q_put_w (n := 8) (k := C 3) (by omega) h8, r0, k7, e5]
        rw [cl, E_53_10]
        simp only [↓reduceIte, q_i, q_l, q_k, q_r, q_z, q_si, q_sl, jx_lt, jx_ri, jx_rl, jx_rv, if_true, if_false, Nat.reduceLeDiff, Nat.add_one_ne_zero, and_self, true_or, or_true, Nat.reduceEqDiff, or_self, or_false, false_or, k6, r5, t0, hfl.1, stops_eq hfl, hI3, e56]
        exact end_ok hr (x := 3) (by omega) (by omega) hI5
      · rw [hrf, E_221_5]
        simp only [↓reduceIte, q_i, q_l, q_k, q_r, q_z, q_si, q_sl, jx_lt, jx_ri, jx_rl, jx_rv, if_true, if_false, Nat.reduceLeDiff, Nat.add_one_ne_zero, and_self, true_or, or_true, Nat.reduceEqDiff, or_self, or_false, false_or, mo_k hm, d5, g5.2.2.1]
        rw [E_221_6]
        simp only [↓reduceIte, q_i, q_l, q_k, q_r, q_z, q_si, q_sl, jx_lt, jx_ri, jx_rl, jx_rv, if_true, if_false, Nat.reduceLeDiff, Nat.add_one_ne_zero, and_self, true_or, or_true, Nat.reduceEqDiff, or_self, or_false, false_or, mo_k hm, h4, hf0, mf_k hf, hJ5, m214 hm h4 hf hf0 (show c < 20 by omega) n4, mf_r14 hf, mf_k14 hf, mf_z14 hf, Nat.add_eq_zero_iff, and_false, o1, o2, o3, o4, w_nn (a := C 3) (by omega), show ¬ 8 ≤ C 3 by omega, w_tc (a := C 3) (by omega), w_inc]
      · refine go_put cx g5 (fun a ha => q_up_ne (by omega)) (fun a ha => hJ6 a (by omega) (by omega) (by omega) (by omega)) (fun a ha => upl_ne (by omega)) ⟨c + 1, by omega, by rw [hJf, q_set_ne (by omega), q_set_eq]⟩ ⟨?_, ?_⟩
        · rw [cC, cO 5 (by omega), cO 8 (by omega), show C 3 + 1 + C 5 + C 8 = c + 1 by omega]
          refine ⟨by omega, by omega, ?_, by rw [hJf, q_set_ne (by omega), q_set_eq], fun i hi => ?_⟩
          · rw [q_up_ne (by omega), show 11 + (c + 1) + 0 = 11 + c + 1 by omega]; exact n3
          · rw [hK21, hJ22, hJ23, q_up_ne (show (183 + 1 : Nat) ≠ t + 2 by omega), q_up_ne (show (185 + 1 : Nat) ≠ t + 2 by omega)]
            by_cases ci : i = c
            · subst ci
              obtain ⟨z1, z2, z3, z4, -⟩ := hz5
              have e1 : q_setl (K5 (f + 21)) i x i = x := if_pos rfl
              rw [e1, q_set_eq, q_set_eq, z2, z3]
              exact ⟨z4, rfl, Or.inl ⟨rfl, rfl, C 3, by omega, rfl⟩⟩
            · obtain ⟨m1, m2, m3⟩ := n5 i (by omega)
              have e1 : q_setl (K5 (f + 21)) c x i = K5 (f + 21) i := if_neg ci
              rw [e1, q_set_ne ci, q_set_ne ci]
              exact ⟨m1, m2, nk_mono (by omega) (Nat.le_refl _) (Nat.le_refl _) m3⟩
        · have eD : qd (q_up I5 (t + 2) (q_set (I5 (t + 2)) 3 (w (C 3 + 1)))) t = fun k => if k = 0 then q_set (I5 (t + 2)) 3 (w (C 3 + 1)) else qd I5 t k := qd_up (r := 0) (by omega)
          have eE : ∀ k, k < 24 → qme (q_up (q_up (q_mI J5 f c 0 (w (C 3))) (f + 1) (q_set (J5 (f + 1)) (C 3) (w v))) f (q_set (q_set (J5 f) 13 (w (c + 1))) 3 (w (C 3 + 1)))) f k = (q_up (q_up (q_mI J5 f c 0 (w (C 3))) (f + 1) (q_set (J5 (f + 1)) (C 3) (w v))) f (q_set (q_set (J5 f) 13 (w (c + 1))) 3 (w (C 3 + 1)))) (f + k) := fun k hk24 => by unfold qme; rw [if_pos hk24]
          have eE5 : ∀ k, k < 24 → qme J5 f k = J5 (f + k) := fun k hk24 => by unfold qme; rw [if_pos hk24]
          refine fy_stop hz5.1.2 h8 hv h0 cC cO (fun k hk0 => by rw [eD]; exact if_neg hk0) (fun k a1 a2 a3 => ?_) (fun k hk3 => ?_) ?_ (fun k a1 a2 => ?_) ?_ hz5.2.2.2.2 ?_ (fun i hi => ?_)
          · rw [eE k (by omega), eE5 k (by omega)]
            exact hJ6 _ (by omega) (by omega) (by omega) (by omega)
          · rw [eD]
            show q_set (I5 (t + 2)) 3 (w (C 3 + 1)) k = _
            rw [q_set_ne hk3]
            rfl
          · rw [eD]
            show q_set (I5 (t + 2)) 3 (w (C 3 + 1)) 3 = _
            exact q_set_eq
          · rw [eE 0 (by omega), eE5 0 (by omega)]
            exact (congrFun hJf k).trans (by rw [q_set_ne a1, q_set_ne a2]; rfl)
          · rw [eE 0 (by omega)]
            exact (congrFun hJf 3).trans q_set_eq
          · rw [eE 1 (by omega), hJ1, q_set_eq]
          · rw [eE 1 (by omega), eE5 1 (by omega), hJ1, q_set_ne hi]
      · exact mu_up (x := 3) (by omega) (by omega) h0 cC cO
    by_cases p0 : J3 240 9 = 2 ∧ K3 240 15 = q_tm 45
    · refine fin 0 (by omega) (q16.mpr p0).1 ?_ ?_
      · rw [if_pos (q16.mpr p0)] at c16
        rw [E_56_1]
        simp only [↓reduceIte, q_i, q_l, q_k, q_r, q_z, q_si, q_sl, jx_lt, jx_ri, jx_rl, jx_rv, if_true, if_false, Nat.reduceLeDiff, Nat.add_one_ne_zero, and_self, true_or, or_true, Nat.reduceEqDiff, or_self, or_false, false_or, k6, r0, k7, c16, show ¬ (1 : Int32) = 0 by decide]
        rw [E_56_5, if_neg (by decide)]
        rfl
      · rw [if_pos p0] at m45
        rw [b221]
        simp only [↓reduceIte, q_i, q_l, q_k, q_r, q_z, q_si, q_sl, jx_lt, jx_ri, jx_rl, jx_rv, if_true, if_false, Nat.reduceLeDiff, Nat.add_one_ne_zero, and_self, true_or, or_true, Nat.reduceEqDiff, or_self, or_false, false_or, m45, show ¬ (1 : Int32) = 0 by decide]
        rw [E_221_4, if_neg (by decide)]
        rfl
    · rw [if_neg (fun z => p0 (q16.mp z))] at c16
      rw [if_neg p0] at m45
      by_cases p1 : J3 240 9 = 2 ∧ K3 240 15 = q_tm 46
      · refine fin 1 (by omega) (q17.mpr p1).1 ?_ ?_
        · rw [if_pos (q17.mpr p1)] at c17
          rw [E_56_1]
          simp only [↓reduceIte, q_i, q_l, q_k, q_r, q_z, q_si, q_sl, jx_lt, jx_ri, jx_rl, jx_rv, if_true, if_false, Nat.reduceLeDiff, Nat.add_one_ne_zero, and_self, true_or, or_true, Nat.reduceEqDiff, or_self, or_false, false_or, k6, r0, k7, c16]
          rw [E_56_2]
          simp only [↓reduceIte, q_i, q_l, q_k, q_r, q_z, q_si, q_sl, jx_lt, jx_ri, jx_rl, jx_rv, if_true, if_false, Nat.reduceLeDiff, Nat.add_one_ne_zero, and_self, true_or, or_true, Nat.reduceEqDiff, or_self, or_false, false_or, k6, r0, k7, c17, show ¬ (1 : Int32) = 0 by decide]
          rw [E_56_5, if_neg (by decide)]
          rfl
        · rw [if_pos p1] at m46
          rw [b221]
          simp only [↓reduceIte, q_i, q_l, q_k, q_r, q_z, q_si, q_sl, jx_lt, jx_ri, jx_rl, jx_rv, if_true, if_false, Nat.reduceLeDiff, Nat.add_one_ne_zero, and_self, true_or, or_true, Nat.reduceEqDiff, or_self, or_false, false_or, m45]
          rw [E_221_1]
          simp only [↓reduceIte, q_i, q_l, q_k, q_r, q_z, q_si, q_sl, jx_lt, jx_ri, jx_rl, jx_rv, if_true, if_false, Nat.reduceLeDiff, Nat.add_one_ne_zero, and_self, true_or, or_true, Nat.reduceEqDiff, or_self, or_false, false_or, mo_k hm, m46, show ¬ (1 : Int32) = 0 by decide]
          rw [E_221_4, if_neg (by decide)]
          rfl
      · rw [if_neg (fun z => p1 (q17.mp z))] at c17
        rw [if_neg p1] at m46
        by_cases p2 : J3 240 9 = 2 ∧ K3 240 15 = q_tm 47
        · refine fin 2 (by omega) (q18.mpr p2).1 ?_ ?_
          · rw [if_pos (q18.mpr p2)] at c18
            rw [E_56_1]
            simp only [↓reduceIte, q_i, q_l, q_k, q_r, q_z, q_si, q_sl, jx_lt, jx_ri, jx_rl, jx_rv, if_true, if_false, Nat.reduceLeDiff, Nat.add_one_ne_zero, and_self, true_or, or_true, Nat.reduceEqDiff, or_self, or_false, false_or, k6, r0, k7, c16]
            rw [E_56_2]
            simp only [↓reduceIte, q_i, q_l, q_k, q_r, q_z, q_si, q_sl, jx_lt, jx_ri, jx_rl, jx_rv, if_true, if_false, Nat.reduceLeDiff, Nat.add_one_ne_zero, and_self, true_or, or_true, Nat.reduceEqDiff, or_self, or_false, false_or, k6, r0, k7, c17]
            rw [E_56_3]
            simp only [↓reduceIte, q_i, q_l, q_k, q_r, q_z, q_si, q_sl, jx_lt, jx_ri, jx_rl, jx_rv, if_true, if_false, Nat.reduceLeDiff, Nat.add_one_ne_zero, and_self, true_or, or_true, Nat.reduceEqDiff, or_self, or_false, false_or, k6, r0, k7, c18, show ¬ (1 : Int32) = 0 by decide]
            rw [E_56_5, if_neg (by decide)]
            rfl
          · rw [if_pos p2] at m47
            rw [b221]
            simp only [↓reduceIte, q_i, q_l, q_k, q_r, q_z, q_si, q_sl, jx_lt, jx_ri, jx_rl, jx_rv, if_true, if_false, Nat.reduceLeDiff, Nat.add_one_ne_zero, and_self, true_or, or_true, Nat.reduceEqDiff, or_self, or_false, false_or, m45]
            rw [E_221_1]
            simp only [↓reduceIte, q_i, q_l, q_k, q_r, q_z, q_si, q_sl, jx_lt, jx_ri, jx_rl, jx_rv, if_true, if_false, Nat.reduceLeDiff, Nat.add_one_ne_zero, and_self, true_or, or_true, Nat.reduceEqDiff, or_self, or_false, false_or, mo_k hm, m46]
            rw [E_221_2]
            simp only [↓reduceIte, q_i, q_l, q_k, q_r, q_z, q_si, q_sl, jx_lt, jx_ri, jx_rl, jx_rv, if_true, if_false, Nat.reduceLeDiff, Nat.add_one_ne_zero, and_self, true_or, or_true, Nat.reduceEqDiff, or_self, or_false, false_or, mo_k hm, m47, show ¬ (1 : Int32) = 0 by decide]
            rw [E_221_4, if_neg (by decide)]
            rfl
        · rw [if_neg (fun z => p2 (q18.mp z))] at c18
          rw [if_neg p2] at m47
          right
          have fa := go_fault cx g3 (r := 1) (by decide) (by decide)
          have h5 := fa_5 fa
          have h51 : (q_up J3 240 (q_set (q_set (q_set (J3 240) 13 1) 14 (J3 240 10)) 9 5)) 240 9 = 5 := h5
          refine ⟨_, _, _, _, fin0 _ _ (b56 _ ?_), ?_, fa⟩
          · rw [E_56_1]
            simp only [↓reduceIte, q_i, q_l, q_k, q_r, q_z, q_si, q_sl, jx_lt, jx_ri, jx_rl, jx_rv, if_true, if_false, Nat.reduceLeDiff, Nat.add_one_ne_zero, and_self, true_or, or_true, Nat.reduceEqDiff, or_self, or_false, false_or, k6, r0, k7, c16]
            rw [E_56_2]
            simp only [↓reduceIte, q_i, q_l, q_k, q_r, q_z, q_si, q_sl, jx_lt, jx_ri, jx_rl, jx_rv, if_true, if_false, Nat.reduceLeDiff, Nat.add_one_ne_zero, and_self, true_or, or_true, Nat.reduceEqDiff, or_self, or_false, false_or, k6, r0, k7, c17]
            rw [E_56_3]
            simp only [↓reduceIte, q_i, q_l, q_k, q_r, q_z, q_si, q_sl, jx_lt, jx_ri, jx_rl, jx_rv, if_true, if_false, Nat.reduceLeDiff, Nat.add_one_ne_zero, and_self, true_or, or_true, Nat.reduceEqDiff, or_self, or_false, false_or, k6, r0, k7, c18]
            rw [E_56_4, E_56_5, if_pos rfl]
            simp only [↓reduceIte, q_i, q_l, q_k, q_r, q_z, q_si, q_sl, jx_lt, jx_ri, jx_rl, jx_rv, if_true, if_false, Nat.reduceLeDiff, Nat.add_one_ne_zero, and_self, true_or, or_true, Nat.reduceEqDiff, or_self, or_false, false_or, k6, c51 hr]
            rfl
          · rw [b221]
            simp only [↓reduceIte, q_i, q_l, q_k, q_r, q_z, q_si, q_sl, jx_lt, jx_ri, jx_rl, jx_rv, if_true, if_false, Nat.reduceLeDiff, Nat.add_one_ne_zero, and_self, true_or, or_true, Nat.reduceEqDiff, or_self, or_false, false_or, m45]
            rw [E_221_1]
            simp only [↓reduceIte, q_i, q_l, q_k, q_r, q_z, q_si, q_sl, jx_lt, jx_ri, jx_rl, jx_rv, if_true, if_false, Nat.reduceLeDiff, Nat.add_one_ne_zero, and_self, true_or, or_true, Nat.reduceEqDiff, or_self, or_false, false_or, mo_k hm, m46]
            rw [E_221_2]
            simp only [↓reduceIte, q_i, q_l, q_k, q_r, q_z, q_si, q_sl, jx_lt, jx_ri, jx_rl, jx_rv, if_true, if_false, Nat.reduceLeDiff, Nat.add_one_ne_zero, and_self, true_or, or_true, Nat.reduceEqDiff, or_self, or_false, false_or, mo_k hm, m47]
            rw [E_221_3, E_221_4, if_pos rfl]
            simp only [↓reduceIte, q_i, q_l, q_k, q_r, q_z, q_si, q_sl, jx_lt, jx_ri, jx_rl, jx_rv, if_true, if_false, Nat.reduceLeDiff, Nat.add_one_ne_zero, and_self, true_or, or_true, Nat.reduceEqDiff, or_self, or_false, false_or, mo_k hm, m203 hm g3.2.2.1]
            rw [E_221_5]
            simp only [↓reduceIte, q_i, q_l, q_k, q_r, q_z, q_si, q_sl, jx_lt, jx_ri, jx_rl, jx_rv, if_true, if_false, Nat.reduceLeDiff, Nat.add_one_ne_zero, and_self, true_or, or_true, Nat.reduceEqDiff, or_self, or_false, false_or, mo_k hm, z202 hm h51, h51]
            rfl
  · right
    have h5 := fa_5 fa
    refine ⟨I', L1, J', K1, fin0 _ _ ?_, ?_, fa⟩
    · simp only [D_56, E_56_0, ↓reduceIte, q_i, q_l, q_k, q_r, q_z, q_si, q_sl, jx_lt, jx_ri, jx_rl, jx_rv, if_true, if_false, Nat.reduceLeDiff, Nat.add_one_ne_zero, and_self, true_or, or_true, Nat.reduceEqDiff, or_self, or_false, false_or, k6, h71]
    · have z204' := fun m => z204 (J := J') (K := K1) hm h5 m
      rw [D_221, E_221_0]
      simp only [↓reduceIte, q_i, q_l, q_k, q_r, q_z, q_si, q_sl, jx_lt, jx_ri, jx_rl, jx_rv, if_true, if_false, Nat.reduceLeDiff, Nat.add_one_ne_zero, and_self, true_or, or_true, Nat.reduceEqDiff, or_self, or_false, false_or, mo_k hm, h4, hf0, mf_k hf, hE3, e212, h213, z204']
      rw [E_221_1]
      simp only [↓reduceIte, q_i, q_l, q_k, q_r, q_z, q_si, q_sl, jx_lt, jx_ri, jx_rl, jx_rv, if_true, if_false, Nat.reduceLeDiff, Nat.add_one_ne_zero, and_self, true_or, or_true, Nat.reduceEqDiff, or_self, or_false, false_or, mo_k hm, z204']
      rw [E_221_2]
      simp only [↓reduceIte, q_i, q_l, q_k, q_r, q_z, q_si, q_sl, jx_lt, jx_ri, jx_rl, jx_rv, if_true, if_false, Nat.reduceLeDiff, Nat.add_one_ne_zero, and_self, true_or, or_true, Nat.reduceEqDiff, or_self, or_false, false_or, mo_k hm, z204']
      rw [E_221_3, E_221_4, if_pos rfl]
      simp only [↓reduceIte, q_i, q_l, q_k, q_r, q_z, q_si, q_sl, jx_lt, jx_ri, jx_rl, jx_rv, if_true, if_false, Nat.reduceLeDiff, Nat.add_one_ne_zero, and_self, true_or, or_true, Nat.reduceEqDiff, or_self, or_false, false_or, mo_k hm, z203 hm h5]
      rw [E_221_5]
      simp only [↓reduceIte, q_i, q_l, q_k, q_r, q_z, q_si, q_sl, jx_lt, jx_ri, jx_rl, jx_rv, if_true, if_false, Nat.reduceLeDiff, Nat.add_one_ne_zero, and_self, true_or, or_true, Nat.reduceEqDiff, or_self, or_false, false_or, mo_k hm, z202 hm h5, h5]
end PT
