/-! READING: the line of an owner, both sides -/
section POw
variable {s s2 : qS} {t f n : Nat} {b : Nat → Nat} {I0 J0 I J I' J' : qI} {L0 K0 L K : qL} {Z : qI → qL → qI → qL → Prop} {C C' : Nat → Nat} {p c : Nat} {kc kr v : Int32} {x : Int64} {R : (Nat → Nat → Int32) → Prop}
theorem go_endn (cx : qCx s s2 t f n b I0 J0) (g : qGo (qZn t f c kc v x R C) t f n I0 L0 J0 K0 I L J K) (hc : c = C 3 + C 5 + C 8) (hI : ∀ a, ¬ (t ≤ a ∧ a < t + 39) → I' a = I a) (hJ : ∀ a, ¬ (f ≤ a ∧ a < f + 24) → J' a = J a) (h13 : J' f 13 = w (c + 1)) (h22 : J' (f + 22) = q_set (J (f + 22)) c kr) (h23 : J' (f + 23) = q_set (J (f + 23)) c v) (hs : C' 3 + C' 5 + C' 8 = c + 1) (m3 : C 3 ≤ C' 3) (m5 : C 5 ≤ C' 5) (m8 : C 8 ≤ C' 8) (nk : qNk (C' 3) (C' 5) (C' 8) kc kr v) (hfy : qFy (qd I' t) (qme J' f) C') : qGo (qZp t f 0 C') t f n I0 L0 J0 K0 I' L J' (q_mK K f c x) := by
  have ht : t = 101 ∨ t = 140 := cx.1.2.2.2.2.2.2.2.2.2.2.2.2.2.2
  have hz5 := g.2.2.2.2
  obtain ⟨n1, n2, n3, n4, n5⟩ := hz5.1.1
  rw [← hc] at n1 n3 n4 n5
  have hK21 : q_mK K f c x (f + 21) = q_setl (K (f + 21)) c x := if_pos rfl
  refine go_put cx g hI hJ (fun a ha => upl_ne (by omega)) ⟨c + 1, by omega, h13⟩ ⟨?_, hfy⟩
  rw [hs]
  refine ⟨by omega, by omega, ?_, h13, fun i hi => ?_⟩
  · rw [hI 181 (by omega), show 11 + (c + 1) + 0 = 11 + c + 1 by omega]; exact n3
  · rw [hK21, h22, h23, hI (183 + 1) (by omega), hI (185 + 1) (by omega)]
    by_cases ci : i = c
    · obtain ⟨z1, z2, z3, z4, -⟩ := hz5
      have e1 : q_setl (K (f + 21)) c x i = x := if_pos ci
      rw [e1, ci, q_set_eq, q_set_eq, z2, z3]
      exact ⟨z4, rfl, nk⟩
    · obtain ⟨m1, m2, m4⟩ := n5 i (by omega)
      have e1 : q_setl (K (f + 21)) c x i = K (f + 21) i := if_neg ci
      rw [e1, q_set_ne ci, q_set_ne ci]
      exact ⟨m1, m2, nk_mono m3 m5 m8 m4⟩
theorem mI_f {k v' : Int32} : q_mI J f c k v' f = q_set (J f) 13 (w (c + 1)) := q_up_eq
theorem mI_o {k v' : Int32} {a : Nat} (h1 : a ≠ f) (h2 : a ≠ f + 22) (h3 : a ≠ f + 23) : q_mI J f c k v' a = J a := by
  unfold q_mI
  rw [q_up_ne h1, q_up_ne h3, q_up_ne h2]
theorem mI_22 {k v' : Int32} : q_mI J f c k v' (f + 22) = q_set (J (f + 22)) c k := by
  unfold q_mI
  rw [q_up_ne (by omega), q_up_ne (by omega), q_up_eq]
theorem mI_23 {k v' : Int32} : q_mI J f c k v' (f + 23) = q_set (J (f + 23)) c v' := by
  unfold q_mI
  rw [q_up_ne (by omega), q_up_eq]
theorem line_own (cx : qCx s s2 t f n b I0 J0) (h : qGo (qZp t f 0 C) t f n I0 L0 J0 K0 I L J K) (hk : I 187 4 = 1) (h0 : C 0 ≠ 0) (h8 : C 8 < 6) : qLine C (jd 53 7 [some (.ref 181), none, some (.int 8), none, none] [] (I, L, s)) (jD 227 [.ref 240] (J, K, s2)) s s2 t f n I0 L0 J0 K0 := by
  obtain ⟨hr, hn, -, hm, h4, hf, hf0, hf9, -, -, htx⟩ := id cx
  obtain ⟨k6, r0, r1, r2, r3, r5, k182, z182, row2, row3, k7, r7, rt, hfl, ht⟩ := id hr
  have t0 : ¬ t = 0 := by omega
  have r13 := fl_k hfl (k := 13) (n := 6) (by omega) rfl
  obtain ⟨I1, L1, J1, K1, e1, d1, g1, -⟩ := go_next cx (zp_stab ht hf9) h (by rw [hk]; decide) (by rw [hk]; decide)
  have l0 : C 0 ≤ 20 := (h.2.2.2.2.2.1.1 0 (by omega)).2
  have l3 : C 3 ≤ 8 := (h.2.2.2.2.2.1.1 3 (by omega)).2
  have l5 : C 5 ≤ 6 := (h.2.2.2.2.2.1.1 5 (by omega)).2
  obtain ⟨c, hc⟩ : ∃ c, c = C 3 + C 5 + C 8 := ⟨_, rfl⟩
  have hE0 : J f 0 ≠ 0 := by
    rw [zp_m h.2.2.2.2 (by omega)]
    exact fun z => h0 ((w_zero (by omega)).mp z)
  have hE8 : J f 8 = w (C 8) := zp_m h.2.2.2.2 (by omega)
  have hI8 : qd I1 t 0 8 = w (C 8) := (g1.2.2.2.2.2.1.1 8 (by omega)).1
  have e212 := m212_go (J := J) (K := K) (x := w (C 8)) (y := 6) hm h4 hf hf0 (fun z => by
    have := (w_eq (a := C 8) (b := 6) (by omega) (by omega)).mp z
    omega) hE0 d1
  have cl : jd 53 7 [some (.ref 181), none, some (.int 8), none, none] [] (I, L, s) = jd 53 15 [some (.ref 181), none, some (.int 8), none, none] [] (I1, L1, s) := by
    rw [E_53_7_8]
    simp only [↓reduceIte, q_i, q_l, q_k, q_r, q_z, q_si, q_sl, jx_lt, jx_ri, jx_rl, jx_rv, if_true, if_false, Nat.reduceLeDiff, Nat.add_one_ne_zero, and_self, true_or, or_true, Nat.reduceEqDiff, or_self, or_false, false_or, k6, r0, k7, e1]
  have fin0 : ∀ I' L', jD 64 [.ref 181, .int (w (C 8))] (I1, L1, s) = some (some (.int 0), I', L', s) → jd 53 7 [some (.ref 181), none, some (.int 8), none, none] [] (I, L, s) = some (some (.int 0), I', L', s) := fun I' L' e => by
    rw [cl, E_53_15]
    simp only [↓reduceIte, q_i, q_l, q_k, q_r, q_z, q_si, q_sl, jx_lt, jx_ri, jx_rl, jx_rv, if_true, if_false, Nat.reduceLeDiff, Nat.add_one_ne_zero, and_self, true_or, or_true, Nat.reduceEqDiff, or_self, or_false, false_or, k6, r5, t0, hfl.1, owners_eq hfl, hI8, e]
    exact end_no
  have hna : qNa (C 3) (C 5) (C 8) c 0 f I1 L1 J1 K1 := by rw [hc]; exact g1.2.2.2.2.1
  rcases go_new cx g1 hna (show c < 20 by omega) 8 (w (C 8)) with ⟨cs, h71, h213⟩ | ⟨x, I', J', h71, h213, fa⟩
  · have gn := go_nm (Z' := qZn t f c 8 (w (C 8)) (L1 187 5) (fun _ => True) C) cx g1 (m := 11 + c) (by omega) (zn_new ht g1.2.2.2.2 hc (by omega) trivial)
    have s187 : q_nI I1 (11 + c) 8 (w (C 8)) 187 = I1 187 := by
      unfold q_nI
      rw [q_up_ne (by decide), q_up_ne (by decide), q_up_ne (by decide)]
    obtain ⟨I3, L3, J3, K3, e3, d3, g3, -⟩ := go_next cx (zn_stab ht hf9) gn (by rw [s187, cs]; decide) (by rw [s187, cs]; decide)
    have e71 := h71 _ _ e3
    have d213 := h213 _ _ d3
    generalize hx : L1 187 5 = x at gn g3 d213
    have hna3 : qNa (C 3) (C 5) (C 8) c 1 f I3 L3 J3 K3 := by rw [hc]; exact g3.2.2.2.2.1.1
    rcases go_hall (c := c) (p := 1) cx (zn_stab ht hf9) g3 hna3 l3 (zp_st g3.2.2.2.2.1) (fun _ => by rw [g3.2.2.2.2.2.1]; decide) with ⟨a, I4, L4, J4, K4, ha, b7, b8, g4, fI4, fJ4⟩ | ⟨y, I4, L4, J4, K4, b7, b8, fa⟩
    · left
      have m2 : ¬ w a = (-1 : Int32) := w_m1 (by omega)
      have hz4 := g4.2.2.2.2
      have hJ8 : J4 f 8 = w (C 8) := zp_m hz4.1 (by omega)
      have n4 : J4 f 13 = w c := by rw [hc]; exact hz4.1.1.2.2.2.1
      obtain ⟨C', cC, cO⟩ : ∃ C' : Nat → Nat, C' 8 = C 8 + 1 ∧ ∀ k, k ≠ 8 → C' k = C k := ⟨fun k => if k = 8 then C 8 + 1 else C k, rfl, fun k hk3 => if_neg hk3⟩
      obtain ⟨Ia, hIa⟩ : ∃ Ia, Ia = q_up I4 (t + 1 + 2 * 13 + 1) (q_set (I4 (t + 1 + 2 * 13 + 1)) (C 8) (w a)) := ⟨_, rfl⟩
      obtain ⟨Ja, hJa⟩ : ∃ Ja, Ja = q_up (q_up (q_mI J4 f c 2 (w (C 8))) (f + 14) (q_set (J4 (f + 14)) (C 8) (w a))) f (q_set (q_set (J4 f) 13 (w (c + 1))) 8 (w (C 8 + 1))) := ⟨_, rfl⟩
      have iz : Ia (t + 2) = I4 (t + 2) := by rw [hIa, q_up_ne (by omega)]
      have hIa8 : Ia (t + 2) 8 = w (C 8) := by rw [iz]; exact (zp_f hz4.1 (by omega)).1
      obtain ⟨Ib, hIb⟩ : ∃ Ib, Ib = q_up Ia (t + 2) (q_set (Ia (t + 2)) 8 (w (C 8 + 1))) := ⟨_, rfl⟩
      have ib : ∀ a, a ≠ t + 2 → a ≠ t + 1 + 2 * 13 + 1 → Ib a = I4 a := fun a u x => by rw [hIb, q_up_ne u, hIa, q_up_ne x]
      have ibz : Ib (t + 2) = q_set (I4 (t + 2)) 8 (w (C 8 + 1)) := by rw [hIb, q_up_eq, iz]
      have ib13 : Ib (t + 1 + 2 * 13 + 1) = q_set (I4 (t + 1 + 2 * 13 + 1)) (C 8) (w a) := by rw [hIb, q_up_ne (by omega), hIa, q_up_eq]
      have j0 : ∀ a, a ≠ f → a ≠ f + 14 → a ≠ f + 22 → a ≠ f + 23 → Ja a = J4 a := fun a x y z u => by rw [hJa, q_up_ne x, q_up_ne y, mI_o x z u]
      have jf : Ja f = q_set (q_set (J4 f) 13 (w (c + 1))) 8 (w (C 8 + 1)) := by rw [hJa, q_up_eq]
      have j14 : Ja (f + 14) = q_set (J4 (f + 14)) (C 8) (w a) := by rw [hJa, q_up_ne (by omega), q_up_eq]
      have j22 : Ja (f + 22) = q_set (J4 (f + 22)) c 2 := by rw [hJa, q_up_ne (by omega), q_up_ne (by omega), mI_22]
      have j23 : Ja (f + 23) = q_set (J4 (f + 23)) c (w (C 8)) := by rw [hJa, q_up_ne (by omega), q_up_ne (by omega), mI_23]
      refine ⟨C', Ib, L4, Ja, q_mK K4 f c x, ?_, ?_, ?_, ?_⟩
      · have e64 : jD 64 [.ref 181, .int (w (C 8))] (I1, L1, s) = some (some (.int 1), Ia, L4, s) := by
          rw [D_64, E_64_0]
          simp only [↓reduceIte, q_i, q_l, q_k, q_r, q_z, q_si, q_sl, jx_lt, jx_ri, jx_rl, jx_rv, if_true, if_false, Nat.reduceLeDiff, Nat.add_one_ne_zero, and_self, true_or, or_true, Nat.reduceEqDiff, or_self, or_false, false_or, k6, e71, show ¬ (1 : Int32) = 0 by decide, b7]
          rw [E_64_2, if_neg m2, E_64_3]
          simp only [↓reduceIte, q_i, q_l, q_k, q_r, q_z, q_si, q_sl, jx_lt, jx_ri, jx_rl, jx_rv, if_true, if_false, Nat.reduceLeDiff, Nat.add_one_ne_zero, and_self, true_or, or_true, Nat.reduceEqDiff, or_self, or_false, false_or, k6, r5, t0, hfl.1, r13.1, r13.2.1, put_eq r13.2, q_put_w (n := 6) (k := C 8) (by omega) h8]
          rw [hIa]
        rw [cl, E_53_15, hIb]
        simp only [↓reduceIte, q_i, q_l, q_k, q_r, q_z, q_si, q_sl, jx_lt, jx_ri, jx_rl, jx_rv, if_true, if_false, Nat.reduceLeDiff, Nat.add_one_ne_zero, and_self, true_or, or_true, Nat.reduceEqDiff, or_self, or_false, false_or, k6, r5, t0, hfl.1, owners_eq hfl, hI8, e64]
        exact end_ok hr (x := 8) (by omega) (by omega) hIa8
      · have o2 : ∀ k v', q_mI J4 f c k v' (f + 14) = J4 (f + 14) := fun k v' => mI_o (by omega) (by omega) (by omega)
        have o3 : ∀ g, q_up (q_mI J4 f c 2 (w (C 8))) (f + 14) g f = q_set (J4 f) 13 (w (c + 1)) := fun g => by rw [q_up_ne (by omega), mI_f]
        have o4 : q_set (J4 f) 13 (w (c + 1)) 8 = w (C 8) := by rw [q_set_ne (by omega)]; exact hJ8
        rw [D_227, E_227_0]
        simp only [↓reduceIte, q_i, q_l, q_k, q_r, q_z, q_si, q_sl, jx_lt, jx_ri, jx_rl, jx_rv, if_true, if_false, Nat.reduceLeDiff, Nat.add_one_ne_zero, and_self, true_or, or_true, Nat.reduceEqDiff, or_self, or_false, false_or, mo_k hm, h4, hf0, mf_k hf, hE8, e212, d213, b8, g4.2.2.1]
        rw [E_227_1]
        simp only [↓reduceIte, q_i, q_l, q_k, q_r, q_z, q_si, q_sl, jx_lt, jx_ri, jx_rl, jx_rv, if_true, if_false, Nat.reduceLeDiff, Nat.add_one_ne_zero, and_self, true_or, or_true, Nat.reduceEqDiff, or_self, or_false, false_or, mo_k hm, h4, hf0, mf_k hf, hJ8, m214 hm h4 hf hf0 (show c < 20 by omega) n4, mf_r27 hf, mf_k27 hf, mf_z27 hf, Nat.add_eq_zero_iff, and_false, mI_f, o2, o3, o4, w_nn (a := C 8) (by omega), show ¬ 6 ≤ C 8 by omega, w_tc (a := C 8) (by omega), w_inc]
        rw [hJa]
      · refine go_endn cx g4 hc (fun a ha => ib a (by omega) (by omega)) (fun a ha => j0 a (by omega) (by omega) (by omega) (by omega)) ?_ j22 j23 (by rw [cC, cO 3 (by omega), cO 5 (by omega)]; omega) (by rw [cO 3 (by omega)]; exact Nat.le_refl _) (by rw [cO 5 (by omega)]; exact Nat.le_refl _) (by omega) (Or.inr (Or.inr ⟨rfl, rfl, C 8, by omega, rfl⟩)) ?_
        · rw [jf, q_set_ne (by omega), q_set_eq]
        · refine fy_own (a := a) hz4.1.2 h0 h8 cC cO (fun k z => qd_of fun hk => ib _ (by omega) (by omega)) (fun k z => me_of fun hk => j0 _ (by omega) (by omega) (by omega) (by omega)) (fun k a1 => ?_) ?_ (fun k a1 => ?_) ?_ ha (fun i => ?_) (fun i => ?_)
          · rw [qd_at (by omega), qd_at (by omega)]
            exact (congrFun ibz k).trans (q_set_ne a1)
          · rw [qd_at (by omega)]
            exact (congrFun ibz 8).trans q_set_eq
          · rw [me_at (by omega), me_at (by omega)]
            exact (congrFun jf k).trans ((q_set_ne a1.1).trans (q_set_ne a1.2))
          · rw [me_at (by omega)]
            exact (congrFun jf 8).trans q_set_eq
          · rw [qd_at (by omega), qd_at (by omega), ib13]; rfl
          · rw [me_at (by omega), me_at (by omega), j14]; rfl
      · exact mu_up (x := 8) (by omega) (by omega) h0 cC cO
    · right
      have h5 := fa_5 fa
      refine ⟨I4, L4, J4, K4, fin0 _ _ ?_, ?_, fa⟩
      · rw [D_64, E_64_0]
        simp only [↓reduceIte, q_i, q_l, q_k, q_r, q_z, q_si, q_sl, jx_lt, jx_ri, jx_rl, jx_rv, if_true, if_false, Nat.reduceLeDiff, Nat.add_one_ne_zero, and_self, true_or, or_true, Nat.reduceEqDiff, or_self, or_false, false_or, k6, e71, show ¬ (1 : Int32) = 0 by decide, b7]
        rw [E_64_2, if_pos rfl, if_pos (Or.inl rfl)]
      · rw [D_227, E_227_0]
        simp only [↓reduceIte, q_i, q_l, q_k, q_r, q_z, q_si, q_sl, jx_lt, jx_ri, jx_rl, jx_rv, if_true, if_false, Nat.reduceLeDiff, Nat.add_one_ne_zero, and_self, true_or, or_true, Nat.reduceEqDiff, or_self, or_false, false_or, mo_k hm, h4, hf0, mf_k hf, hE8, e212, d213, b8, h5]
  · right
    have h5 := fa_5 fa
    obtain ⟨c', hc', h13⟩ := fa_c fa
    refine ⟨I', L1, J', K1, fin0 _ _ ?_, ?_, fa⟩
    · rw [D_64, E_64_0]
      simp only [↓reduceIte, q_i, q_l, q_k, q_r, q_z, q_si, q_sl, jx_lt, jx_ri, jx_rl, jx_rv, if_true, if_false, Nat.reduceLeDiff, Nat.add_one_ne_zero, and_self, true_or, or_true, Nat.reduceEqDiff, or_self, or_false, false_or, k6, h71]
      rw [E_64_1, E_64_2, if_pos rfl, if_pos (Or.inl rfl)]
    · rw [D_227, E_227_0]
      simp only [↓reduceIte, q_i, q_l, q_k, q_r, q_z, q_si, q_sl, jx_lt, jx_ri, jx_rl, jx_rv, if_true, if_false, Nat.reduceLeDiff, Nat.add_one_ne_zero, and_self, true_or, or_true, Nat.reduceEqDiff, or_self, or_false, false_or, mo_k hm, h4, hf0, mf_k hf, hE8, e212, h213, z217 hm h4 hf hf0 hc' h13 h5, h5]
end POw
