/-! FLIGHT, the reference -/
/-- where the reference begins to read -/
def qJb (J : qI) (f n : Nat) : qI := q_up (q_up (q_zI (q_up J 240 (q_set (q_set (q_set (q_set (q_set (J 240) 0 0) 7 (w n)) 6 0) 8 0) 13 0)) f 23) (f + 2) (fun k => if k < 64 then -1 else 0)) 240 (q_set (q_set (q_set (q_set (q_set (q_set (J 240) 0 0) 7 (w n)) 6 0) 8 0) 13 0) 9 0)
section MFi
variable {J J' : qI} {K K' : qL} {s s2 : qS} {f n T : Nat}
theorem jb_o (hf : 260 ≤ f) {a : Nat} (h : a ≠ 240) (ha : ¬ (f ≤ a ∧ a < f + 24)) : qJb J f n a = J a := by
  unfold qJb
  rw [q_up_ne h, q_up_ne (by omega)]
  show (if f ≤ a ∧ a ≤ f + 23 then fun _ => 0 else q_up J 240 _ a) = _
  rw [if_neg (by omega), q_up_ne h]
theorem jb_240 : qJb J f n 240 = q_set (q_set (q_set (q_set (q_set (q_set (J 240) 0 0) 7 (w n)) 6 0) 8 0) 13 0) 9 0 := q_up_eq
theorem jb_f (hf : 260 ≤ f) {k : Nat} (hk : k < 24) : qJb J f n (f + k) = fun i => if k = 2 ∧ i < 64 then -1 else 0 := by
  unfold qJb
  rw [q_up_ne (by omega)]
  by_cases c : k = 2
  · subst c
    rw [q_up_eq]
    funext i
    by_cases c2 : i < 64
    · rw [if_pos c2, if_pos ⟨rfl, c2⟩]
    · rw [if_neg c2, if_neg (fun z => c2 z.2)]
  · rw [q_up_ne (by omega)]
    show (if f ≤ f + k ∧ f + k ≤ f + 23 then fun _ => 0 else q_up J 240 _ (f + k)) = _
    rw [if_pos (by omega)]
    funext i
    rw [if_neg (fun z => c z.1)]
theorem zL_o {a : Nat} (ha : ¬ (f ≤ a ∧ a < f + 24)) : q_zL K f 23 a = K a := by
  show (if f ≤ a ∧ a ≤ f + 23 then fun _ => 0 else K a) = _
  rw [if_neg (by omega)]
theorem m232_y (hm : qMo s 240) (hn : qn s = f) (hf : 260 ≤ f) (h6 : J 240 6 = w T) (hnT : n ≤ T) (hT : T ≤ 1100) {J4 : qI} {K4 : qL} (h202 : jD 202 [.ref 240] (qJb J f n, q_zL K f 23, q_nF s f) = some (none, J4, K4, q_nF s f)) (h218 : jD 218 [.ref 240] (J4, K4, q_nF s f) = some (none, J', K', q_nF s f)) : jD 232 [.ref 240, .int (w n)] (J, K, s) = if J' 240 13 ≤ 0 then jd 232 3 [some (.ref 240), none, none, none] [] (J', K', q_nF s f) else some (some (.int (-1)), q_up J' 240 (q_set (q_set (J' 240) 1 4) 2 (J' 240 14)), K', q_nF s f) := by
  have hk := mo_k hm
  have e6 : q_set (J 240) 0 0 6 = w T := by rw [q_set_ne (by decide)]; exact h6
  have hle : w n ≤ w T := w_le' hnT (by omega)
  have f0 : ¬ f = 0 := by omega
  have kz : qk (q_zs s f 23) 240 = 13 := (nF_k (s := s) (f := f) (by omega)).trans hk
  have kF : qk (q_nF s f) 240 = 13 := (nF_k (by omega)).trans hk
  have hz : ∀ g h, q_up (q_zI (q_up J 240 g) f 23) (f + 2) h 240 = g := fun g h => by
    rw [q_up_ne (by omega)]
    show (if f ≤ 240 ∧ 240 ≤ f + 23 then fun _ => 0 else q_up J 240 g 240) = _
    rw [if_neg (by omega), q_up_eq]
  have a0 : ∀ I : qI, jm_new (I, K, s) 12 0 37 = q_fM I K s f 0 := fun I => al_0 hn
  have an : ∀ I : qI, jm_n (I, K, s) = f := fun I => hn
  have ak : ∀ I : qI, jm_k (q_fM I K s f 0) f = 12 := fun I => if_pos rfl
  have ep : q_ptr (q_zs s f 23) 240 4 f = q_nF s f := rfl
  have h202' : jD 202 [.ref 240] (q_up (q_up (q_zI (q_up J 240 (q_set (q_set (q_set (q_set (q_set (J 240) 0 0) 7 (w n)) 6 0) 8 0) 13 0)) f 23) (f + 2) (fun k => if k < 64 then -1 else 0)) 240 (q_set (q_set (q_set (q_set (q_set (q_set (J 240) 0 0) 7 (w n)) 6 0) 8 0) 13 0) 9 0), q_zL K f 23, q_nF s f) = some (none, J4, K4, q_nF s f) := h202
  have e14 : q_set (J' 240) 1 4 14 = J' 240 14 := q_set_ne (by decide)
  rw [D_232, E_232_0]
  simp only [↓reduceIte, q_i, q_l, q_k, q_r, q_z, q_si, q_sl, jx_lt, jx_ri, jx_rl, jx_rv, if_true, if_false, Nat.reduceLeDiff, Nat.add_one_ne_zero, and_self, true_or, or_true, Nat.reduceEqDiff, or_self, or_false, false_or, hk, q_up_eq, w_nn (show n < 2147483648 by omega), e6, hle]
  rw [E_232_2]
  simp only [↓reduceIte, q_i, q_l, q_k, q_r, q_z, q_si, q_sl, jx_lt, jx_ri, jx_rl, jx_rv, if_true, if_false, Nat.reduceLeDiff, Nat.add_one_ne_zero, and_self, true_or, or_true, Nat.reduceEqDiff, or_self, or_false, false_or, hk, q_up_eq, q_up_up, a0, an, ak, m184, f0, q_sr, ep, kz, kF, hz, h202', h218, e14]
end MFi
section MFj
variable {J : qI} {K : qL} {s : qS} {f : Nat}
theorem m232_3 (hm : qMo s 240) (h4 : qr s 240 4 = f) (hfm : qMf s f) (hf : 260 ≤ f) : ∃ V, jd 232 3 [some (.ref 240), none, none, none] [] (J, K, s) = some (some (.int (J f 5)), mG (q_up (q_up J (240 + 2) V) 240 (q_set (q_set (J 240) 19 0) 20 0)) 240 0, K, q_ptr s 240 3 f) ∧ V 48 = 0 ∧ ∀ u, u < 6 → V u = J (f + 5) u ∧ V (6 + u) = J (f + 7) u ∧ V (12 + u) = J (f + 8) u ∧ ∀ i, i < 5 → V (18 + 5 * u + i) = J (f + 9) (5 * u + i) := by
  have f0 : ¬ f = 0 := by omega
  have hm' : qMo (q_ptr s 240 3 f) 240 := mo_pt (Or.inl rfl) hm
  have hf' : qMf (q_ptr s 240 3 f) f := mf_pt (by omega) hfm
  have h3 : qr (q_ptr s 240 3 f) 240 3 = f := ptr_r_eq
  have k0 : qk s 240 = 13 := mo_k hm
  have e0 : jd 232 3 [some (.ref 240), none, none, none] [] (J, K, s) = jd 232 4 [some (.ref 240), none, some (.int 0), none] [] (J, K, q_ptr s 240 3 f) := by
    rw [E_232_3]
    simp only [↓reduceIte, q_i, q_l, q_k, q_r, q_z, q_si, q_sl, jx_lt, jx_ri, jx_rl, jx_rv, if_true, if_false, Nat.reduceLeDiff, Nat.add_one_ne_zero, and_self, true_or, or_true, Nat.reduceEqDiff, or_self, or_false, false_or, k0, h4, f0, q_sr]
  generalize hs' : q_ptr s 240 3 f = s' at hm' hf' h3 e0
  -- the plan is emptied
  obtain ⟨J1, e1, V1, rfl, hV1⟩ := q_loopE (F := fun i J => jd 232 4 [some (.ref 240), none, some (.int (w i)), none] [] (J, K, s')) (n := 49) (P := fun i J1 => ∃ V, J1 = q_up J (240 + 2) V ∧ ∀ k, k < i → V k = 0) (fun i J1 hi ⟨V, hJ, hV⟩ => by
    subst hJ
    refine ⟨q_up J (240 + 2) (q_set V i 0), ?_, _, rfl, fun k hk => ?_⟩
    · show jd 232 4 _ _ _ = jd 232 4 _ _ _
      rw [E_232_4, if_neg (by rw [show (49 : Int32) = w 49 from rfl, w_le (by omega) (by omega)]; omega)]
      simp only [↓reduceIte, q_i, q_l, q_k, q_r, q_z, q_si, q_sl, jx_lt, jx_ri, jx_rl, jx_rv, if_true, if_false, Nat.reduceLeDiff, Nat.add_one_ne_zero, and_self, true_or, or_true, Nat.reduceEqDiff, or_self, or_false, false_or, mo_k hm', mo_r16 hm', mo_k16 hm', mo_z16 hm', w_nn (a := i) (by omega), show ¬ 49 ≤ i by omega, w_tc (a := i) (by omega), q_up_eq, q_up_up, w_inc, show ¬ 240 + 2 = 0 by decide]
    · by_cases c : k = i
      · rw [c, q_set_eq]
      · rw [q_set_ne c]; exact hV k (by omega)) J ⟨J (240 + 2), q_up_self.symm, fun k hk => absurd hk (Nat.not_lt_zero k)⟩
  -- .. and filled
  obtain ⟨J2, e2, V2, rfl, hV2, hV2'⟩ := q_loopE (F := fun u J => jd 232 6 [some (.ref 240), none, some (.int (w u)), none] [] (J, K, s')) (n := 6) (P := fun n J1 => ∃ V, J1 = q_up J (240 + 2) V ∧ V 48 = 0 ∧ ∀ u, u < n → V u = J (f + 5) u ∧ V (6 + u) = J (f + 7) u ∧ V (12 + u) = J (f + 8) u ∧ ∀ i, i < 5 → V (18 + 5 * u + i) = J (f + 9) (5 * u + i)) (fun u J1 hu ⟨V, hJ, hV, hV'⟩ => by
    subst hJ
    have o5 : ∀ V, q_up J (240 + 2) V (f + 5) = J (f + 5) := fun V => q_up_ne (by omega)
    have o7 : ∀ V, q_up J (240 + 2) V (f + 7) = J (f + 7) := fun V => q_up_ne (by omega)
    have o8 : ∀ V, q_up J (240 + 2) V (f + 8) = J (f + 8) := fun V => q_up_ne (by omega)
    have o9 : ∀ V, q_up J (240 + 2) V (f + 9) = J (f + 9) := fun V => q_up_ne (by omega)
    have x0 : (0 : Int32) + w u = w u := by rw [show (0 : Int32) = w 0 from rfl, w_add, Nat.zero_add]
    have x6 : (6 : Int32) + w u = w (6 + u) := by rw [show (6 : Int32) = w 6 from rfl, w_add]
    have x12 : (12 : Int32) + w u = w (12 + u) := by rw [show (12 : Int32) = w 12 from rfl, w_add]
    obtain ⟨W, hW⟩ : ∃ W, W = q_set (q_set (q_set V u (J (f + 5) u)) (6 + u) (J (f + 7) u)) (12 + u) (J (f + 8) u) := ⟨_, rfl⟩
    have a1 : jd 232 6 [some (.ref 240), none, some (.int (w u)), none] [] (q_up J (240 + 2) V, K, s') = jd 232 7 [some (.ref 240), none, some (.int (w u)), some (.int (w 0))] [] (q_up J (240 + 2) W, K, s') := by
      rw [E_232_6, if_neg (by rw [show (6 : Int32) = w 6 from rfl, w_le (by omega) (by omega)]; omega)]
      simp only [↓reduceIte, q_i, q_l, q_k, q_r, q_z, q_si, q_sl, jx_lt, jx_ri, jx_rl, jx_rv, if_true, if_false, Nat.reduceLeDiff, Nat.add_one_ne_zero, and_self, true_or, or_true, Nat.reduceEqDiff, or_self, or_false, false_or, mo_k hm', mo_r16 hm', mo_k16 hm', mo_z16 hm', h3, f0, mf_k hf', mf_r18 hf', mf_k18 hf', mf_z18 hf', mf_r20 hf', mf_k20 hf', mf_z20 hf', mf_r21 hf', mf_k21 hf', mf_z21 hf', Nat.add_eq_zero_iff, and_false, x0, x6, x12, w_nn (a := u) (by omega), show ¬ 6 ≤ u by omega, w_tc (a := u) (by omega), w_nn (a := u) (by omega), show ¬ 49 ≤ u by omega, w_nn (a := 6 + u) (by omega), show ¬ 49 ≤ 6 + u by omega, w_tc (a := 6 + u) (by omega), w_nn (a := 12 + u) (by omega), show ¬ 49 ≤ 12 + u by omega, w_tc (a := 12 + u) (by omega), q_up_eq, q_up_up, o5, o7, o8]
      rw [← hW]
      rfl
    obtain ⟨J3, e3, V3, rfl, h31, h32⟩ := q_loopE (F := fun i J => jd 232 7 [some (.ref 240), none, some (.int (w u)), some (.int (w i))] [] (J, K, s')) (n := 5) (P := fun n J1 => ∃ V, J1 = q_up J (240 + 2) V ∧ (∀ i, i < n → V (18 + 5 * u + i) = J (f + 9) (5 * u + i)) ∧ ∀ k, (k < 18 + 5 * u ∨ 18 + 5 * u + 5 ≤ k) → V k = W k) (fun i J1 hi ⟨V, hJ, h1, h2⟩ => by
      subst hJ
      have y1 : (5 : Int32) * w u + w i = w (5 * u + i) := ix5
      have y2 : (18 : Int32) + (5 : Int32) * w u + w i = w (18 + 5 * u + i) := by rw [show (18 : Int32) = w 18 from rfl, show (5 : Int32) = w 5 from rfl, w_mul, w_add, w_add]
      refine ⟨q_up J (240 + 2) (q_set V (18 + 5 * u + i) (J (f + 9) (5 * u + i))), ?_, _, rfl, fun j hj => ?_, fun k hk => ?_⟩
      · show jd 232 7 _ _ _ = jd 232 7 _ _ _
        rw [E_232_7, if_neg (by rw [show (5 : Int32) = w 5 from rfl, w_le (by omega) (by omega)]; omega)]
        simp only [↓reduceIte, q_i, q_l, q_k, q_r, q_z, q_si, q_sl, jx_lt, jx_ri, jx_rl, jx_rv, if_true, if_false, Nat.reduceLeDiff, Nat.add_one_ne_zero, and_self, true_or, or_true, Nat.reduceEqDiff, or_self, or_false, false_or, mo_k hm', mo_r16 hm', mo_k16 hm', mo_z16 hm', h3, f0, mf_k hf', mf_r22 hf', mf_k22 hf', mf_z22 hf', Nat.add_eq_zero_iff, and_false, y1, y2, w_nn (a := 5 * u + i) (by omega), show ¬ 30 ≤ 5 * u + i by omega, w_tc (a := 5 * u + i) (by omega), w_nn (a := 18 + 5 * u + i) (by omega), show ¬ 49 ≤ 18 + 5 * u + i by omega, w_tc (a := 18 + 5 * u + i) (by omega), q_up_eq, q_up_up, o9, w_inc]
      · by_cases c : j = i
        · rw [c, q_set_eq]
        · rw [q_set_ne (by omega)]; exact h1 j (by omega)
      · rw [q_set_ne (by omega)]; exact h2 k hk) (q_up J (240 + 2) W) ⟨W, rfl, fun i hi => absurd hi (Nat.not_lt_zero i), fun _ _ => rfl⟩
    refine ⟨_, a1.trans (e3.trans ?_), V3, rfl, ?_, fun x hx => ?_⟩
    · show jd 232 7 [some (.ref 240), none, some (.int (w u)), some (.int (w 5))] [] _ = jd 232 6 _ _ _
      rw [E_232_7, if_pos (by decide), E_232_8, w_inc]
    · rw [h32 48 (by omega), hW, q_set_ne (by omega), q_set_ne (by omega), q_set_ne (by omega)]; exact hV
    · by_cases c : x = u
      · subst c
        refine ⟨?_, ?_, ?_, h31⟩
        · rw [h32 x (by omega), hW, q_set_ne (by omega), q_set_ne (by omega), q_set_eq]
        · rw [h32 (6 + x) (by omega), hW, q_set_ne (by omega), q_set_eq]
        · rw [h32 (12 + x) (by omega), hW, q_set_eq]
      · obtain ⟨b1, b2, b3, b4⟩ := hV' x (by omega)
        refine ⟨?_, ?_, ?_, fun i hi => ?_⟩
        · rw [h32 x (by omega), hW, q_set_ne (by omega), q_set_ne (by omega), q_set_ne (by omega)]; exact b1
        · rw [h32 (6 + x) (by omega), hW, q_set_ne (by omega), q_set_ne (by omega), q_set_ne (by omega)]; exact b2
        · rw [h32 (12 + x) (by omega), hW, q_set_ne (by omega), q_set_ne (by omega), q_set_ne (by omega)]; exact b3
        · rw [h32 (18 + 5 * x + i) (by omega), hW, q_set_ne (by omega), q_set_ne (by omega), q_set_ne (by omega)]; exact b4 i hi) (q_up J (240 + 2) V1) ⟨V1, rfl, hV1 48 (by omega), fun u hu => absurd hu (Nat.not_lt_zero u)⟩
  refine ⟨V2, ?_, hV2, hV2'⟩
  rw [e0]
  refine Eq.trans e1 ?_
  show jd 232 4 [some (.ref 240), none, some (.int (w 49)), none] [] _ = _
  rw [E_232_4, if_pos (by decide), E_232_5]
  refine Eq.trans e2 ?_
  show jd 232 6 [some (.ref 240), none, some (.int (w 6)), none] [] _ = _
  have x240 : q_up J (240 + 2) V2 240 = J 240 := q_up_ne (by decide)
  have xf : ∀ g, q_up (q_up J (240 + 2) V2) 240 g f = J f := fun g => by rw [q_up_ne (by omega), q_up_ne (by omega)]
  rw [E_232_6, if_pos (by decide), E_232_9]
  simp only [↓reduceIte, q_i, q_l, q_k, q_r, q_z, q_si, q_sl, jx_lt, jx_ri, jx_rl, jx_rv, if_true, if_false, Nat.reduceLeDiff, Nat.add_one_ne_zero, and_self, true_or, or_true, Nat.reduceEqDiff, or_self, or_false, false_or, mo_k hm', h3, f0, mf_k hf', x240, q_up_eq, q_up_up, xf, mgood_eq hm']
end MFj
