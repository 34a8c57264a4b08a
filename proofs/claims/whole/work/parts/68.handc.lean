/-! HANDINGS: the class -/
def q_gv (D : Nat → Nat → Int32) (u : Nat) : Bool := decide (¬ D 9 u < 0)
def q_nh (D : Nat → Nat → Int32) (u : Nat) : Nat := (D 6 u).toNatClampNeg
def q_nb (D : Nat → Nat → Int32) (u : Nat) : Nat := (D 9 u).toNatClampNeg
theorem shl16 : ∀ b, b < 8 → (1 : Int64) <<< (Int32.toInt64 ((4 : Int32) * w b) &&& 63) = wl (16 ^ b) := by decide +kernel
theorem wl_step {A B p q : Nat} : wl A - wl B + wl p - wl q = wl (A + p) - wl (B + q) := by
  rw [← wl_add, ← wl_add]
  simp only [Int64.sub_eq_add_neg, Int64.neg_add, Int64.add_assoc]
  congr 1
  rw [← Int64.add_assoc, Int64.add_comm (-wl B), Int64.add_assoc]
theorem wl_sub0 {A B : Nat} (hA : A < 9223372036854775808) (hB : B < 9223372036854775808) : wl A - wl B = 0 ↔ A = B := by
  constructor
  · intro h
    have h1 : wl A - wl B + wl B = 0 + wl B := by rw [h]
    rw [Int64.sub_add_cancel, Int64.zero_add] at h1
    have h2 := congrArg Int64.toInt h1
    rw [wl_int hA, wl_int hB] at h2
    omega
  · intro h; rw [h, Int64.sub_self]
theorem es_lt {s : Nat} {g : Nat → Nat} (h : ∀ u, g u < 8 ∨ ¬ s / 2 ^ u % 2 = 1) (n : Nat) (hn : n ≤ 6) : q_sum (fun u => if s / 2 ^ u % 2 = 1 then 16 ^ g u else 0) n < 9223372036854775808 := by
  have h1 := sum_bd (f := fun u => if s / 2 ^ u % 2 = 1 then 16 ^ g u else 0) (B := 16 ^ 8) n fun u _ => by
    by_cases c : s / 2 ^ u % 2 = 1
    · simp only [c, if_true]
      exact Nat.pow_le_pow_right (by omega) (by have := (h u).resolve_right (fun z => z c); omega)
    · simp only [c, if_false]; exact Nat.zero_le _
  have h2 : n * 16 ^ 8 ≤ 6 * 16 ^ 8 := Nat.mul_le_mul_right _ hn
  omega
/-- how those who give stand -/
def qGv (D : Nat → Nat → Int32) (U : Nat) : Prop := U ≤ 6 ∧ ∀ u, u < U → (D 6 u = w (q_nh D u) ∧ q_nh D u < 8) ∧ (D 9 u = -2 ∨ (D 9 u = w (q_nb D u) ∧ q_nb D u < 8))
theorem gv_y {D : Nat → Nat → Int32} {U u : Nat} (h : qGv D U) (hu : u < U) (hc : q_gv D u = true) : D 9 u = w (q_nb D u) ∧ q_nb D u < 8 := by
  rcases (h.2 u hu).2 with z | z
  · have := of_decide_eq_true hc
    rw [z] at this
    exact absurd (show (-2 : Int32) < 0 by decide) this
  · exact z
section HC
variable {I : qI} {L : qL} {s : qS} {t U : Nat} {D : Nat → Nat → Int32}
theorem even_eq (hf : qFl s t) (hD : qd I t = D) (hg : qGv D U) {m : Nat} (hm : q_inM (q_gv D) U m) : jD 38 [.ref t, .int (w m)] (I, L, s) = some (some (.int (if q_ev (q_nh D) (q_nb D) m = true then 1 else 0)), I, L, s) := by
  have r9 := fl_k hf (k := 9) (n := 6) (by omega) rfl
  have r6 := fl_k hf (k := 6) (n := 6) (by omega) rfl
  have e9 : ∀ k, I (t + 1 + 2 * 9 + 1) k = D 9 k := fun k => by rw [← hD]; rfl
  have e6 : ∀ k, I (t + 1 + 2 * 6 + 1) k = D 6 k := fun k => by rw [← hD]; rfl
  have lb : ∀ u, q_nb D u < 8 ∨ ¬ m / 2 ^ u % 2 = 1 := fun u => by
    by_cases c : m / 2 ^ u % 2 = 1
    · by_cases c6 : u < 6
      · obtain ⟨h1, h2⟩ := hm.2 u c6 c
        exact Or.inl (gv_y hg h1 h2).2
      · have := bit_le c
        have h64 : (2 : Nat) ^ 6 ≤ 2 ^ u := Nat.pow_le_pow_right (by omega) (by omega)
        have := hm.1
        omega
    · exact Or.inr c
  have lh : ∀ u, q_nh D u < 8 ∨ ¬ m / 2 ^ u % 2 = 1 := fun u => by
    by_cases c : m / 2 ^ u % 2 = 1
    · by_cases c6 : u < 6
      · obtain ⟨h1, h2⟩ := hm.2 u c6 c
        exact Or.inl ((hg.2 u h1).1).2
      · have := bit_le c
        have h64 : (2 : Nat) ^ 6 ≤ 2 ^ u := Nat.pow_le_pow_right (by omega) (by omega)
        have := hm.1
        omega
    · exact Or.inr c
  rw [D_38, E_38_0]
  obtain ⟨x, e, hx⟩ := q_loopE (P := fun i (x : Int64) => x = wl (q_sum (fun u => if m / 2 ^ u % 2 = 1 then 16 ^ q_nb D u else 0) i) - wl (q_sum (fun u => if m / 2 ^ u % 2 = 1 then 16 ^ q_nh D u else 0) i)) (F := fun i x => jd 38 1 [some (.ref t), some (.int (w m)), some (.long x), none, some (.int (w i))] [] (I, L, s)) (n := 6) (fun i x hi hx => by
    refine ⟨_, ?_, rfl⟩
    show jd 38 1 _ _ _ = jd 38 1 _ _ _
    have hb := bit_w m (by have := hm.1; omega) i (by omega)
    rw [E_38_1, if_neg (by rw [show (6 : Int32) = w 6 from rfl]; exact w_nle hi (by omega)), hx]
    show _ = jd 38 1 [_, _, some (.long (wl (_ + (if m / 2 ^ i % 2 = 1 then 16 ^ q_nb D i else 0)) - wl (_ + (if m / 2 ^ i % 2 = 1 then 16 ^ q_nh D i else 0)))), _, _] [] _
    by_cases c : m / 2 ^ i % 2 = 1
    · obtain ⟨h1, h2⟩ := hm.2 i hi c
      have a1 := gv_y hg h1 h2
      have a2 := (hg.2 i h1).1
      rw [if_pos (hb.mpr c), if_pos c, if_pos c]
      simp only [↓reduceIte, q_i, q_l, q_k, q_r, q_z, q_si, q_sl, jx_lt, jx_ri, jx_rl, jx_rv, if_true, if_false, Nat.reduceLeDiff, Nat.add_one_ne_zero, and_self, true_or, or_true, Nat.reduceEqDiff, or_self, or_false, false_or, hf.1, r9.1, r9.2.1, r6.1, r6.2.1, look_eq r9.2, look_eq r6.2, q_at_w (n := 6) (k := i) (by omega) hi, e9, e6, a1.1, a2.1, shl16 _ a1.2, shl16 _ a2.2, wl_step, E_38_2, w_inc]
    · rw [if_neg (fun z => c (hb.mp z)), if_neg c, if_neg c, E_38_2, w_inc]
      rfl) 0 (by show (0 : Int64) = wl 0 - wl 0; decide)
  refine Eq.trans e ?_
  show jd 38 1 [_, _, _, _, some (.int (w 6))] [] _ = _
  rw [E_38_1, if_pos (show (6 : Int32) ≤ w 6 by decide), E_38_3, hx]
  unfold q_ev
  show (if lg_cmp (wl (q_es m fun u => 16 ^ q_nb D u) - wl (q_es m fun u => 16 ^ q_nh D u)) 0 = 0 then _ else _) = _
  by_cases c : q_es m (fun u => 16 ^ q_nb D u) = q_es m fun u => 16 ^ q_nh D u
  · rw [if_pos (by rw [lg_cmp_eq]; exact (wl_sub0 (es_lt lb 6 (by omega)) (es_lt lh 6 (by omega))).mpr c), if_pos (decide_eq_true c), E_38_5, if_pos (Or.inr rfl)]
  · rw [if_neg (by rw [lg_cmp_eq]; exact fun z => c ((wl_sub0 (es_lt lb 6 (by omega)) (es_lt lh 6 (by omega))).mp z)), if_neg (by rw [decide_eq_true_eq]; exact c), E_38_4, E_38_5, if_pos (Or.inl rfl)]
theorem mx_le {f : Nat → Nat} {m B : Nat} (h : ∀ u, u < 6 → m / 2 ^ u % 2 = 1 → f (m - 2 ^ u) ≤ B) : q_mx f m ≤ B := by
  rcases (mx_all (f := f) (s := m) 6).2 with z | ⟨u, hu, hb, z⟩
  · have : q_mx f m = 0 := z
    omega
  · have : q_mx f m = f (m - 2 ^ u) := z
    have := h u hu hb
    omega
theorem RR_le {ev : Nat → Bool} {m : Nat} : q_RR ev m ≤ m := by
  induction m using Nat.strongRecOn with
  | _ m ih =>
    by_cases c : m = 0
    · rw [c]; exact Nat.le_refl _
    · rw [RR_rec c]
      have := mx_le (f := q_RR ev) (m := m) (B := m - 1) fun u hu hb => by
        have h1 := bit_le hb
        have h2 := Nat.two_pow_pos u
        have := ih (m - 2 ^ u) (by omega)
        omega
      split <;> omega
theorem roundsOf_eq (hx : qr s 237 0 = 238 ∧ qk s 237 = 4 ∧ qRow s 238 64) {m : Nat} (hm : m < 64) {f : Nat → Nat} (hf : ∀ u, u < 6 → m / 2 ^ u % 2 = 1 → I 239 (m - 2 ^ u) = w (f (m - 2 ^ u)) ∧ f (m - 2 ^ u) < 64) : jD 37 [.ref 237, .int (w m)] (I, L, s) = some (some (.int (w (q_mx f m))), I, L, s) := by
  rw [D_37, E_37_0]
  refine (q_loopP (P := fun _ (a : Nat) => a < 64) (F := fun i (a : Nat) => jd 37 1 [some (.ref 237), some (.int (w m)), some (.int (w a)), some (.int (w i))] [] (I, L, s)) (n := 6) (g := fun u a => if m / 2 ^ u % 2 = 1 then (if a < f (m - 2 ^ u) then f (m - 2 ^ u) else a) else a) (fun i a hi ha => ?_) 0 (by omega)).1.trans ?_
  · have hb := bit_w m (by omega) i (by omega)
    by_cases c : m / 2 ^ i % 2 = 1
    · obtain ⟨h1, h2⟩ := hf i hi c
      have hle : m - 2 ^ i < 64 := Nat.lt_of_le_of_lt (Nat.sub_le _ _) hm
      have h1' : I (238 + 1) (m - 2 ^ i) = w (f (m - 2 ^ i)) := h1
      refine ⟨?_, by rw [if_pos c]; split <;> omega⟩
      show jd 37 1 _ _ _ = jd 37 1 _ _ _
      rw [E_37_1, if_neg (by rw [show (6 : Int32) = w 6 from rfl]; exact w_nle hi (by omega)), if_pos (hb.mpr c), if_pos c, less_one m hm i hi c]
      simp only [↓reduceIte, q_i, q_l, q_k, q_r, q_z, q_si, q_sl, jx_lt, jx_ri, jx_rl, jx_rv, if_true, if_false, Nat.reduceLeDiff, Nat.add_one_ne_zero, and_self, true_or, or_true, Nat.reduceEqDiff, or_self, or_false, false_or, hx.1, hx.2.1, hx.2.2.1, look_eq hx.2.2, q_at_w (n := 64) (k := m - 2 ^ i) (by omega) hle, h1', w_lt (a := a) (b := f (m - 2 ^ i)) (by omega) (by omega), E_37_2, w_inc]
      by_cases c2 : a < f (m - 2 ^ i)
      · rw [if_pos c2, if_pos c2]
      · rw [if_neg c2, if_neg c2]
    · refine ⟨?_, by rw [if_neg c]; exact ha⟩
      show jd 37 1 _ _ _ = jd 37 1 _ _ _
      rw [E_37_1, if_neg (by rw [show (6 : Int32) = w 6 from rfl]; exact w_nle hi (by omega)), if_neg (fun z => c (hb.mp z)), if_neg c, E_37_2, w_inc]
  · show jd 37 1 _ _ _ = _
    rw [E_37_1, if_pos (show (6 : Int32) ≤ w 6 by decide), E_37_3]
    rfl
theorem in_mask0 : ((List.range 64).all fun a => (List.range 64).all fun b => decide (w a &&& (w b ^^^ (-1)) = 0) == ((List.range 6).all fun k => !decide (a / 2 ^ k % 2 = 1) || decide (b / 2 ^ k % 2 = 1))) = true := by decide +kernel
theorem in_mask {a b : Nat} (ha : a < 64) (hb : b < 64) : w a &&& (w b ^^^ (-1)) = 0 ↔ q_sub a b := by
  have h := List.all_eq_true.mp (List.all_eq_true.mp in_mask0 a (List.mem_range.mpr ha)) b (List.mem_range.mpr hb)
  have h2 : decide (w a &&& (w b ^^^ (-1)) = 0) = ((List.range 6).all fun k => !decide (a / 2 ^ k % 2 = 1) || decide (b / 2 ^ k % 2 = 1)) := eq_of_beq h
  rw [← decide_eq_true_eq (p := w a &&& (w b ^^^ (-1)) = 0), h2, List.all_eq_true]
  unfold q_sub
  constructor
  · intro z k hk hbit
    have := z k (List.mem_range.mpr hk)
    simpa [hbit] using this
  · intro z k hk
    have := z k (List.mem_range.mp hk)
    by_cases c : a / 2 ^ k % 2 = 1
    · simp [c, this c]
    · simp [c]
theorem pop_mask {c : Nat → Bool} : ∀ U, U ≤ 6 → q_pop (q_mask c U) = q_cnt c U := by
  have hp : ∀ n, n < 64 → ∀ u, u < 6 → n < 2 ^ u → q_pop (n + 2 ^ u) = q_pop n + 1 := by decide +kernel
  intro U
  induction U with
  | zero =>
    intro _
    show q_pop 0 = 0
    decide
  | succ U ih =>
    intro hU
    show q_pop (q_mask c U + (if c U = true then 2 ^ U else 0)) = _
    rw [cnt_succ]
    by_cases h : c U = true
    · rw [if_pos h, if_pos h, hp _ (mask_lt64 (by omega)) U (by omega) (mask_lt c U), ih (by omega)]
    · rw [if_neg h, if_neg h, Nat.add_zero, Nat.add_zero, ih (by omega)]
/-- the class's answer -/
theorem fewest_eq (hf : qFl s t) (ht : t + 39 ≤ 200) (hD : qd I t = D) (hg : qGv D U) (hU5 : D 0 5 = w U) (hx : qr s 237 0 = 238 ∧ qk s 237 = 4 ∧ qRow s 238 64) : ∃ g, jD 36 [.ref 237, .ref t] (I, L, s) = some (some (.int (if q_ev (q_nh D) (q_nb D) (q_mask (q_gv D) U) = true then w (q_cnt (q_gv D) U) - w (q_RR (q_ev (q_nh D) (q_nb D)) (q_mask (q_gv D) U)) else -2)), q_up I 239 g, L, s) := by
  have hU9 := hg.1
  have r9 := fl_k hf (k := 9) (n := 6) (by omega) rfl
  have e9 : ∀ k, I (t + 1 + 2 * 9 + 1) k = D 9 k := fun k => by rw [← hD]; rfl
  have hM := mask_in (c := q_gv D) hU9
  generalize hMM : q_mask (q_gv D) U = M at hM
  have hM64 := hM.1
  have hDg : ∀ g, qd (q_up I 239 g) t = D := fun g => by rw [qd_same (I := I) fun a h1 h2 => q_up_ne (by omega)]; exact hD
  have l1 : jD 36 [.ref 237, .ref t] (I, L, s) = jd 36 4 [some (.ref 237), some (.ref t), some (.int (w M)), none] [] (I, L, s) := by
    rw [D_36, E_36_0, ← hMM, ← or_mask (by omega)]
    refine (q_loop (F := fun i b => jd 36 1 [some (.ref 237), some (.ref t), some (.int b), some (.int (w i))] [] (I, L, s)) (n := U) (g := fun v b => b ||| (if q_gv D v = true then (1 : Int32) <<< (w v &&& 31) else 0)) (fun i b hi => ?_) 0).trans ?_
    · show jd 36 1 _ _ _ = jd 36 1 _ _ _
      rw [E_36_1]
      simp only [↓reduceIte, q_i, q_l, q_k, q_r, q_z, q_si, q_sl, jx_lt, jx_ri, jx_rl, jx_rv, if_true, if_false, Nat.reduceLeDiff, Nat.add_one_ne_zero, and_self, true_or, or_true, Nat.reduceEqDiff, or_self, or_false, false_or, hf.1, umbs_eq hf, hD, hU5, w_nle hi (by omega), r9.1, r9.2.1, look_eq r9.2, q_at_w (n := 6) (k := i) (by omega) (by omega), e9]
      by_cases c : D 9 i < 0
      · rw [if_pos c, if_neg (by unfold q_gv; rw [decide_eq_true_eq]; exact fun z => z c), E_36_2, E_36_3, w_inc]
      · rw [if_neg c, if_pos (show q_gv D i = true from decide_eq_true c), E_36_3, w_inc]
    · show jd 36 1 _ _ _ = _
      rw [E_36_1]
      simp only [↓reduceIte, q_i, q_l, q_k, q_r, q_z, q_si, q_sl, jx_lt, jx_ri, jx_rl, jx_rv, if_true, if_false, Nat.reduceLeDiff, Nat.add_one_ne_zero, and_self, true_or, or_true, Nat.reduceEqDiff, or_self, or_false, false_or, hf.1, umbs_eq hf, hD, hU5, Int32.le_refl]
  rw [l1, E_36_4, even_eq hf hD hg hM]
  by_cases hev : q_ev (q_nh D) (q_nb D) M = true
  · rw [if_pos hev, if_pos hev]
    simp only [↓reduceIte, q_i, q_l, q_k, q_r, q_z, q_si, q_sl, jx_lt, jx_ri, jx_rl, jx_rv, if_true, if_false, Nat.reduceLeDiff, Nat.add_one_ne_zero, and_self, true_or, or_true, Nat.reduceEqDiff, or_self, or_false, false_or, show ¬ (1 : Int32) = 0 by decide, E_36_5, hx.1, hx.2.1, hx.2.2.1, put_eq hx.2.2]
    obtain ⟨g, e, hgg⟩ := q_loopE (P := fun i (g : Nat → Int32) => ∀ k, k < i + 1 → q_sub k M → g k = w (q_RR (q_ev (q_nh D) (q_nb D)) k)) (F := fun i g => jd 36 6 [some (.ref 237), some (.ref t), some (.int (w M)), some (.int (w (i + 1)))] [] (q_up I 239 g, L, s)) (n := M) (fun i g hi hg2 => by
      by_cases hs : q_sub (i + 1) M
      · refine ⟨q_set g (i + 1) (w (q_RR (q_ev (q_nh D) (q_nb D)) (i + 1))), ?_, fun k hk hsk => ?_⟩
        · have hin : q_inM (q_gv D) U (i + 1) := ⟨by omega, fun k hk hb => hM.2 k hk (hs k hk hb)⟩
          have hr := roundsOf_eq (I := q_up I 239 g) (L := L) hx (m := i + 1) (by omega) (f := q_RR (q_ev (q_nh D) (q_nb D))) (fun u hu hb => by
            have h1 := bit_le hb
            have h2 := Nat.two_pow_pos u
            have h3 : q_RR (q_ev (q_nh D) (q_nb D)) (i + 1 - 2 ^ u) ≤ i + 1 - 2 ^ u := RR_le
            refine ⟨?_, by omega⟩
            rw [q_up_eq]
            exact hg2 _ (by omega) (sub_trans (rm_sub (by omega) hu hb) hs))
          have hE := even_eq (I := q_up I 239 g) (L := L) hf (hDg g) hg hin
          show jd 36 6 _ _ _ = jd 36 6 _ _ _
          rw [E_36_6, if_neg (by rw [w_lt (by omega) (by omega)]; omega), if_pos ((in_mask (by omega) hM64).mpr hs)]
          simp only [↓reduceIte, q_i, q_l, q_k, q_r, q_z, q_si, q_sl, jx_lt, jx_ri, jx_rl, jx_rv, if_true, if_false, Nat.reduceLeDiff, Nat.add_one_ne_zero, and_self, true_or, or_true, Nat.reduceEqDiff, or_self, or_false, false_or, hx.1, hx.2.1, hr, hE]
          have hfin : ∀ v, jd 36 9 [some (.ref 237), some (.ref t), some (.int (w M)), some (.int (w (i + 1)))] [] (q_up I 239 (q_set g (i + 1) v), L, s) = jd 36 6 [some (.ref 237), some (.ref t), some (.int (w M)), some (.int (w (i + 1 + 1)))] [] (q_up I 239 (q_set g (i + 1) v), L, s) := fun v => by rw [E_36_9, w_inc]
          rw [RR_rec (s := i + 1) (by omega)]
          by_cases c : q_ev (q_nh D) (q_nb D) (i + 1) = true
          · rw [if_pos c, if_pos c, if_neg (by decide), E_36_8]
            simp only [↓reduceIte, q_i, q_l, q_k, q_r, q_z, q_si, q_sl, jx_lt, jx_ri, jx_rl, jx_rv, if_true, if_false, Nat.reduceLeDiff, Nat.add_one_ne_zero, and_self, true_or, or_true, Nat.reduceEqDiff, or_self, or_false, false_or, hx.2.2.1, put_eq hx.2.2, q_up_up, q_up_eq, q_put_w (n := 64) (k := i + 1) (by omega) (by omega), w_inc, hfin]
          · rw [if_neg c, if_neg c, if_pos rfl, E_36_7, E_36_8]
            simp only [↓reduceIte, q_i, q_l, q_k, q_r, q_z, q_si, q_sl, jx_lt, jx_ri, jx_rl, jx_rv, if_true, if_false, Nat.reduceLeDiff, Nat.add_one_ne_zero, and_self, true_or, or_true, Nat.reduceEqDiff, or_self, or_false, false_or, hx.2.2.1, put_eq hx.2.2, q_up_up, q_up_eq, q_put_w (n := 64) (k := i + 1) (by omega) (by omega), w_add0, hfin, Nat.add_zero]
        · by_cases c : k = i + 1
          · subst c; exact q_set_eq
          · rw [q_set_ne c]; exact hg2 k (by omega) hsk
      · refine ⟨g, ?_, fun k hk hsk => ?_⟩
        · show jd 36 6 _ _ _ = jd 36 6 _ _ _
          rw [E_36_6, if_neg (by rw [w_lt (by omega) (by omega)]; omega), if_neg (fun z => hs ((in_mask (by omega) hM64).mp z)), E_36_9, w_inc]
        · by_cases c : k = i + 1
          · subst c; exact absurd hsk hs
          · exact hg2 k (by omega) hsk) (q_put 64 (I (238 + 1)) 0 0) (fun k hk _ => by
        have : k = 0 := by omega
        subst this
        rw [show (0 : Int32) = w 0 from rfl, q_put_w (by omega) (by omega), q_set_eq]
        rfl)
    refine ⟨g, Eq.trans e ?_⟩
    show jd 36 6 _ _ _ = _
    have hpm := pop_mask (c := q_gv D) U hU9
    rw [hMM] at hpm
    rw [E_36_6, if_pos (by rw [w_lt (by omega) (by omega)]; omega), E_36_10, bitCount_eq hM64]
    simp only [↓reduceIte, q_i, q_l, q_k, q_r, q_z, q_si, q_sl, jx_lt, jx_ri, jx_rl, jx_rv, if_true, if_false, Nat.reduceLeDiff, Nat.add_one_ne_zero, and_self, true_or, or_true, Nat.reduceEqDiff, or_self, or_false, false_or, hx.1, hx.2.1, hx.2.2.1, look_eq hx.2.2, q_at_w (n := 64) (k := M) (by omega) hM64, q_up_eq, hgg M (by omega) (fun _ _ h => h), hpm]
  · rw [if_neg hev, if_neg hev]
    exact ⟨I 239, by simp only [↓reduceIte, q_i, q_l, q_k, q_r, q_z, q_si, q_sl, jx_lt, jx_ri, jx_rl, jx_rv, if_true, if_false, Nat.reduceLeDiff, Nat.add_one_ne_zero, and_self, true_or, or_true, Nat.reduceEqDiff, or_self, or_false, false_or, q_up_self]⟩
end HC
