/-! WAYS OUT: how many, what they are, the class's finding -/
def q_G : Nat → Nat → Nat
  | 0 => fun _ => 0
  | n + 1 => fun R => (List.range (R + 1)).foldl (fun m x => max m (x * (1 + q_G n (R - x)))) 0
theorem foldl_max {f : Nat → Nat} : ∀ (l : List Nat) (m : Nat), m ≤ l.foldl (fun m x => max m (f x)) m ∧ ∀ x ∈ l, f x ≤ l.foldl (fun m x => max m (f x)) m := by
  intro l
  induction l with
  | nil => exact fun m => ⟨Nat.le_refl _, fun x hx => by cases hx⟩
  | cons a l ih =>
    intro m
    obtain ⟨h1, h2⟩ := ih (max m (f a))
    refine ⟨Nat.le_trans (Nat.le_max_left _ _) h1, fun x hx => ?_⟩
    rcases List.mem_cons.mp hx with rfl | hx
    · exact Nat.le_trans (Nat.le_max_right _ _) h1
    · exact h2 x hx
theorem G_le {n R x : Nat} (h : x ≤ R) : x * (1 + q_G n (R - x)) ≤ q_G (n + 1) R := (foldl_max (f := fun x => x * (1 + q_G n (R - x))) (List.range (R + 1)) 0).2 x (List.mem_range.mpr (by omega))
theorem G_14 : q_G 5 14 ≤ 300 := by decide +kernel
theorem fm_count {f : Nat → List Nat} {p : Nat → Bool} {c : Nat} : ∀ n, (∀ b, b < n → (p b = false → f b = []) ∧ (f b).length ≤ c) → ((List.range n).flatMap f).length ≤ ((List.range n).filter p).length * c := by
  intro n
  induction n with
  | zero => exact fun _ => Nat.zero_le _
  | succ n ih =>
    intro h
    rw [fm_succ, List.length_append, List.range_succ, List.filter_append, List.length_append, Nat.add_mul]
    have h1 := ih fun b hb => h b (by omega)
    obtain ⟨h2, h3⟩ := h n (by omega)
    cases hp : p n with
    | false =>
      rw [h2 hp]
      simp only [List.length_nil]
      omega
    | true =>
      have e : ([n].filter p).length = 1 := by simp [hp]
      rw [e]
      omega
theorem sum_upd {f g : Nat → Nat} {b : Nat} : ∀ n, b < n → g b = 0 → (∀ k, k ≠ b → f k = g k) → q_sum f n = q_sum g n + f b := by
  intro n
  induction n with
  | zero => exact fun h => absurd h (Nat.not_lt_zero _)
  | succ n ih =>
    intro hb h0 h
    show q_sum f n + f n = q_sum g n + g n + f b
    by_cases c : b = n
    · subst c
      have e : q_sum f b = q_sum g b := by
        have : ∀ m, m ≤ b → q_sum f m = q_sum g m := by
          intro m
          induction m with
          | zero => exact fun _ => rfl
          | succ m im =>
            intro hm
            show q_sum f m + f m = q_sum g m + g m
            rw [im (by omega), h m (by omega)]
        exact this b (Nat.le_refl _)
      rw [e, h0]; omega
    · rw [ih (by omega) h0 h, h n (fun e => c e.symm)]; omega
/-- ways out of stops that are not in a set -/
def q_left (D : Nat → Nat → Int32) (S ms : Nat) : Nat := q_sum (fun b => if ms / 2 ^ b % 2 = 0 then q_deg D S b else 0) S
theorem left_add {D : Nat → Nat → Int32} {S ms b : Nat} (hS : S ≤ 8) (hms : ms < 256) (hb : b < S) (h : ms / 2 ^ b % 2 = 0) : q_left D S ms = q_left D S (ms + 2 ^ b) + q_deg D S b := by
  have key : ∀ k, k < 8 → ((ms + 2 ^ b) / 2 ^ k % 2 = 0 ↔ ¬ k = b ∧ ms / 2 ^ k % 2 = 0) := fun k hk => by
    have := (add_bit hms (show b < 8 by omega) hk h).2
    have h1 := Nat.mod_two_eq_zero_or_one ((ms + 2 ^ b) / 2 ^ k)
    have h2 := Nat.mod_two_eq_zero_or_one (ms / 2 ^ k)
    constructor
    · intro z
      refine ⟨fun e => ?_, ?_⟩
      · have := this.mpr (Or.inl e); omega
      · rcases h2 with z2 | z2
        · exact z2
        · have := this.mpr (Or.inr z2); omega
    · rintro ⟨z1, z2⟩
      rcases h1 with z3 | z3
      · exact z3
      · rcases this.mp z3 with z4 | z4
        · exact absurd z4 z1
        · omega
  unfold q_left
  have e1 : q_sum (fun k => if ms / 2 ^ k % 2 = 0 then q_deg D S k else 0) S = q_sum (fun k => if k < 8 then (if ms / 2 ^ k % 2 = 0 then q_deg D S k else 0) else 0) S := by
    have : ∀ m, m ≤ 8 → q_sum (fun k => if ms / 2 ^ k % 2 = 0 then q_deg D S k else 0) m = q_sum (fun k => if k < 8 then (if ms / 2 ^ k % 2 = 0 then q_deg D S k else 0) else 0) m := by
      intro m
      induction m with
      | zero => exact fun _ => rfl
      | succ m im =>
        intro hm
        show q_sum _ m + (if ms / 2 ^ m % 2 = 0 then q_deg D S m else 0) = q_sum _ m + (if m < 8 then _ else 0)
        rw [im (by omega), if_pos (show m < 8 by omega)]
    exact this S hS
  have e2 : q_sum (fun k => if (ms + 2 ^ b) / 2 ^ k % 2 = 0 then q_deg D S k else 0) S = q_sum (fun k => if k < 8 then (if (ms + 2 ^ b) / 2 ^ k % 2 = 0 then q_deg D S k else 0) else 0) S := by
    have : ∀ m, m ≤ 8 → q_sum (fun k => if (ms + 2 ^ b) / 2 ^ k % 2 = 0 then q_deg D S k else 0) m = q_sum (fun k => if k < 8 then (if (ms + 2 ^ b) / 2 ^ k % 2 = 0 then q_deg D S k else 0) else 0) m := by
      intro m
      induction m with
      | zero => exact fun _ => rfl
      | succ m im =>
        intro hm
        show q_sum _ m + (if (ms + 2 ^ b) / 2 ^ m % 2 = 0 then q_deg D S m else 0) = q_sum _ m + (if m < 8 then _ else 0)
        rw [im (by omega), if_pos (show m < 8 by omega)]
    exact this S hS
  rw [e1, e2]
  have h9 := sum_upd (f := fun k => if k < 8 then (if ms / 2 ^ k % 2 = 0 then q_deg D S k else 0) else 0) (g := fun k => if k < 8 then (if (ms + 2 ^ b) / 2 ^ k % 2 = 0 then q_deg D S k else 0) else 0) (b := b) S hb (by
    show (if b < 8 then (if (ms + 2 ^ b) / 2 ^ b % 2 = 0 then q_deg D S b else 0) else 0) = 0
    rw [if_pos (by omega), if_neg (fun z => ((key b (by omega)).mp z).1 rfl)]) (fun k hk => by
    show (if k < 8 then (if ms / 2 ^ k % 2 = 0 then q_deg D S k else 0) else 0) = (if k < 8 then (if (ms + 2 ^ b) / 2 ^ k % 2 = 0 then q_deg D S k else 0) else 0)
    by_cases c : k < 8
    · rw [if_pos c, if_pos c]
      by_cases c2 : ms / 2 ^ k % 2 = 0
      · rw [if_pos c2, if_pos ((key k c).mpr ⟨hk, c2⟩)]
      · rw [if_neg c2, if_neg (fun z => c2 ((key k c).mp z).2)]
    · rw [if_neg c, if_neg c])
  rw [h9]
  show _ + (if b < 8 then (if ms / 2 ^ b % 2 = 0 then q_deg D S b else 0) else 0) = _
  rw [if_pos (by omega), if_pos h]
theorem outs_len {D : Nat → Nat → Int32} {S : Nat} (hS : S ≤ 8) : ∀ n a ms p R, ms < 256 → q_deg D S a + q_left D S ms ≤ R → (q_outs D S n a ms p).length ≤ q_G n R := by
  intro n
  induction n with
  | zero => exact fun _ _ _ _ _ _ => Nat.zero_le _
  | succ n ih =>
    intro a ms p R hms hR
    rw [outs_succ]
    refine Nat.le_trans (fm_count (p := fun b => decide (¬ D 2 (8 * a + b) < 0)) (c := 1 + q_G n (R - q_deg D S a)) S fun b hb => ⟨fun hp => ?_, ?_⟩) ?_
    · unfold q_br
      rw [if_neg]
      exact fun z => absurd z.2 (of_decide_eq_false hp)
    · unfold q_br
      by_cases c : ms / 2 ^ b % 2 = 0 ∧ ¬ D 2 (8 * a + b) < 0
      · rw [if_pos c, List.length_append]
        have h1 := left_add (D := D) hS hms hb c.1
        have h2 := ih b (ms + 2 ^ b) (p + (b + 1) * 16 ^ (4 - n)) (R - q_deg D S a) (add_bit hms (show b < 8 by omega) (show b < 8 by omega) c.1).1 (by omega)
        have h3 : (if D 1 b = 2 then [p + (b + 1) * 16 ^ (4 - n)] else []).length ≤ 1 := by
          split
          · exact Nat.le_refl _
          · exact Nat.zero_le _
        omega
      · rw [if_neg c]; exact Nat.zero_le _
    · exact G_le (x := q_deg D S a) (by omega)
theorem left_home {D : Nat → Nat → Int32} {S h : Nat} (hS : S ≤ 8) (hh : h < S) : q_deg D S h + q_left D S (2 ^ h) = q_sum (q_deg D S) S := by
  have h1 := left_add (D := D) (ms := 0) hS (by omega) hh (by rw [Nat.zero_div])
  rw [Nat.zero_add] at h1
  have e : q_left D S 0 = q_sum (q_deg D S) S := by
    unfold q_left
    congr 1
    funext b
    rw [if_pos (by rw [Nat.zero_div])]
  omega
/-- all of an umbrella's ways out -/
def q_all (D : Nat → Nat → Int32) (S h : Nat) : List Nat := q_outs D S 5 h (2 ^ h) 0
theorem all_len {D : Nat → Nat → Int32} {S h : Nat} (hS : S ≤ 8) (hh : h < S) (hw : q_sum (q_deg D S) S ≤ 14) : (q_all D S h).length ≤ 300 := by
  have hlt : 2 ^ h < 256 := Nat.lt_of_lt_of_le (Nat.pow_lt_pow_right (by omega) (show h < 8 by omega)) (by decide)
  exact Nat.le_trans (outs_len hS 5 h (2 ^ h) 0 14 hlt (by rw [left_home hS hh]; exact hw)) G_14
/-- a path that goes by ways -/
def q_path (D : Nat → Nat → Int32) (S h : Nat) (g : Nat → Nat) (k : Nat) : Prop := (∀ i, i < k → g i < S) ∧ (0 < k → ¬ D 2 (8 * h + g 0) < 0) ∧ ∀ i, i + 1 < k → ¬ D 2 (8 * g i + g (i + 1)) < 0
theorem path_rt {D : Nat → Nat → Int32} {S h k : Nat} {g : Nat → Nat} (hS : S ≤ 8) (hk : k ≤ 5) (hp : q_path D S h g k) : qRt D S h (w (q_cd g k)) k g :=
  ⟨hk, fun i hi => stop_cd hk (fun j hj => by have := hp.1 j hj; omega) hi, hp.1, hp.2.1, hp.2.2⟩
theorem cd_congr {g g' : Nat → Nat} : ∀ k, (∀ i, i < k → g i = g' i) → q_cd g k = q_cd g' k := by
  intro k
  induction k with
  | zero => exact fun _ => rfl
  | succ k ih =>
    intro h
    show q_cd g k + (g k + 1) * 16 ^ k = q_cd g' k + (g' k + 1) * 16 ^ k
    rw [ih fun i hi => h i (by omega), h k (by omega)]
/-- a path that goes on -/
theorem path_ext {D : Nat → Nat → Int32} {S h d b : Nat} {g : Nat → Nat} (hp : q_path D S h g d) (hb : b < S) (hw : ¬ D 2 (8 * (if d = 0 then h else g (d - 1)) + b) < 0) : q_path D S h (fun i => if i = d then b else g i) (d + 1) ∧ q_cd (fun i => if i = d then b else g i) (d + 1) = q_cd g d + (b + 1) * 16 ^ d := by
  refine ⟨⟨fun i hi => ?_, fun _ => ?_, fun i hi => ?_⟩, ?_⟩
  · show (if i = d then b else g i) < S
    by_cases c : i = d
    · rw [if_pos c]; exact hb
    · rw [if_neg c]; exact hp.1 i (by omega)
  · show ¬ D 2 (8 * h + (if 0 = d then b else g 0)) < 0
    by_cases c : d = 0
    · subst c
      rw [if_pos rfl] at hw ⊢
      exact hw
    · rw [if_neg (fun z => c z.symm)]; exact hp.2.1 (by omega)
  · show ¬ D 2 (8 * (if i = d then b else g i) + (if i + 1 = d then b else g (i + 1))) < 0
    rw [if_neg (by omega)]
    by_cases c : i + 1 = d
    · subst c
      rw [if_neg (by omega), Nat.add_sub_cancel] at hw
      rw [if_pos rfl]; exact hw
    · rw [if_neg c]; exact hp.2.2 i (by omega)
  · show q_cd (fun i => if i = d then b else g i) d + ((if d = d then b else g d) + 1) * 16 ^ d = _
    rw [if_pos rfl, cd_congr d (fun i hi => if_neg (by omega))]
theorem outs_rt {D : Nat → Nat → Int32} {S h : Nat} : ∀ n, n ≤ 5 → ∀ ms g, q_path D S h g (5 - n) → ∀ c ∈ q_outs D S n (if 5 - n = 0 then h else g (5 - n - 1)) ms (q_cd g (5 - n)), ∃ k g', 0 < k ∧ k ≤ 5 ∧ c = q_cd g' k ∧ q_path D S h g' k := by
  intro n
  induction n with
  | zero => exact fun _ _ _ _ c hc => by cases hc
  | succ n ih =>
    intro hn ms g hp c hc
    rw [outs_succ] at hc
    obtain ⟨b, hb, hc⟩ := List.mem_flatMap.mp hc
    rw [List.mem_range] at hb
    unfold q_br at hc
    by_cases c1 : ms / 2 ^ b % 2 = 0 ∧ ¬ D 2 (8 * (if 5 - (n + 1) = 0 then h else g (5 - (n + 1) - 1)) + b) < 0
    · rw [if_pos c1] at hc
      obtain ⟨h1, h2⟩ := path_ext hp hb c1.2
      rw [show 5 - (n + 1) + 1 = 5 - n by omega, show 5 - (n + 1) = 4 - n by omega] at h1 h2
      rw [show 5 - (n + 1) = 4 - n by omega, ← h2] at hc
      rcases List.mem_append.mp hc with hc | hc
      · split at hc
        · rw [List.mem_singleton] at hc
          exact ⟨5 - n, _, by omega, by omega, hc, h1⟩
        · cases hc
      · have h3 := ih (by omega) (ms + 2 ^ b) _ h1 c
        rw [if_neg (by omega), if_pos (by omega)] at h3
        exact h3 hc
    · rw [if_neg c1] at hc; cases hc
theorem all_rt {D : Nat → Nat → Int32} {S h c : Nat} (hc : c ∈ q_all D S h) : ∃ k g, 0 < k ∧ k ≤ 5 ∧ c = q_cd g k ∧ q_path D S h g k := by
  refine outs_rt (D := D) (S := S) (h := h) 5 (Nat.le_refl _) (2 ^ h) (fun _ => 0) ⟨fun i hi => absurd hi (Nat.not_lt_zero _), fun z => absurd z (Nat.lt_irrefl _), fun i hi => absurd hi (Nat.not_lt_zero _)⟩ c ?_
  exact hc
/-- the class's rows of ways out -/
def qOO (I : qI) (D : Nat → Nat → Int32) (U S : Nat) : Prop := ∀ u, u < U → ∀ h, D 6 u = w h → h < S → I (232 + 1) u = w (q_all D S h).length ∧ ∀ k, k < (q_all D S h).length → I (230 + 1) (300 * u + k) = w ((q_all D S h).getD k 0)
theorem shl1_w : ∀ h, h < 8 → (1 : Int32) <<< (w h &&& 31) = w (2 ^ h) := by decide +kernel
section FI
variable {I : qI} {L : qL} {s : qS} {t t' S U dn : Nat}
theorem find_eq (hx : qXo s t t') (hD : qVD (qd I t) U S dn) (hw : q_sum (q_deg (qd I t) S) S ≤ 14) : ∃ fr ff, jD 92 [.ref 229, .ref t] (I, L, s) = some (none, q_up (q_up I (230 + 1) fr) (232 + 1) ff, L, s) ∧ qOO (q_up (q_up I (230 + 1) fr) (232 + 1) ff) (qd I t) U S := by
  obtain ⟨hU, hU9, hS, hS9, -, -, -, hh⟩ := hD
  have hf := xo_ft hx
  have htt := xo_tt hx
  have r6 := fl_k hf (k := 6) (n := 6) (by omega) rfl
  have hsame : ∀ {fr ff : Nat → Int32}, qd (q_up (q_up I (230 + 1) fr) (232 + 1) ff) t = qd I t := fun {fr ff} => qd_same fun a h1 h2 => by rw [q_up_ne (by omega), q_up_ne (by omega)]
  obtain ⟨J, e, fr, ff, rfl, hJ⟩ := q_loopE (P := fun i (J : qI) => ∃ fr ff, J = q_up (q_up I (230 + 1) fr) (232 + 1) ff ∧ (∀ k, i ≤ k → k < 6 → ff k = 0) ∧ ∀ u, u < i → ∀ h, qd I t 6 u = w h → h < S → ff u = w (q_all (qd I t) S h).length ∧ ∀ k, k < (q_all (qd I t) S h).length → fr (300 * u + k) = w ((q_all (qd I t) S h).getD k 0)) (F := fun i J => jd 92 1 [some (.ref 229), some (.ref t), some (.int (w i)), none] [] (J, L, s)) (n := U) (fun i J hi hJ => by
    obtain ⟨fr, ff, rfl, h0, h1⟩ := hJ
    obtain ⟨h, eh, hlt⟩ := hh i hi
    generalize hK : q_up (q_up I (230 + 1) fr) (232 + 1) ff = K
    have hKt : qd K t = qd I t := by rw [← hK]; exact hsame
    have h6 : K (t + 1 + 2 * 6 + 1) i = w h := by
      have : qd K t 6 = qd I t 6 := by rw [hKt]
      exact (congrFun this i).trans eh
    have hlen := all_len (D := qd I t) hS9 hlt hw
    have e0 : oM K i [] = K := by
      funext a
      unfold oM
      by_cases c1 : a = 232 + 1
      · subst c1
        rw [q_up_eq]
        funext j
        unfold q_set
        by_cases c2 : j = i
        · subst c2
          rw [if_pos rfl, ← hK, q_up_eq, h0 j (Nat.le_refl _) (by omega)]; rfl
        · rw [if_neg c2]
      · rw [q_up_ne c1]
        by_cases c3 : a = 230 + 1
        · subst c3
          rw [q_up_eq]
          funext k
          rw [if_neg]
          show ¬ (300 * i ≤ k ∧ k < 300 * i + 0)
          omega
        · rw [q_up_ne c3]
    have hg := goOn_5 (I := K) (L := L) (X := []) (a := h) (ms := 2 ^ h) (p := 0) hx (by rw [hKt]; exact hS) hS9 (show i < 6 by omega) (by omega) (Nat.lt_of_lt_of_le (Nat.pow_lt_pow_right (by omega) (show h < 8 by omega)) (by decide)) (by decide) (by rw [hKt]; show 0 + (q_all (qd I t) S h).length ≤ 300; omega)
    rw [hKt, e0, List.nil_append] at hg
    have hg' : jD 95 [.ref t, .ref 229, .int (w i), .int (w h), .int 0, .int (w (2 ^ h)), .int 0] (K, L, s) = some (none, oM K i (q_all (qd I t) S h), L, s) := hg
    refine ⟨oM K i (q_all (qd I t) S h), ?_, fun k => if 300 * i ≤ k ∧ k < 300 * i + (q_all (qd I t) S h).length then w ((q_all (qd I t) S h).getD (k - 300 * i) 0) else fr k, q_set ff i (w (q_all (qd I t) S h).length), ?_, ?_, ?_⟩
    · show jd 92 1 _ _ _ = _
      rw [E_92_1]
      simp only [↓reduceIte, q_i, q_l, q_k, q_r, q_z, q_si, q_sl, jx_lt, jx_ri, jx_rl, jx_rv, if_true, if_false, Nat.reduceLeDiff, Nat.add_one_ne_zero, and_self, true_or, or_true, Nat.reduceEqDiff, or_self, or_false, false_or, hf.1, umbs_eq hf, hKt, hU, w_nle hi (by omega), r6.1, r6.2.1, look_eq r6.2, q_at_w (n := 6) (k := i) (by omega) (by omega), h6, shl1_w h (by omega), hg', w_inc]
    · subst hK
      unfold oM
      rw [q_up_eq, q_up_ne (by omega), q_up_eq]
      funext a
      by_cases c1 : a = 232 + 1
      · subst c1; rw [q_up_eq, q_up_eq]
      · rw [q_up_ne c1, q_up_ne c1]
        by_cases c2 : a = 230 + 1
        · subst c2; rw [q_up_eq, q_up_eq]
        · rw [q_up_ne c2, q_up_ne c2, q_up_ne c1, q_up_ne c2]
    · intro k hk hk6
      rw [q_set_ne (by omega)]
      exact h0 k (by omega) hk6
    · intro u hu h' eh' hlt'
      by_cases c : u = i
      · subst c
        have : h' = h := by
          have := eh'.symm.trans eh
          rw [w_eq (by omega) (by omega)] at this
          exact this
        subst this
        refine ⟨q_set_eq, fun k hk => ?_⟩
        show (if 300 * u ≤ 300 * u + k ∧ 300 * u + k < 300 * u + (q_all (qd I t) S h').length then _ else _) = _
        rw [if_pos (by omega), Nat.add_sub_cancel_left]
      · obtain ⟨g1, g2⟩ := h1 u (by omega) h' eh' hlt'
        have hl' := all_len (D := qd I t) hS9 hlt' hw
        refine ⟨by rw [q_set_ne c]; exact g1, fun k hk => ?_⟩
        show (if 300 * i ≤ 300 * u + k ∧ 300 * u + k < 300 * i + (q_all (qd I t) S h).length then _ else _) = _
        rw [if_neg (by omega)]
        exact g2 k hk) (q_up (q_up I (230 + 1) (I (230 + 1))) (232 + 1) (fun k => if k < 6 then 0 else I (232 + 1) k)) ⟨I (230 + 1), _, rfl, fun k _ hk => if_pos hk, fun u hu => absurd hu (Nat.not_lt_zero _)⟩
  refine ⟨fr, ff, ?_, fun u hu h eh hlt => ?_⟩
  · rw [D_92, E_92_0]
    simp only [↓reduceIte, q_i, q_l, q_k, q_r, q_z, q_si, q_sl, jx_lt, jx_ri, jx_rl, jx_rv, if_true, if_false, Nat.reduceLeDiff, Nat.add_one_ne_zero, and_self, true_or, or_true, Nat.reduceEqDiff, or_self, or_false, false_or, xo_k hx, xo_r0 hx, xo_r1 hx, xo_r2 hx, xo_r3 hx, xo_r4 hx, xo_r5 hx, xo_r6 hx, xo_r7 hx, xo_r8 hx, xo_r9 hx, xo_r10 hx, xo_r11 hx, xo_ka hx, xo_ra0 hx, xo_ra1 hx, xo_ko hx, xo_ro0 hx, xo_ro1 hx, xo_kf hx, xo_rf0 hx, xo_kh hx, xo_rh0 hx, xo_ke hx, xo_re0 hx, xo_re1 hx, xo_kn hx, xo_zn hx, xo_re2 hx, xo_re3 hx, xo_kt hx, xo_rt0 hx, xo_t0 hx, (xo_ft hx).1, (xo_now hx).1, (xo_now hx).2.1, (xo_now hx).2.2.1, (xo_try hx).1, (xo_yr hx).1.1, (xo_ty hx).1, (xo_found hx).1, fill_eq (xo_found hx)]
    rw [q_up_self] at e
    refine Eq.trans e ?_
    show jd 92 1 _ _ _ = _
    rw [E_92_1]
    simp only [↓reduceIte, q_i, q_l, q_k, q_r, q_z, q_si, q_sl, jx_lt, jx_ri, jx_rl, jx_rv, if_true, if_false, Nat.reduceLeDiff, Nat.add_one_ne_zero, and_self, true_or, or_true, Nat.reduceEqDiff, or_self, or_false, false_or, hf.1, umbs_eq hf, hsame, hU, Int32.le_refl, E_92_2]
  · obtain ⟨g1, g2⟩ := hJ.2 u hu h eh hlt
    exact ⟨by rw [q_up_eq]; exact g1, fun k hk => by rw [q_up_ne (by omega), q_up_eq]; exact g2 k hk⟩
end FI
