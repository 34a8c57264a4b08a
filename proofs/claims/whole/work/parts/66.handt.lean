/-! HANDINGS: the table of the longest chains -/
def q_mx (f : Nat → Nat) (s : Nat) : Nat := q_it (fun u a => if s / 2 ^ u % 2 = 1 then (if a < f (s - 2 ^ u) then f (s - 2 ^ u) else a) else a) 6 0
def q_T (ev : Nat → Bool) : Nat → Nat → Nat
  | 0 => fun _ => 0
  | s + 1 => fun t => if t = s then (if s = 0 then 0 else q_mx (q_T ev s) s + (if ev s = true then 1 else 0)) else q_T ev s t
def q_RR (ev : Nat → Bool) (s : Nat) : Nat := q_T ev (s + 1) s
theorem T_lt {ev : Nat → Bool} {t : Nat} : ∀ s, t < s → q_T ev s t = q_RR ev t := by
  intro s
  induction s with
  | zero => exact fun h => absurd h (Nat.not_lt_zero t)
  | succ s ih =>
    intro h
    by_cases c : t = s
    · subst c; rfl
    · show (if t = s then _ else q_T ev s t) = _
      rw [if_neg c]
      exact ih (by omega)
theorem bit_le {s u : Nat} (h : s / 2 ^ u % 2 = 1) : 2 ^ u ≤ s := by
  by_cases c : 2 ^ u ≤ s
  · exact c
  · rw [Nat.div_eq_of_lt (by omega)] at h; cases h
theorem RR_zero {ev : Nat → Bool} : q_RR ev 0 = 0 := rfl
theorem RR_rec {ev : Nat → Bool} {s : Nat} (h : s ≠ 0) : q_RR ev s = q_mx (q_RR ev) s + (if ev s = true then 1 else 0) := by
  have e : q_RR ev s = q_mx (q_T ev s) s + (if ev s = true then 1 else 0) := by
    show (if s = s then (if s = 0 then 0 else _) else _) = _
    rw [if_pos rfl, if_neg h]
  rw [e]
  congr 1
  unfold q_mx
  refine q_it_congr (fun u a hu => ?_) _
  by_cases c : s / 2 ^ u % 2 = 1
  · have := bit_le c
    have := Nat.two_pow_pos u
    rw [if_pos c, if_pos c, T_lt s (by omega)]
  · rw [if_neg c, if_neg c]
theorem mx_all {f : Nat → Nat} {s : Nat} : ∀ n, (∀ u, u < n → s / 2 ^ u % 2 = 1 → f (s - 2 ^ u) ≤ q_it (fun u a => if s / 2 ^ u % 2 = 1 then (if a < f (s - 2 ^ u) then f (s - 2 ^ u) else a) else a) n 0) ∧ (q_it (fun u a => if s / 2 ^ u % 2 = 1 then (if a < f (s - 2 ^ u) then f (s - 2 ^ u) else a) else a) n 0 = 0 ∨ ∃ u, u < n ∧ s / 2 ^ u % 2 = 1 ∧ q_it (fun u a => if s / 2 ^ u % 2 = 1 then (if a < f (s - 2 ^ u) then f (s - 2 ^ u) else a) else a) n 0 = f (s - 2 ^ u)) := by
  intro n
  induction n with
  | zero => exact ⟨fun u h => absurd h (Nat.not_lt_zero u), Or.inl rfl⟩
  | succ n ih =>
    obtain ⟨h1, h2⟩ := ih
    generalize hx : q_it (fun u a => if s / 2 ^ u % 2 = 1 then (if a < f (s - 2 ^ u) then f (s - 2 ^ u) else a) else a) n 0 = x at h1 h2
    have e : q_it (fun u a => if s / 2 ^ u % 2 = 1 then (if a < f (s - 2 ^ u) then f (s - 2 ^ u) else a) else a) (n + 1) 0 = if s / 2 ^ n % 2 = 1 then (if x < f (s - 2 ^ n) then f (s - 2 ^ n) else x) else x := by
      rw [← hx]; rfl
    rw [e]
    by_cases c : s / 2 ^ n % 2 = 1
    · rw [if_pos c]
      by_cases c2 : x < f (s - 2 ^ n)
      · rw [if_pos c2]
        refine ⟨fun u hu hb => ?_, Or.inr ⟨n, by omega, c, rfl⟩⟩
        by_cases e2 : u = n
        · rw [e2]; exact Nat.le_refl _
        · have := h1 u (by omega) hb; omega
      · rw [if_neg c2]
        refine ⟨fun u hu hb => ?_, h2.imp id fun ⟨u, a, b⟩ => ⟨u, by omega, b⟩⟩
        by_cases e2 : u = n
        · rw [e2]; omega
        · exact h1 u (by omega) hb
    · rw [if_neg c]
      refine ⟨fun u hu hb => ?_, h2.imp id fun ⟨u, a, b⟩ => ⟨u, by omega, b⟩⟩
      by_cases e2 : u = n
      · rw [e2] at hb; exact absurd hb c
      · exact h1 u (by omega) hb
def q_sub (s t : Nat) : Prop := ∀ k, k < 6 → s / 2 ^ k % 2 = 1 → t / 2 ^ k % 2 = 1
theorem bit_01 (s k : Nat) : s / 2 ^ k % 2 = 0 ∨ s / 2 ^ k % 2 = 1 := by omega
theorem sub_ne {s t : Nat} (hs : s < 64) (ht : t < 64) (h : q_sub s t) (hne : s ≠ t) : ∃ u, u < 6 ∧ t / 2 ^ u % 2 = 1 ∧ ¬ s / 2 ^ u % 2 = 1 := by
  apply Classical.byContradiction
  intro hno
  apply hne
  refine bits_ext hs ht fun k hk => ?_
  rcases bit_01 t k with h0 | h1
  · rcases bit_01 s k with g0 | g1
    · omega
    · have := h k hk g1; omega
  · rcases bit_01 s k with g0 | g1
    · exact absurd ⟨k, hk, h1, by omega⟩ hno
    · omega
theorem sub_rm {s t u : Nat} (ht : t < 64) (hu : u < 6) (h : q_sub s t) (h1 : t / 2 ^ u % 2 = 1) (h2 : ¬ s / 2 ^ u % 2 = 1) : q_sub s (t - 2 ^ u) := fun k hk hb => (less_bit ht hu hk h1).mpr ⟨fun e => h2 (e ▸ hb), h k hk hb⟩
theorem rm_sub {t u : Nat} (ht : t < 64) (hu : u < 6) (h1 : t / 2 ^ u % 2 = 1) : q_sub (t - 2 ^ u) t := fun _ hk hb => ((less_bit ht hu hk h1).mp hb).2
theorem sub_le {s : Nat} (hs : s < 64) : ∀ t, t < 64 → q_sub s t → s ≤ t := by
  intro t
  induction t using Nat.strongRecOn with
  | _ t ih =>
    intro ht h
    by_cases c : s = t
    · exact Nat.le_of_eq c
    · obtain ⟨u, hu, h1, h2⟩ := sub_ne hs ht h c
      have := bit_le h1
      have := Nat.two_pow_pos u
      have := ih (t - 2 ^ u) (by omega) (by omega) (sub_rm ht hu h h1 h2)
      omega
theorem RR_ge {ev : Nat → Bool} {t u : Nat} (hu : u < 6) (h1 : t / 2 ^ u % 2 = 1) : q_RR ev (t - 2 ^ u) + (if ev t = true then 1 else 0) ≤ q_RR ev t := by
  have h0 : t ≠ 0 := by
    intro e
    rw [e, Nat.zero_div] at h1; cases h1
  rw [RR_rec h0]
  have := (mx_all (f := q_RR ev) (s := t) 6).1 u hu h1
  exact Nat.add_le_add_right this _
theorem RR_mono {ev : Nat → Bool} {s : Nat} (hs : s < 64) : ∀ t, t < 64 → q_sub s t → q_RR ev s ≤ q_RR ev t := by
  intro t
  induction t using Nat.strongRecOn with
  | _ t ih =>
    intro ht h
    by_cases c : s = t
    · rw [c]; exact Nat.le_refl _
    · obtain ⟨u, hu, h1, h2⟩ := sub_ne hs ht h c
      have := bit_le h1
      have := Nat.two_pow_pos u
      have h3 := ih (t - 2 ^ u) (by omega) (by omega) (sub_rm ht hu h h1 h2)
      have h4 := RR_ge (ev := ev) hu h1
      omega
theorem RR_step {ev : Nat → Bool} {s t : Nat} (hs : s < 64) (ht : t < 64) (h : q_sub s t) (hne : s ≠ t) (he : ev t = true) : q_RR ev s + 1 ≤ q_RR ev t := by
  obtain ⟨u, hu, h1, h2⟩ := sub_ne hs ht h hne
  have h3 := RR_mono (ev := ev) hs (t - 2 ^ u) (Nat.lt_of_le_of_lt (Nat.sub_le _ _) ht) (sub_rm ht hu h h1 h2)
  have h4 := RR_ge (ev := ev) hu h1
  rw [if_pos he] at h4
  omega
theorem RR_at {ev : Nat → Bool} {s : Nat} (hs : s < 64) (h0 : s ≠ 0) : ∃ u, u < 6 ∧ s / 2 ^ u % 2 = 1 ∧ q_RR ev s = q_RR ev (s - 2 ^ u) + (if ev s = true then 1 else 0) := by
  obtain ⟨h1, h2⟩ := mx_all (f := q_RR ev) (s := s) 6
  rw [RR_rec h0]
  rcases h2 with h2 | ⟨u, hu, hb, h2⟩
  · obtain ⟨u, hu, hb, -⟩ := sub_ne (s := 0) (t := s) (by omega) hs (fun k _ hb => by rw [Nat.zero_div] at hb; cases hb) (fun e => h0 e.symm)
    have h3 := h1 u hu hb
    refine ⟨u, hu, hb, ?_⟩
    have h4 : q_mx (q_RR ev) s = 0 := h2
    rw [h4]
    rw [h2] at h3
    omega
  · exact ⟨u, hu, hb, by rw [← h2]; rfl⟩
theorem sub_trans {a b c : Nat} (h : q_sub a b) (h' : q_sub b c) : q_sub a c := fun k hk hb => h' k hk (h k hk hb)
theorem RR_down {ev : Nat → Bool} (he : ev 0 = true) : ∀ s, s < 64 → ∃ s0, q_sub s0 s ∧ s0 < 64 ∧ ev s0 = true ∧ q_RR ev s0 = q_RR ev s := by
  intro s
  induction s using Nat.strongRecOn with
  | _ s ih =>
    intro hs
    by_cases c : ev s = true
    · exact ⟨s, fun _ _ h => h, hs, c, rfl⟩
    · have h0 : s ≠ 0 := fun e => c (e ▸ he)
      obtain ⟨u, hu, hb, h1⟩ := RR_at (ev := ev) hs h0
      have := bit_le hb
      have := Nat.two_pow_pos u
      obtain ⟨s0, a1, a2, a3, a4⟩ := ih (s - 2 ^ u) (by omega) (by omega)
      rw [if_neg c] at h1
      exact ⟨s0, sub_trans a1 (rm_sub hs hu hb), a2, a3, by rw [a4, h1]; rfl⟩
theorem RR_down1 {ev : Nat → Bool} (he : ev 0 = true) {s : Nat} (hs : s < 64) (h0 : s ≠ 0) (hev : ev s = true) : ∃ s0, q_sub s0 s ∧ s0 < s ∧ ev s0 = true ∧ q_RR ev s = q_RR ev s0 + 1 := by
  obtain ⟨u, hu, hb, h1⟩ := RR_at (ev := ev) hs h0
  have := bit_le hb
  have := Nat.two_pow_pos u
  obtain ⟨s0, a1, a2, a3, a4⟩ := RR_down he (s - 2 ^ u) (by omega)
  rw [if_pos hev] at h1
  refine ⟨s0, sub_trans a1 (rm_sub hs hu hb), ?_, a3, by rw [a4, h1]⟩
  have := sub_le a2 (s - 2 ^ u) (by omega) a1
  omega
/-! sums over sets -/
def q_ss2 (p : Nat → Bool) (g : Nat → Nat) (n : Nat) : Nat := q_sum (fun i => if p i = true then g i else 0) n
theorem sum_congr {f g : Nat → Nat} : ∀ n, (∀ i, i < n → f i = g i) → q_sum f n = q_sum g n := by
  intro n
  induction n with
  | zero => exact fun _ => rfl
  | succ n ih =>
    intro h
    show q_sum f n + f n = q_sum g n + g n
    rw [ih fun i hi => h i (by omega), h n (by omega)]
theorem sum_add {f g : Nat → Nat} : ∀ n, q_sum (fun i => f i + g i) n = q_sum f n + q_sum g n := by
  intro n
  induction n with
  | zero => rfl
  | succ n ih =>
    show q_sum (fun i => f i + g i) n + (f n + g n) = q_sum f n + f n + (q_sum g n + g n)
    rw [ih]; omega
theorem sum_le1 {f : Nat → Nat} {i : Nat} : ∀ n, i < n → f i ≤ q_sum f n := by
  intro n
  induction n with
  | zero => exact fun h => absurd h (Nat.not_lt_zero i)
  | succ n ih =>
    intro h
    show f i ≤ q_sum f n + f n
    by_cases c : i = n
    · rw [c]; omega
    · have := ih (by omega); omega
theorem sum_bd {f : Nat → Nat} {B : Nat} : ∀ n, (∀ i, i < n → f i ≤ B) → q_sum f n ≤ n * B := by
  intro n
  induction n with
  | zero => exact fun _ => Nat.zero_le _
  | succ n ih =>
    intro h
    show q_sum f n + f n ≤ _
    have h1 := ih fun i hi => h i (by omega)
    have h2 := h n (by omega)
    rw [Nat.succ_mul]
    omega
theorem sum_rm {f : Nat → Nat} {i : Nat} : ∀ n, i < n → q_sum f n = f i + q_sum (fun k => if k = i then 0 else f k) n := by
  intro n
  induction n with
  | zero => exact fun h => absurd h (Nat.not_lt_zero i)
  | succ n ih =>
    intro h
    show q_sum f n + f n = f i + (q_sum (fun k => if k = i then 0 else f k) n + (if n = i then 0 else f n))
    by_cases c : n = i
    · rw [if_pos c, c]
      have : q_sum (fun k => if k = i then 0 else f k) i = q_sum f i := sum_congr i fun k hk => if_neg (by omega)
      rw [this]; omega
    · rw [if_neg c, ih (by omega)]; omega
theorem has_max {p : Nat → Bool} {x : Nat → Nat} : ∀ n, (∃ i, i < n ∧ p i = true) → ∃ i, i < n ∧ p i = true ∧ ∀ k, k < n → p k = true → x k ≤ x i := by
  intro n
  induction n with
  | zero => exact fun ⟨i, h, _⟩ => absurd h (Nat.not_lt_zero i)
  | succ n ih =>
    rintro ⟨i, hi, hp⟩
    by_cases c : ∃ i, i < n ∧ p i = true
    · obtain ⟨j, hj, h1, h2⟩ := ih c
      by_cases c2 : p n = true ∧ x j < x n
      · refine ⟨n, by omega, c2.1, fun k hk hpk => ?_⟩
        by_cases e : k = n
        · rw [e]; exact Nat.le_refl _
        · have := h2 k (by omega) hpk; omega
      · refine ⟨j, by omega, h1, fun k hk hpk => ?_⟩
        by_cases e : k = n
        · subst e
          have : ¬ x j < x k := fun z => c2 ⟨hpk, z⟩
          omega
        · exact h2 k (by omega) hpk
    · have e : i = n := Classical.byContradiction fun z => c ⟨i, by omega, hp⟩
      subst e
      refine ⟨i, by omega, hp, fun k hk hpk => ?_⟩
      by_cases e : k = i
      · rw [e]; exact Nat.le_refl _
      · exact absurd ⟨k, by omega, hpk⟩ c
/-- sums of powers that are the same: some to some -/
theorem pow_bij {n : Nat} (hn : n ≤ 6) {x y : Nat → Nat} : ∀ m, ∀ A B : Nat → Bool, q_cnt A n = m → q_ss2 A (fun i => 16 ^ x i) n = q_ss2 B (fun i => 16 ^ y i) n → ∃ f : Nat → Nat, (∀ i, i < n → A i = true → f i < n ∧ B (f i) = true ∧ x i = y (f i)) ∧ ∀ i k, i < n → k < n → A i = true → A k = true → f i = f k → i = k := by
  intro m
  induction m with
  | zero =>
    intro A B h0 _
    have hno : ∀ i, i < n → ¬ A i = true := by
      intro i hi ha
      have : ∀ n, i < n → 0 < q_cnt A n := by
        intro n
        induction n with
        | zero => exact fun h => absurd h (Nat.not_lt_zero i)
        | succ n ih =>
          intro h
          rw [cnt_succ]
          by_cases c : i = n
          · rw [← c, if_pos ha]; omega
          · have := ih (by omega); omega
      have := this n hi
      omega
    exact ⟨id, fun i hi ha => absurd ha (hno i hi), fun i k hi _ ha => absurd ha (hno i hi)⟩
  | succ m ih =>
    intro A B hm he
    have hex : ∃ i, i < n ∧ A i = true := by
      apply Classical.byContradiction
      intro hno
      have : ∀ j, j ≤ n → q_cnt A j = 0 := by
        intro j
        induction j with
        | zero => exact fun _ => rfl
        | succ j ih =>
          intro hj
          rw [cnt_succ, ih (by omega), if_neg fun z => hno ⟨j, by omega, z⟩]
      rw [this n (Nat.le_refl n)] at hm
      cases hm
    obtain ⟨i0, hi0, ha0, hmax⟩ := has_max (x := x) n hex
    generalize ha : x i0 = a at hmax
    have hp : 0 < 16 ^ a := Nat.pow_pos (by omega)
    have hlo : 16 ^ a ≤ q_ss2 A (fun i => 16 ^ x i) n := by
      have := sum_le1 (f := fun i => if A i = true then 16 ^ x i else 0) n hi0
      simp only [ha0, if_true, ha] at this
      exact this
    have hhi : q_ss2 A (fun i => 16 ^ x i) n ≤ 6 * 16 ^ a := by
      have h1 := sum_bd (f := fun i => if A i = true then 16 ^ x i else 0) (B := 16 ^ a) n fun i hi => by
        by_cases c : A i = true
        · simp only [c, if_true]
          exact Nat.pow_le_pow_right (by omega) (hmax i hi c)
        · simp only [c, if_false]; exact Nat.zero_le _
      exact Nat.le_trans h1 (Nat.mul_le_mul_right _ hn)
    have hj : ∃ j, j < n ∧ B j = true ∧ y j = a := by
      apply Classical.byContradiction
      intro hno
      rw [he] at hlo hhi
      by_cases c : ∃ j, j < n ∧ B j = true ∧ a < y j
      · obtain ⟨j, hj, hb, hlt⟩ := c
        have h1 := sum_le1 (f := fun i => if B i = true then 16 ^ y i else 0) n hj
        simp only [hb, if_true] at h1
        have h2 : 16 ^ (a + 1) ≤ 16 ^ y j := Nat.pow_le_pow_right (by omega) hlt
        rw [Nat.pow_succ] at h2
        have h3 : q_ss2 B (fun i => 16 ^ y i) n = q_sum (fun i => if B i = true then 16 ^ y i else 0) n := rfl
        omega
      · have hlt : ∀ j, j < n → B j = true → y j < a := fun j hj hb => by
          have h1 : ¬ a < y j := fun z => c ⟨j, hj, hb, z⟩
          have h2 : ¬ y j = a := fun z => hno ⟨j, hj, hb, z⟩
          omega
        rcases Nat.eq_zero_or_pos a with z | z
        · have : q_ss2 B (fun i => 16 ^ y i) n ≤ n * 0 := sum_bd n fun i hi => by
            by_cases c : B i = true
            · have := hlt i hi c; omega
            · simp only [c, if_false]; exact Nat.le_refl _
          omega
        · obtain ⟨a', rfl⟩ : ∃ a', a = a' + 1 := ⟨a - 1, by omega⟩
          have h1 : q_ss2 B (fun i => 16 ^ y i) n ≤ n * 16 ^ a' := sum_bd n fun i hi => by
            by_cases c : B i = true
            · have := hlt i hi c
              simp only [c, if_true]
              exact Nat.pow_le_pow_right (by omega) (by omega)
            · simp only [c, if_false]; exact Nat.zero_le _
          have h2 : n * 16 ^ a' ≤ 6 * 16 ^ a' := Nat.mul_le_mul_right _ hn
          rw [Nat.pow_succ] at hlo hp
          omega
    obtain ⟨j0, hj0, hb0, hy0⟩ := hj
    have eA : q_ss2 A (fun i => 16 ^ x i) n = 16 ^ a + q_ss2 (fun i => A i && !decide (i = i0)) (fun i => 16 ^ x i) n := by
      unfold q_ss2
      rw [sum_rm (f := fun i => if A i = true then 16 ^ x i else 0) n hi0]
      simp only [ha0, if_true, ha]
      congr 1
      refine sum_congr n fun i _ => ?_
      by_cases c : i = i0 <;> by_cases c2 : A i = true <;> simp [c, c2]
    have eB : q_ss2 B (fun i => 16 ^ y i) n = 16 ^ a + q_ss2 (fun i => B i && !decide (i = j0)) (fun i => 16 ^ y i) n := by
      unfold q_ss2
      rw [sum_rm (f := fun i => if B i = true then 16 ^ y i else 0) n hj0]
      simp only [hb0, if_true, hy0]
      congr 1
      refine sum_congr n fun i _ => ?_
      by_cases c : i = j0 <;> by_cases c2 : B i = true <;> simp [c, c2]
    have hc : q_cnt (fun i => A i && !decide (i = i0)) n = m := by
      have : ∀ j, (i0 < j → q_cnt A j = q_cnt (fun i => A i && !decide (i = i0)) j + 1) ∧ (j ≤ i0 → q_cnt A j = q_cnt (fun i => A i && !decide (i = i0)) j) := by
        intro j
        induction j with
        | zero => exact ⟨fun h => absurd h (Nat.not_lt_zero _), fun _ => rfl⟩
        | succ j ih =>
          refine ⟨fun h => ?_, fun h => ?_⟩
          · rw [cnt_succ, cnt_succ]
            by_cases c : j = i0
            · rw [ih.2 (by omega)]; simp [c, ha0]
            · rw [ih.1 (by omega)]
              by_cases c2 : A j = true <;> simp [c, c2] <;> omega
          · rw [cnt_succ, cnt_succ, ih.2 (by omega)]
            have c : j ≠ i0 := by omega
            by_cases c2 : A j = true <;> simp [c, c2]
      have := (this n).1 hi0
      omega
    obtain ⟨f, h1, h2⟩ := ih (fun i => A i && !decide (i = i0)) (fun i => B i && !decide (i = j0)) hc (by rw [eA, eB] at he; omega)
    have h1' : ∀ i, i < n → A i = true → i ≠ i0 → f i < n ∧ B (f i) = true ∧ f i ≠ j0 ∧ x i = y (f i) := fun i hi hai hne => by
      obtain ⟨a1, a2, a3⟩ := h1 i hi (by simp [hai, hne])
      have a4 : B (f i) = true ∧ f i ≠ j0 := by simpa using a2
      exact ⟨a1, a4.1, a4.2, a3⟩
    refine ⟨fun i => if i = i0 then j0 else f i, fun i hi hai => ?_, fun i k hi hk hai hak hfe => ?_⟩
    · by_cases c : i = i0
      · simp only [c, if_true]
        exact ⟨hj0, hb0, by rw [ha, hy0]⟩
      · simp only [c, if_false]
        obtain ⟨a1, a2, -, a4⟩ := h1' i hi hai c
        exact ⟨a1, a2, a4⟩
    · by_cases c : i = i0
      · by_cases c2 : k = i0
        · rw [c, c2]
        · simp only [c, c2, if_true, if_false] at hfe
          exact absurd hfe.symm (h1' k hk hak c2).2.2.1
      · by_cases c2 : k = i0
        · simp only [c, c2, if_true, if_false] at hfe
          exact absurd hfe (h1' i hi hai c).2.2.1
        · simp only [c, c2, if_false] at hfe
          exact h2 i k hi hk (by simp [hai, c]) (by simp [hak, c2]) hfe
