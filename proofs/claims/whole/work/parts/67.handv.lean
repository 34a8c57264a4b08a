/-! HANDINGS: who gives; even sets; the theorem -/
def q_wh (c : Nat → Bool) : Nat → Nat → Nat
  | 0, _ => 0
  | u + 1, i => if c u = true ∧ i = q_cnt c u then u else q_wh c u i
theorem wh_lt {c : Nat → Bool} {U i : Nat} (h : i < q_cnt c U) : q_wh c (U + 1) i = q_wh c U i := if_neg (fun z => by omega)
theorem wh_spec {c : Nat → Bool} : ∀ U i, i < q_cnt c U → q_wh c U i < U ∧ c (q_wh c U i) = true ∧ q_cnt c (q_wh c U i) = i := by
  intro U
  induction U with
  | zero => exact fun i h => absurd h (Nat.not_lt_zero i)
  | succ U ih =>
    intro i h
    rw [cnt_succ] at h
    by_cases c1 : c U = true ∧ i = q_cnt c U
    · have e : q_wh c (U + 1) i = U := if_pos c1
      rw [e]
      exact ⟨by omega, c1.1, c1.2.symm⟩
    · have hl : i < q_cnt c U := by
        by_cases c2 : c U = true
        · rw [if_pos c2] at h
          have : i ≠ q_cnt c U := fun z => c1 ⟨c2, z⟩
          omega
        · rw [if_neg c2] at h; omega
      rw [wh_lt hl]
      obtain ⟨a, b, d⟩ := ih i hl
      exact ⟨by omega, b, d⟩
theorem cnt_wh {c : Nat → Bool} {u : Nat} : ∀ U, u < U → c u = true → q_cnt c u < q_cnt c U ∧ q_wh c U (q_cnt c u) = u := by
  intro U
  induction U with
  | zero => exact fun h => absurd h (Nat.not_lt_zero u)
  | succ U ih =>
    intro h hc
    by_cases e : u = U
    · subst e
      refine ⟨by rw [cnt_succ, if_pos hc]; omega, if_pos ⟨hc, rfl⟩⟩
    · obtain ⟨h1, h2⟩ := ih (by omega) hc
      exact ⟨by rw [cnt_succ]; omega, by rw [wh_lt h1]; exact h2⟩
theorem sum_wh {c : Nat → Bool} {G : Nat → Nat} : ∀ U, q_sum (fun u => if c u = true then G u else 0) U = q_sum (fun i => G (q_wh c U i)) (q_cnt c U) := by
  intro U
  induction U with
  | zero => rfl
  | succ U ih =>
    show q_sum (fun u => if c u = true then G u else 0) U + (if c U = true then G U else 0) = _
    rw [ih, cnt_succ]
    have e : q_sum (fun i => G (q_wh c U i)) (q_cnt c U) = q_sum (fun i => G (q_wh c (U + 1) i)) (q_cnt c U) := sum_congr _ fun i hi => by rw [wh_lt hi]
    rw [e]
    by_cases c1 : c U = true
    · rw [if_pos c1, if_pos c1]
      show _ = q_sum _ (q_cnt c U) + G (q_wh c (U + 1) (q_cnt c U))
      have : q_wh c (U + 1) (q_cnt c U) = U := if_pos ⟨c1, rfl⟩
      rw [this]
    · rw [if_neg c1, if_neg c1]; rfl
theorem sum_cut {f : Nat → Nat} {U : Nat} : ∀ n, (∀ k, U ≤ k → k < U + n → f k = 0) → q_sum f (U + n) = q_sum f U := by
  intro n
  induction n with
  | zero => exact fun _ => rfl
  | succ n ih =>
    intro h
    show q_sum f (U + n) + f (U + n) = _
    rw [ih fun k h1 h2 => h k h1 (by omega), h (U + n) (by omega) (by omega), Nat.add_zero]
def q_es (s : Nat) (g : Nat → Nat) : Nat := q_sum (fun u => if s / 2 ^ u % 2 = 1 then g u else 0) 6
def q_ev (hm bk : Nat → Nat) (s : Nat) : Bool := decide (q_es s (fun u => 16 ^ bk u) = q_es s (fun u => 16 ^ hm u))
def q_inM (c : Nat → Bool) (U s : Nat) : Prop := s < 64 ∧ ∀ k, k < 6 → s / 2 ^ k % 2 = 1 → k < U ∧ c k = true
def q_id (c : Nat → Bool) (U s i : Nat) : Bool := decide (s / 2 ^ q_wh c U i % 2 = 1)
theorem es_ix {c : Nat → Bool} {U s : Nat} {g : Nat → Nat} (hU : U ≤ 6) (hs : q_inM c U s) : q_es s g = q_ss2 (q_id c U s) (fun i => g (q_wh c U i)) (q_cnt c U) := by
  unfold q_es
  have e6 : q_sum (fun u => if s / 2 ^ u % 2 = 1 then g u else 0) 6 = q_sum (fun u => if s / 2 ^ u % 2 = 1 then g u else 0) U := by
    have := sum_cut (f := fun u => if s / 2 ^ u % 2 = 1 then g u else 0) (U := U) (6 - U) fun k h1 h2 => if_neg fun z => by have := (hs.2 k (by omega) z).1; omega
    rw [show U + (6 - U) = 6 by omega] at this
    exact this
  rw [e6]
  have e : q_sum (fun u => if s / 2 ^ u % 2 = 1 then g u else 0) U = q_sum (fun u => if c u = true then (if s / 2 ^ u % 2 = 1 then g u else 0) else 0) U := sum_congr U fun u hu => by
    by_cases c1 : c u = true
    · rw [if_pos c1]
    · rw [if_neg c1, if_neg fun z => c1 (hs.2 u (by omega) z).2]
  rw [e, sum_wh (G := fun u => if s / 2 ^ u % 2 = 1 then g u else 0)]
  unfold q_ss2
  refine sum_congr _ fun i _ => ?_
  unfold q_id
  by_cases c1 : s / 2 ^ q_wh c U i % 2 = 1
  · rw [if_pos c1, if_pos (decide_eq_true c1)]
  · rw [if_neg c1, if_neg (by rw [decide_eq_true_eq]; exact c1)]
/-! orders and sums -/
theorem perm_sum {l l' : List Nat} (h : l.Perm l') (G : Nat → Nat) : (l.map G).sum = (l'.map G).sum := by
  induction h with
  | nil => rfl
  | cons x _ ih => simp only [List.map_cons, List.sum_cons, ih]
  | swap x y l => simp only [List.map_cons, List.sum_cons]; omega
  | trans _ _ h1 h2 => exact h1.trans h2
theorem sum_list {f : Nat → Nat} : ∀ n, q_sum f n = ((List.range n).map f).sum := by
  intro n
  induction n with
  | zero => rfl
  | succ n ih =>
    rw [List.range_succ, List.map_append, List.sum_append, ← ih]
    show q_sum f n + f n = _
    simp
theorem sum_perm {n : Nat} {σ : List Nat} (h : σ.Perm (List.range n)) (G : Nat → Nat) : q_sum (fun i => G (σ.getD i 0)) n = q_sum G n := by
  have hl : σ.length = n := by rw [h.length_eq, List.length_range]
  have e : (List.range n).map (fun i => G (σ.getD i 0)) = σ.map G := by
    apply List.ext_getElem
    · simp [hl]
    · intro i h1 h2
      have h3 : i < σ.length := by simpa using h2
      simp [List.getD_eq_getElem?_getD, List.getElem?_eq_getElem h3]
  rw [sum_list, e, perm_sum h G, ← sum_list]
theorem clo_sum {n : Nat} {σ : List Nat} (h : σ.Perm (List.range n)) {p : Nat → Bool} (hc : ∀ i, i < n → p i = p (σ.getD i 0)) {x y : Nat → Nat} (hv : ∀ i, i < n → x i = y (σ.getD i 0)) : q_ss2 p (fun i => 16 ^ x i) n = q_ss2 p (fun i => 16 ^ y i) n := by
  unfold q_ss2
  rw [← sum_perm h (fun i => if p i = true then 16 ^ y i else 0)]
  refine sum_congr n fun i hi => ?_
  show (if p i = true then 16 ^ x i else 0) = if p (σ.getD i 0) = true then 16 ^ y (σ.getD i 0) else 0
  rw [← hc i hi, hv i hi]
def q_mu (c : Nat → Bool) (U m : Nat) : Nat := q_mask (fun u => c u && decide (m / 2 ^ q_cnt c u % 2 = 1)) U
theorem mask_lt64 {c : Nat → Bool} {U : Nat} (hU : U ≤ 6) : q_mask c U < 64 := Nat.lt_of_lt_of_le (mask_lt c U) (show 2 ^ U ≤ 2 ^ 6 from Nat.pow_le_pow_right (by decide) hU)
theorem mu_bit {c : Nat → Bool} {U m k : Nat} : q_mu c U m / 2 ^ k % 2 = 1 ↔ k < U ∧ c k = true ∧ m / 2 ^ q_cnt c k % 2 = 1 := by
  unfold q_mu
  rw [mask_bit]
  by_cases h : k < U ∧ (c k && decide (m / 2 ^ q_cnt c k % 2 = 1)) = true
  · rw [if_pos h]
    have := h.2
    rw [Bool.and_eq_true, decide_eq_true_eq] at this
    exact ⟨fun _ => ⟨h.1, this⟩, fun _ => rfl⟩
  · rw [if_neg h]
    refine ⟨fun z => (by cases z), fun z => absurd ⟨z.1, ?_⟩ h⟩
    rw [Bool.and_eq_true, decide_eq_true_eq]
    exact z.2
theorem mask_b {c : Nat → Bool} {U k : Nat} : q_mask c U / 2 ^ k % 2 = 1 ↔ k < U ∧ c k = true := by
  rw [mask_bit]
  by_cases h : k < U ∧ c k = true
  · rw [if_pos h]; exact ⟨fun _ => h, fun _ => rfl⟩
  · rw [if_neg h]; exact ⟨fun z => (by cases z), fun z => absurd z h⟩
theorem mu_in {c : Nat → Bool} {U m : Nat} (hU : U ≤ 6) : q_inM c U (q_mu c U m) := ⟨mask_lt64 hU, fun k _ h => ⟨(mu_bit.mp h).1, (mu_bit.mp h).2.1⟩⟩
theorem mu_id {c : Nat → Bool} {U m i : Nat} (hi : i < q_cnt c U) : q_id c U (q_mu c U m) i = decide (m / 2 ^ i % 2 = 1) := by
  obtain ⟨h1, h2, h3⟩ := wh_spec U i hi
  unfold q_id
  apply decide_eq_decide.mpr
  rw [mu_bit, h3]
  exact ⟨fun z => z.2.2, fun z => ⟨h1, h2, z⟩⟩
def q_va (hm bk : Nat → Nat) (c : Nat → Bool) (U : Nat) (σ : List Nat) : Prop := ∀ i, i < q_cnt c U → hm (q_wh c U i) = bk (q_wh c U (σ.getD i 0))
def q_rd (n : Nat) (σ : List Nat) : Nat := match q_ms σ n with
  | some ms => ms.length - 1
  | none => 0
section HV
variable {hm bk : Nat → Nat} {c : Nat → Bool} {U : Nat} {σ : List Nat}
theorem va_ev (hU : U ≤ 6) (hp : σ.Perm (List.range (q_cnt c U))) (hv : q_va hm bk c U σ) {s : Nat} (hs : q_inM c U s) (hc : ∀ i, i < q_cnt c U → q_id c U s i = q_id c U s (σ.getD i 0)) : q_ev hm bk s = true := by
  unfold q_ev
  rw [es_ix hU hs, es_ix hU hs]
  exact decide_eq_true (clo_sum hp hc (x := fun i => hm (q_wh c U i)) (y := fun i => bk (q_wh c U i)) hv).symm
theorem perm_lt {n : Nat} (hp : σ.Perm (List.range n)) {i : Nat} (hi : i < n) : σ.getD i 0 < n := by
  have hl : σ.length = n := by rw [hp.length_eq, List.length_range]
  have h3 : i < σ.length := by omega
  have : σ.getD i 0 ∈ σ := by
    rw [List.getD_eq_getElem?_getD, List.getElem?_eq_getElem h3]
    exact List.getElem_mem h3
  exact List.mem_range.mp (hp.mem_iff.mp this)
theorem lad_le (hU : U ≤ 6) (hp : σ.Perm (List.range (q_cnt c U))) (hv : q_va hm bk c U σ) : ∀ ms, q_lad (q_cnt c U) ms = true → ms.all (q_clo (q_cnt c U) σ) = true → ∀ m r, ms = m :: r → r.length ≤ q_RR (q_ev hm bk) (q_mu c U m) := by
  intro ms
  induction ms with
  | nil => intro _ _ m r e; cases e
  | cons m' ms ih =>
    intro hl ha m r e
    obtain ⟨rfl, rfl⟩ : m' = m ∧ ms = r := by injection e with e1 e2; exact ⟨e1, e2⟩
    match ms, ih, hl, ha with
    | [], _, _, _ => exact Nat.zero_le _
    | m :: r, ih, hl, ha =>
      have ha2 := ha
      rw [List.all_cons, Bool.and_eq_true] at ha
      have hl' : (((List.range (q_cnt c U)).all fun k => decide (m / 2 ^ k % 2 = 1 → m' / 2 ^ k % 2 = 1)) && ((List.range (q_cnt c U)).any fun k => decide (m' / 2 ^ k % 2 = 1 ∧ ¬ m / 2 ^ k % 2 = 1)) && q_lad (q_cnt c U) (m :: r)) = true := hl
      rw [Bool.and_eq_true, Bool.and_eq_true] at hl'
      obtain ⟨⟨h1, h2⟩, h3⟩ := hl'
      have h4 := ih h3 ha.2 m r rfl
      obtain ⟨j, hj, h5⟩ := List.any_eq_true.mp h2
      rw [decide_eq_true_eq] at h5
      have hj' := List.mem_range.mp hj
      have h6 : ∀ i, i < q_cnt c U → m / 2 ^ i % 2 = 1 → m' / 2 ^ i % 2 = 1 := fun i hi => of_decide_eq_true (List.all_eq_true.mp h1 i (List.mem_range.mpr hi))
      have h7 : ∀ i, i < q_cnt c U → m' / 2 ^ i % 2 = m' / 2 ^ (σ.getD i 0) % 2 := by
        have := ha.1
        unfold q_clo at this
        rw [Bool.and_eq_true] at this
        exact fun i hi => of_decide_eq_true (List.all_eq_true.mp this.2 i (List.mem_range.mpr hi))
      have hsub : q_sub (q_mu c U m) (q_mu c U m') := fun k _ hk => by
        rw [mu_bit] at hk ⊢
        exact ⟨hk.1, hk.2.1, h6 _ (cnt_wh U hk.1 hk.2.1).1 hk.2.2⟩
      have hne : q_mu c U m ≠ q_mu c U m' := fun e => by
        have e1 := mu_id (c := c) (U := U) (m := m) hj'
        have e2 := mu_id (c := c) (U := U) (m := m') hj'
        rw [e, e2] at e1
        rw [decide_eq_true h5.1, decide_eq_false h5.2] at e1
        cases e1
      have hev := va_ev hU hp hv (mu_in (m := m') hU) fun i hi => by
        rw [mu_id hi, mu_id (perm_lt hp hi), h7 i hi]
      have := RR_step (ev := q_ev hm bk) (s := q_mu c U m) (t := q_mu c U m') (mask_lt64 hU) (mask_lt64 hU) hsub hne hev
      show r.length + 1 ≤ _
      omega
theorem ok_perm {n : Nat} (hn : n < 7) (hσ : σ ∈ q_L n) : σ.Perm (List.range n) ∧ ∃ m r, q_ms σ n = some (m :: r) ∧ (m :: r).all (q_clo n σ) = true ∧ q_lad n (m :: r) = true ∧ q_str n σ ≤ r.length := by
  have h := List.all_eq_true.mp (ords_ok n hn).2.1 σ hσ
  unfold q_ok1 at h
  rw [Bool.and_eq_true] at h
  refine ⟨List.isPerm_iff.mp h.1, ?_⟩
  have h2 := h.2
  split at h2
  · rename_i m r e
    rw [Bool.and_eq_true, Bool.and_eq_true, decide_eq_true_eq] at h2
    exact ⟨m, r, e, h2.1.1, h2.1.2, h2.2⟩
  · cases h2
theorem cnt6 (hU : U ≤ 6) : q_cnt c U < 7 := by have := cnt_le (c := c) U; omega
/-- no order has more rounds than the longest chain -/
theorem rd_le (hU : U ≤ 6) (hσ : σ ∈ q_L (q_cnt c U)) (hv : q_va hm bk c U σ) : q_rd (q_cnt c U) σ ≤ q_RR (q_ev hm bk) (q_mask c U) := by
  obtain ⟨hp, m, r, e, h1, h2, -⟩ := ok_perm (cnt6 hU) hσ
  have h3 := lad_le hU hp hv (m :: r) h2 h1 m r rfl
  have h4 := RR_mono (ev := q_ev hm bk) (s := q_mu c U m) (mask_lt64 hU) (q_mask c U) (mask_lt64 hU) fun k _ hk => mask_b.mpr ⟨(mu_bit.mp hk).1, (mu_bit.mp hk).2.1⟩
  unfold q_rd
  rw [e]
  show (m :: r).length - 1 ≤ _
  rw [List.length_cons]
  omega
theorem mask_in (hU : U ≤ 6) : q_inM c U (q_mask c U) := ⟨mask_lt64 hU, fun _ _ h => mask_b.mp h⟩
theorem mask_id {i : Nat} (hi : i < q_cnt c U) : q_id c U (q_mask c U) i = true := decide_eq_true (mask_b.mpr ⟨(wh_spec U i hi).1, (wh_spec U i hi).2.1⟩)
/-- an order exists only if all come out even -/
theorem va_all (hU : U ≤ 6) (hσ : σ ∈ q_L (q_cnt c U)) (hv : q_va hm bk c U σ) : q_ev hm bk (q_mask c U) = true := by
  obtain ⟨hp, -⟩ := ok_perm (cnt6 hU) hσ
  exact va_ev hU hp hv (mask_in hU) fun i hi => by rw [mask_id hi, mask_id (perm_lt hp hi)]
/-! orders that have as many rounds as the longest chain -/
def q_fi (f : Nat → Nat) : Nat → Nat → Nat
  | 0, i => i
  | k + 1, i => f (q_fi f k i)
theorem cnt_more {p q : Nat → Bool} {m : Nat} : ∀ n, (∀ i, i < n → p i = true → q i = true) → q_cnt p n ≤ q_cnt q n ∧ (m < n → q m = true → ¬ p m = true → q_cnt p n + 1 ≤ q_cnt q n) := by
  intro n
  induction n with
  | zero => exact fun _ => ⟨Nat.le_refl _, fun h => absurd h (Nat.not_lt_zero m)⟩
  | succ n ih =>
    intro h
    obtain ⟨h1, h2⟩ := ih fun i hi => h i (by omega)
    rw [cnt_succ, cnt_succ]
    have h3 := h n (by omega)
    have h4 : (if p n = true then 1 else 0) ≤ (if q n = true then 1 else 0) := by
      by_cases c1 : p n = true
      · rw [if_pos c1, if_pos (h3 c1)]; exact Nat.le_refl _
      · rw [if_neg c1]; exact Nat.zero_le _
    refine ⟨Nat.add_le_add h1 h4, fun hm hq hp => ?_⟩
    by_cases e : m = n
    · subst e
      rw [if_pos hq, if_neg hp]
      omega
    · have := h2 (by omega) hq hp
      omega
theorem has_min {p : Nat → Bool} {i : Nat} (hp : p i = true) : ∃ m, p m = true ∧ m ≤ i ∧ ∀ k, p k = true → m ≤ k := by
  induction i using Nat.strongRecOn with
  | _ i ih =>
    by_cases c : ∃ k, k < i ∧ p k = true
    · obtain ⟨k, h1, h2⟩ := c
      obtain ⟨m, a, b, d⟩ := ih k h1 h2
      exact ⟨m, a, by omega, d⟩
    · exact ⟨i, hp, Nat.le_refl _, fun k hk => Classical.byContradiction fun z => c ⟨k, by omega, hk⟩⟩
theorem ev_zero : q_ev hm bk 0 = true := by
  refine decide_eq_true ?_
  unfold q_es
  refine sum_congr 6 fun i _ => ?_
  rw [Nat.zero_div, if_neg (by decide), if_neg (by decide)]
theorem fi_stay {f : Nat → Nat} {P : Nat → Prop} (h : ∀ i, P i → P (f i)) {i : Nat} (hi : P i) : ∀ k, P (q_fi f k i) := by
  intro k
  induction k with
  | zero => exact hi
  | succ k ih => exact h _ ih
theorem fi_same {f g : Nat → Nat} {P : Nat → Prop} (h : ∀ i, P i → P (f i) ∧ g i = f i) {i : Nat} (hi : P i) : ∀ k, q_fi g k i = q_fi f k i := by
  intro k
  induction k with
  | zero => rfl
  | succ k ih =>
    show g (q_fi g k i) = f (q_fi f k i)
    rw [ih]
    exact (h _ (fi_stay (fun i hi => (h i hi).1) hi k)).2
theorem best_f (hU : U ≤ 6) : ∀ s, q_inM c U s → q_ev hm bk s = true → ∃ f : Nat → Nat, (∀ i, i < q_cnt c U → q_id c U s i = true → f i < q_cnt c U ∧ q_id c U s (f i) = true ∧ hm (q_wh c U i) = bk (q_wh c U (f i))) ∧ (∀ i k, i < q_cnt c U → k < q_cnt c U → q_id c U s i = true → q_id c U s k = true → f i = f k → i = k) ∧ q_RR (q_ev hm bk) s ≤ q_cnt (fun i => q_id c U s i && q_sta (q_fi f) i) (q_cnt c U) := by
  intro s
  induction s using Nat.strongRecOn with
  | _ s ih =>
    intro hs hev
    by_cases c0 : s = 0
    · subst c0
      have hno : ∀ i, ¬ q_id c U 0 i = true := fun i h => by
        have := of_decide_eq_true h
        rw [Nat.zero_div] at this; cases this
      exact ⟨id, fun i _ h => absurd h (hno i), fun i k _ _ h => absurd h (hno i), Nat.zero_le _⟩
    · obtain ⟨s0, hsub, hlt, hev0, hR⟩ := RR_down1 ev_zero hs.1 c0 hev
      have hs0 : q_inM c U s0 := ⟨by have := hs.1; omega, fun k hk h => hs.2 k hk (hsub k hk h)⟩
      obtain ⟨f0, f1, f2, f3⟩ := ih s0 hlt hs0 hev0
      have hid : ∀ i, i < q_cnt c U → q_id c U s0 i = true → q_id c U s i = true := fun i hi h => decide_eq_true (hsub _ (by have := (wh_spec U i hi).1; omega) (of_decide_eq_true h))
      have hsplit : ∀ g : Nat → Nat, q_ss2 (q_id c U s) g (q_cnt c U) = q_ss2 (q_id c U s0) g (q_cnt c U) + q_ss2 (fun i => q_id c U s i && !q_id c U s0 i) g (q_cnt c U) := fun g => by
        unfold q_ss2
        rw [← sum_add]
        refine sum_congr _ fun i hi => ?_
        have := hid i hi
        by_cases a : q_id c U s0 i = true
        · simp [a, this a]
        · by_cases b : q_id c U s i = true <;> simp [a, b]
      have e1 := of_decide_eq_true hev
      have e0 := of_decide_eq_true hev0
      rw [es_ix hU hs, es_ix hU hs, hsplit, hsplit] at e1
      rw [es_ix hU hs0, es_ix hU hs0] at e0
      obtain ⟨g, g1, g2⟩ := pow_bij (n := q_cnt c U) (by have := cnt_le (c := c) U; omega) (x := fun i => hm (q_wh c U i)) (y := fun i => bk (q_wh c U i)) _ (fun i => q_id c U s i && !q_id c U s0 i) (fun i => q_id c U s i && !q_id c U s0 i) rfl (by omega)
      have g1' : ∀ i, i < q_cnt c U → q_id c U s i = true → ¬ q_id c U s0 i = true → g i < q_cnt c U ∧ q_id c U s (g i) = true ∧ ¬ q_id c U s0 (g i) = true ∧ hm (q_wh c U i) = bk (q_wh c U (g i)) := fun i hi h1 h2 => by
        obtain ⟨a1, a2, a3⟩ := g1 i hi (by simp [h1, h2])
        have a4 : q_id c U s (g i) = true ∧ q_id c U s0 (g i) = false := by simpa using a2
        exact ⟨a1, a4.1, by rw [a4.2]; decide, a3⟩
      have k0 : ∀ i, q_id c U s0 i = true → (if q_id c U s0 i = true then f0 i else g i) = f0 i := fun i h => if_pos h
      have k1 : ∀ i, ¬ q_id c U s0 i = true → (if q_id c U s0 i = true then f0 i else g i) = g i := fun i h => if_neg h
      refine ⟨fun i => if q_id c U s0 i = true then f0 i else g i, fun i hi h => ?_, fun i k hi hk h h' e => ?_, ?_⟩
      · by_cases a : q_id c U s0 i = true
        · simp only [k0 i a]
          obtain ⟨b1, b2, b3⟩ := f1 i hi a
          exact ⟨b1, hid _ b1 b2, b3⟩
        · simp only [k1 i a]
          obtain ⟨b1, b2, b3, b4⟩ := g1' i hi h a
          exact ⟨b1, b2, b4⟩
      · by_cases a : q_id c U s0 i = true
        · by_cases b : q_id c U s0 k = true
          · simp only [k0 i a, k0 k b] at e
            exact f2 i k hi hk a b e
          · simp only [k0 i a, k1 k b] at e
            exact absurd (e ▸ (f1 i hi a).2.1) (g1' k hk h' b).2.2.1
        · by_cases b : q_id c U s0 k = true
          · simp only [k1 i a, k0 k b] at e
            exact absurd (e ▸ (f1 k hk b).2.1) (g1' i hi h a).2.2.1
          · simp only [k1 i a, k1 k b] at e
            exact g2 i k hi hk (by simp [h, a]) (by simp [h', b]) e
      · have hs64 := hs.1
        obtain ⟨u, hu, hb, hnb⟩ := sub_ne (by omega) hs64 hsub (by omega)
        obtain ⟨hu1, hu2⟩ := hs.2 u hu hb
        obtain ⟨hc1, hc2⟩ := cnt_wh U hu1 hu2
        obtain ⟨m, hm1, hm2, hm3⟩ := has_min (p := fun i => decide (i < q_cnt c U) && (q_id c U s i && !q_id c U s0 i)) (i := q_cnt c u) (by
          have a1 : q_id c U s (q_cnt c u) = true := decide_eq_true (by rw [hc2]; exact hb)
          have a2 : ¬ q_id c U s0 (q_cnt c u) = true := fun z => by
            have := of_decide_eq_true z
            rw [hc2] at this; exact hnb this
          simp [hc1, a1, a2])
        have hm4 : m < q_cnt c U ∧ q_id c U s m = true ∧ q_id c U s0 m = false := by simpa using hm1
        obtain ⟨m1, m2, m3⟩ := hm4
        have m3' : ¬ q_id c U s0 m = true := by rw [m3]; decide
        have := (cnt_more (p := fun i => q_id c U s0 i && q_sta (q_fi f0) i) (q := fun i => q_id c U s i && q_sta (q_fi (fun i => if q_id c U s0 i = true then f0 i else g i)) i) (m := m) (q_cnt c U) fun i hi h => by
          rw [Bool.and_eq_true] at h
          rw [Bool.and_eq_true]
          refine ⟨hid i hi h.1, ?_⟩
          have h2 := h.2
          unfold q_sta at h2 ⊢
          rw [List.all_eq_true] at h2 ⊢
          intro k hk
          have e := fi_same (f := f0) (g := fun i => if q_id c U s0 i = true then f0 i else g i) (P := fun i => i < q_cnt c U ∧ q_id c U s0 i = true) (fun i hi => ⟨⟨(f1 i hi.1 hi.2).1, (f1 i hi.1 hi.2).2.1⟩, if_pos hi.2⟩) ⟨hi, h.1⟩ k
          rw [e]
          exact h2 k hk).2 m1 (by
            rw [Bool.and_eq_true]
            refine ⟨m2, ?_⟩
            unfold q_sta
            rw [List.all_eq_true]
            intro k _
            refine decide_eq_true ?_
            have e := fi_stay (f := fun i => if q_id c U s0 i = true then f0 i else g i) (P := fun i => i < q_cnt c U ∧ q_id c U s i = true ∧ ¬ q_id c U s0 i = true) (fun i hi => by
              simp only [k1 i hi.2.2]
              obtain ⟨b1, b2, b3, -⟩ := g1' i hi.1 hi.2.1 hi.2.2
              exact ⟨b1, b2, b3⟩) ⟨m1, m2, m3'⟩ k
            exact hm3 _ (by simp [e.1, e.2.1, e.2.2])) (by simp [m3])
        rw [hR]
        omega
theorem best_rd (hU : U ≤ 6) (hev : q_ev hm bk (q_mask c U) = true) : ∃ σ, σ ∈ q_L (q_cnt c U) ∧ q_va hm bk c U σ ∧ q_RR (q_ev hm bk) (q_mask c U) ≤ q_rd (q_cnt c U) σ := by
  obtain ⟨f, f1, f2, f3⟩ := best_f (hm := hm) (bk := bk) hU _ (mask_in hU) hev
  have hg : ∀ i, i < q_cnt c U → ((List.range (q_cnt c U)).map f).getD i 0 = f i := fun i hi => by
    rw [List.getD_eq_getElem?_getD, List.getElem?_map, List.getElem?_range hi]; rfl
  have hσ : (List.range (q_cnt c U)).map f ∈ q_L (q_cnt c U) := by
    refine gen_mem _ _ _ (by simp) ?_ fun x hx => ?_
    · unfold List.Nodup
      rw [List.pairwise_map]
      refine List.Pairwise.imp_of_mem (fun {a b} ha hb hlt e => ?_) List.pairwise_lt_range
      have ha' := List.mem_range.mp ha
      have hb' := List.mem_range.mp hb
      have := f2 a b ha' hb' (mask_id ha') (mask_id hb') e
      omega
    · obtain ⟨i, hi, rfl⟩ := List.mem_map.mp hx
      have hi' := List.mem_range.mp hi
      exact List.mem_range.mpr (f1 i hi' (mask_id hi')).1
  obtain ⟨-, m, r, e, -, -, h3⟩ := ok_perm (cnt6 hU) hσ
  refine ⟨_, hσ, fun i hi => by rw [hg i hi]; exact (f1 i hi (mask_id hi)).2.2, ?_⟩
  unfold q_rd
  rw [e]
  show _ ≤ (m :: r).length - 1
  rw [List.length_cons]
  have h4 : q_cnt (fun i => q_id c U (q_mask c U) i && q_sta (q_fi f) i) (q_cnt c U) ≤ q_str (q_cnt c U) ((List.range (q_cnt c U)).map f) := by
    unfold q_str
    refine (cnt_more (m := 0) (q_cnt c U) fun i hi h => ?_).1
    rw [Bool.and_eq_true] at h
    have h2 := h.2
    unfold q_sta at h2 ⊢
    rw [List.all_eq_true] at h2 ⊢
    intro k hk
    have : q_li ((List.range (q_cnt c U)).map f) k i = q_fi f k i ∧ q_fi f k i < q_cnt c U := by
      clear hk
      induction k with
      | zero => exact ⟨rfl, hi⟩
      | succ k ih =>
        refine ⟨?_, (f1 _ ih.2 (mask_id ih.2)).1⟩
        show ((List.range (q_cnt c U)).map f).getD (q_li _ k i) 0 = f (q_fi f k i)
        rw [ih.1, hg _ ih.2]
    rw [this.1]
    exact h2 k hk
  omega
end HV
