/-! SETS of numbers below six, as bits -/
def q_mask (c : Nat → Bool) : Nat → Nat
  | 0 => 0
  | v + 1 => q_mask c v + (if c v = true then 2 ^ v else 0)
def q_pop (n : Nat) : Nat := n % 2 + n / 2 % 2 + n / 4 % 2 + n / 8 % 2 + n / 16 % 2 + n / 32 % 2
theorem mask_lt (c : Nat → Bool) (U : Nat) : q_mask c U < 2 ^ U := by
  induction U with
  | zero => exact Nat.one_pos
  | succ U ih =>
    show q_mask c U + (if c U = true then 2 ^ U else 0) < 2 ^ (U + 1)
    rw [Nat.pow_succ]
    split <;> omega
theorem mask_bit (c : Nat → Bool) (U k : Nat) : q_mask c U / 2 ^ k % 2 = if k < U ∧ c k = true then 1 else 0 := by
  induction U with
  | zero =>
    rw [if_neg (by omega)]
    show 0 / 2 ^ k % 2 = 0
    rw [Nat.zero_div]
  | succ U ih =>
    show (q_mask c U + (if c U = true then 2 ^ U else 0)) / 2 ^ k % 2 = _
    have hlt := mask_lt c U
    by_cases hk : k < U
    · have e : ∀ b : Nat, (q_mask c U + b * 2 ^ U) / 2 ^ k % 2 = q_mask c U / 2 ^ k % 2 := fun b => by
        obtain ⟨j, rfl⟩ : ∃ j, U = k + 1 + j := ⟨U - k - 1, by omega⟩
        rw [show b * 2 ^ (k + 1 + j) = 2 ^ k * (2 * (b * 2 ^ j)) by rw [Nat.pow_add, Nat.pow_add]; simp only [Nat.pow_one, Nat.mul_assoc, Nat.mul_left_comm, Nat.mul_comm], Nat.add_mul_div_left _ _ (Nat.two_pow_pos k)]
        omega
      have e2 : (q_mask c U + (if c U = true then 2 ^ U else 0)) / 2 ^ k % 2 = q_mask c U / 2 ^ k % 2 := by
        split
        · have := e 1; rw [Nat.one_mul] at this; exact this
        · rfl
      rw [e2, ih]
      by_cases hc : c k = true
      · rw [if_pos ⟨hk, hc⟩, if_pos ⟨by omega, hc⟩]
      · rw [if_neg (fun z => hc z.2), if_neg (fun z => hc z.2)]
    · by_cases hk2 : k = U
      · subst hk2
        by_cases hc : c k = true
        · rw [if_pos hc, if_pos ⟨by omega, hc⟩, Nat.add_div_right _ (Nat.two_pow_pos k), Nat.div_eq_of_lt hlt]
        · rw [if_neg hc, if_neg (fun z => hc z.2), Nat.add_zero, Nat.div_eq_of_lt hlt]
      · rw [if_neg (show ¬ (k < U + 1 ∧ c k = true) from fun z => absurd z.1 (by omega))]
        have : (q_mask c U + (if c U = true then 2 ^ U else 0)) < 2 ^ k := by
          have h1 : q_mask c U + (if c U = true then 2 ^ U else 0) < 2 ^ (U + 1) := mask_lt c (U + 1)
          exact Nat.lt_of_lt_of_le h1 (Nat.pow_le_pow_right (by omega) (by omega))
        rw [Nat.div_eq_of_lt this]
def q_shl (v : Nat) : Int32 := (1 : Int32) <<< (w v &&& 31)
theorem or_shl : ∀ v, v < 8 → ∀ n, n < 2 ^ v → w n ||| ((1 : Int32) <<< (w v &&& 31)) = w (n + 2 ^ v) := by decide +kernel
theorem bit_w : ∀ n, n < 256 → ∀ k, k < 8 → ((w n >>> (w k &&& 31)) &&& 1 = 1 ↔ n / 2 ^ k % 2 = 1) := by decide +kernel
theorem or_mask {U : Nat} (hU : U ≤ 8) (c : Nat → Bool) : q_it (fun v b => b ||| (if c v = true then (1 : Int32) <<< (w v &&& 31) else 0)) U 0 = w (q_mask c U) := by
  induction U with
  | zero => rfl
  | succ U ih =>
    show q_it _ U 0 ||| _ = w (q_mask c U + _)
    rw [ih (by omega)]
    by_cases hc : c U = true
    · rw [if_pos hc, if_pos hc]
      exact or_shl U (by omega) _ (mask_lt c U)
    · rw [if_neg hc, if_neg hc, Nat.add_zero]
      exact Int32.or_zero
theorem and_pred : ∀ n, n < 256 → 0 < n → w n &&& (w n - 1) = w (n &&& (n - 1)) := by decide +kernel
theorem pop_pred : ∀ n, n < 64 → 0 < n → q_pop (n &&& (n - 1)) + 1 = q_pop n := by decide +kernel
theorem pop_le : ∀ n, n < 64 → q_pop n ≤ 6 := by decide +kernel
theorem less_one : ∀ n, n < 64 → ∀ u, u < 6 → n / 2 ^ u % 2 = 1 → w n &&& (((1 : Int32) <<< (w u &&& 31)) ^^^ (-1)) = w (n - 2 ^ u) := by decide +kernel
theorem less_pop : ∀ n, n < 64 → ∀ u, u < 6 → n / 2 ^ u % 2 = 1 → (n - 2 ^ u = 0 ↔ q_pop n ≤ 1) := by decide +kernel
theorem less_bit0 : ((List.range 64).all fun n => (List.range 6).all fun u => (List.range 6).all fun k => !decide (n / 2 ^ u % 2 = 1) || (decide ((n - 2 ^ u) / 2 ^ k % 2 = 1) == (!decide (k = u) && decide (n / 2 ^ k % 2 = 1)))) = true := by decide +kernel
theorem less_bit {n u k : Nat} (hn : n < 64) (hu : u < 6) (hk : k < 6) (h : n / 2 ^ u % 2 = 1) : (n - 2 ^ u) / 2 ^ k % 2 = 1 ↔ ¬ k = u ∧ n / 2 ^ k % 2 = 1 := by
  have h1 := List.all_eq_true.mp (List.all_eq_true.mp (List.all_eq_true.mp less_bit0 n (List.mem_range.mpr hn)) u (List.mem_range.mpr hu)) k (List.mem_range.mpr hk)
  rw [decide_eq_true h] at h1
  have h2 : decide ((n - 2 ^ u) / 2 ^ k % 2 = 1) = (!decide (k = u) && decide (n / 2 ^ k % 2 = 1)) := by simpa using h1
  by_cases c1 : k = u <;> by_cases c2 : n / 2 ^ k % 2 = 1 <;> by_cases c3 : (n - 2 ^ u) / 2 ^ k % 2 = 1 <;> simp [c1, c2, c3] at h2 ⊢ <;> simp_all
section BITS
variable {J : qI} {L : qL} {s : qS}
theorem bits_eq {n : Nat} (hn : n < 64) : jD 197 [.int (w n)] (J, L, s) = some (some (.int (w (q_pop n))), J, L, s) := by
  have key : ∀ n, n < 64 → ∀ a : Nat, jd 197 1 [none, some (.int (w a)), some (.int (w n))] [] (J, L, s) = some (some (.int (w (a + q_pop n))), J, L, s) := by
    intro n
    induction n using Nat.strongRecOn with
    | _ n ih =>
      intro hn a
      rw [E_197_1]
      by_cases h0 : n = 0
      · subst h0
        rw [if_pos (show w 0 = 0 from rfl), E_197_2]
        rfl
      · rw [if_neg (by rw [show (0 : Int32) = w 0 from rfl, w_eq (by omega) (by omega)]; exact h0), and_pred n (by omega) (by omega), w_inc]
        have hlt : n &&& (n - 1) < n := Nat.lt_of_le_of_lt Nat.and_le_right (by omega)
        rw [ih _ hlt (by omega), ← pop_pred n hn (by omega)]
        rw [show a + 1 + q_pop (n &&& (n - 1)) = a + (q_pop (n &&& (n - 1)) + 1) by omega]
  rw [D_197, E_197_0]
  have := key n hn 0
  rw [Nat.zero_add] at this
  exact this
end BITS
theorem flock_mask {ai sp : Nat → Int32} {u U : Nat} (hU : U ≤ 6) (ha : ¬ ai u < 0) : q_flock ai sp u U = w (q_mask (fun v => decide (ai v = ai u ∧ sp v = sp u)) U) := by
  unfold q_flock
  rw [if_neg ha, ← or_mask (by omega)]
  congr 1
  funext v b
  by_cases c : ai v = ai u ∧ sp v = sp u
  · rw [if_pos c, if_pos (decide_eq_true c)]
  · rw [if_neg c, if_neg (by rw [decide_eq_true_eq]; exact c)]
