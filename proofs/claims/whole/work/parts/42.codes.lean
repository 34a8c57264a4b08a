/-! ROUTES as codes: four bits for each stop -/
theorem tb_w {n : Nat} : (w n).toBitVec = BitVec.ofNat 32 n := rfl
theorem w_of_bv {x : Int32} {n : Nat} (h : x.toBitVec.toNat = n % 4294967296) : x = w n := by
  apply Int32.toBitVec_inj.mp
  apply BitVec.eq_of_toNat_eq
  rw [tb_w, BitVec.toNat_ofNat]
  exact h
theorem or_w {a b : Nat} : w a ||| w b = w (a ||| b) := by
  apply w_of_bv
  show (BitVec.ofNat 32 a ||| BitVec.ofNat 32 b).toNat = _
  rw [BitVec.toNat_or, BitVec.toNat_ofNat, BitVec.toNat_ofNat]
  exact (Nat.or_mod_two_pow (a := a) (b := b) (n := 32)).symm
theorem and_w {a b : Nat} : w a &&& w b = w (a &&& b) := by
  apply w_of_bv
  show (BitVec.ofNat 32 a &&& BitVec.ofNat 32 b).toNat = _
  rw [BitVec.toNat_and, BitVec.toNat_ofNat, BitVec.toNat_ofNat]
  exact (Nat.and_mod_two_pow (a := a) (b := b) (n := 32)).symm
theorem shl_w {a j : Nat} (hj : j < 32) : w a <<< w j = w (a * 2 ^ j) := by
  apply w_of_bv
  show ((BitVec.ofNat 32 a) <<< ((BitVec.ofNat 32 j).smod 32)).toNat = _
  have e : (BitVec.ofNat 32 j).smod 32 = BitVec.ofNat 32 j := by
    have : ∀ j, j < 32 → (BitVec.ofNat 32 j).smod 32 = BitVec.ofNat 32 j := by decide +kernel
    exact this j hj
  rw [e]
  show ((BitVec.ofNat 32 a) <<< (BitVec.ofNat 32 j).toNat).toNat = _
  rw [BitVec.toNat_shiftLeft, BitVec.toNat_ofNat, BitVec.toNat_ofNat, Nat.mod_eq_of_lt (show j < 2 ^ 32 by omega), Nat.shiftLeft_eq]
  exact Nat.mod_mul_mod _ _ _
theorem shr_w {a j : Nat} (ha : a < 2147483648) (hj : j < 32) : w a >>> w j = w (a / 2 ^ j) := by
  apply w_of_bv
  show ((BitVec.ofNat 32 a).sshiftRight' ((BitVec.ofNat 32 j).smod 32)).toNat = _
  have e : (BitVec.ofNat 32 j).smod 32 = BitVec.ofNat 32 j := by
    have : ∀ j, j < 32 → (BitVec.ofNat 32 j).smod 32 = BitVec.ofNat 32 j := by decide +kernel
    exact this j hj
  have hle : a / 2 ^ j ≤ a := Nat.div_le_self _ _
  rw [e]
  show ((BitVec.ofNat 32 a).sshiftRight (BitVec.ofNat 32 j).toNat).toNat = _
  rw [BitVec.sshiftRight_eq_of_msb_false, BitVec.toNat_ushiftRight, BitVec.toNat_ofNat, BitVec.toNat_ofNat, Nat.mod_eq_of_lt (show j < 2 ^ 32 by omega), Nat.mod_eq_of_lt (show a < 2 ^ 32 by omega), Nat.shiftRight_eq_div_pow, Nat.mod_eq_of_lt (by omega)]
  rw [BitVec.msb_eq_decide]
  simp only [BitVec.toNat_ofNat]
  apply decide_eq_false
  rw [Nat.mod_eq_of_lt (show a < 2 ^ 32 by omega)]
  omega
theorem and31 {j : Nat} (hj : j < 32) : w j &&& 31 = w j := by
  have : ∀ j, j < 32 → w j &&& 31 = w j := by decide +kernel
  exact this j hj
/-- the code of k stops g -/
def q_cd (g : Nat → Nat) : Nat → Nat
  | 0 => 0
  | k + 1 => q_cd g k + (g k + 1) * 16 ^ k
theorem cd_lt {g : Nat → Nat} : ∀ {k : Nat}, (∀ i, i < k → g i < 8) → q_cd g k < 16 ^ k := by
  intro k
  induction k with
  | zero => intro _; exact Nat.one_pos
  | succ k ih =>
    intro h
    have h1 := ih fun i hi => h i (by omega)
    have h2 := h k (by omega)
    show q_cd g k + (g k + 1) * 16 ^ k < 16 ^ (k + 1)
    have h3 : (g k + 1) * 16 ^ k ≤ 8 * 16 ^ k := Nat.mul_le_mul_right _ (by omega)
    rw [Nat.pow_succ]
    omega
theorem cd_dig {g : Nat → Nat} : ∀ {k : Nat}, (∀ i, i < k → g i < 8) → ∀ i, q_cd g k / 16 ^ i % 16 = if i < k then g i + 1 else 0 := by
  intro k
  induction k with
  | zero =>
    intro _ i
    rw [if_neg (by omega)]
    show 0 / 16 ^ i % 16 = 0
    rw [Nat.zero_div]
  | succ k ih =>
    intro h i
    have hlt := cd_lt (g := g) (k := k) fun i hi => h i (by omega)
    show (q_cd g k + (g k + 1) * 16 ^ k) / 16 ^ i % 16 = _
    by_cases c : i < k
    · rw [if_pos (by omega)]
      obtain ⟨j, rfl⟩ : ∃ j, k = i + 1 + j := ⟨k - i - 1, by omega⟩
      rw [show (g (i + 1 + j) + 1) * 16 ^ (i + 1 + j) = 16 ^ i * (16 * ((g (i + 1 + j) + 1) * 16 ^ j)) by rw [Nat.pow_add, Nat.pow_add]; simp only [Nat.pow_one, Nat.mul_assoc, Nat.mul_left_comm, Nat.mul_comm], Nat.add_mul_div_left _ _ (Nat.pow_pos (by omega))]
      have := ih (fun i hi => h i (by omega)) i
      rw [if_pos c] at this
      omega
    · by_cases c2 : i = k
      · subst c2
        rw [if_pos (by omega), Nat.add_mul_div_right _ _ (Nat.pow_pos (by omega)), Nat.div_eq_of_lt hlt]
        have := h i (by omega)
        omega
      · rw [if_neg (by omega)]
        have h1 : q_cd g k + (g k + 1) * 16 ^ k < 16 ^ (k + 1) := cd_lt (g := g) (k := k + 1) h
        rw [Nat.div_eq_of_lt (Nat.lt_of_lt_of_le h1 (Nat.pow_le_pow_right (by omega) (by omega)))]
theorem stop_w {c i : Nat} (hc : c < 1048576) (hi : i < 5) : q_stop (w c) (w i) = w (c / 16 ^ i % 16) - 1 := by
  unfold q_stop
  rw [if_neg (w_nn (by omega)), if_pos (by rw [show (5 : Int32) = w 5 from rfl, w_lt (by omega) (by omega)]; exact hi), show (4 : Int32) = w 4 from rfl, w_mul, and31 (by omega), shr_w (by omega) (by omega), show (15 : Int32) = w 15 from rfl, and_w]
  congr 2
  rw [show (15 : Nat) = 2 ^ 4 - 1 from rfl, Nat.and_two_pow_sub_one_eq_mod, show (16 : Nat) ^ i = 2 ^ (4 * i) by rw [Nat.pow_mul]]
theorem stop_cd {g : Nat → Nat} {k : Nat} (hk : k ≤ 5) (h : ∀ i, i < k → g i < 8) {i : Nat} (hi : i < 5) : q_stop (w (q_cd g k)) (w i) = if i < k then w (g i) else -1 := by
  have h1 : q_cd g k < 1048576 := Nat.lt_of_lt_of_le (cd_lt h) (Nat.pow_le_pow_right (n := 16) (by omega) hk)
  rw [stop_w h1 hi, cd_dig h i]
  by_cases c : i < k
  · have := h i c
    rw [if_pos c, if_pos c, w_dec (by omega) (by omega), Nat.add_sub_cancel]
  · rw [if_neg c, if_neg c]; rfl
theorem with_w {p d b : Nat} (hp : p < 16 ^ d) (hd : d < 5) (hb : b < 8) : q_with (w p) (w d) (w b) = w (p + (b + 1) * 16 ^ d) := by
  unfold q_with
  rw [if_neg (w_nn (by omega)), if_pos (by rw [show (5 : Int32) = w 5 from rfl, w_lt (by omega) (by omega)]; exact hd), show (4 : Int32) = w 4 from rfl, w_mul, and31 (by omega), w_inc, shl_w (by omega), or_w]
  congr 1
  have e : (16 : Nat) ^ d = 2 ^ (4 * d) := by rw [Nat.pow_mul]
  rw [e] at hp ⊢
  rw [Nat.or_comm, ← Nat.shiftLeft_eq, ← Nat.shiftLeft_add_eq_or_of_lt hp, Nat.add_comm]
theorem or_bit : ∀ b, b < 8 → ∀ n, n < 256 → n / 2 ^ b % 2 = 0 → w n ||| ((1 : Int32) <<< (w b &&& 31)) = w (n + 2 ^ b) := by decide +kernel
theorem add_bit0 : ((List.range 256).all fun n => (List.range 8).all fun b => (List.range 8).all fun k => !decide (n / 2 ^ b % 2 = 0) || (decide (n + 2 ^ b < 256) && (decide ((n + 2 ^ b) / 2 ^ k % 2 = 1) == (decide (k = b) || decide (n / 2 ^ k % 2 = 1))))) = true := by decide +kernel
theorem add_bit {n b k : Nat} (hn : n < 256) (hb : b < 8) (hk : k < 8) (h : n / 2 ^ b % 2 = 0) : n + 2 ^ b < 256 ∧ ((n + 2 ^ b) / 2 ^ k % 2 = 1 ↔ k = b ∨ n / 2 ^ k % 2 = 1) := by
  have h1 := List.all_eq_true.mp (List.all_eq_true.mp (List.all_eq_true.mp add_bit0 n (List.mem_range.mpr hn)) b (List.mem_range.mpr hb)) k (List.mem_range.mpr hk)
  rw [decide_eq_true h] at h1
  have h2 : n + 2 ^ b < 256 ∧ (decide ((n + 2 ^ b) / 2 ^ k % 2 = 1) = (decide (k = b) || decide (n / 2 ^ k % 2 = 1))) := by simpa using h1
  refine ⟨h2.1, ?_⟩
  have h3 := h2.2
  by_cases c1 : k = b <;> by_cases c2 : n / 2 ^ k % 2 = 1 <;> by_cases c3 : (n + 2 ^ b) / 2 ^ k % 2 = 1 <;> simp [c1, c2, c3] at h3 ⊢ <;> simp_all
