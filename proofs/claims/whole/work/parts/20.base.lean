/-! THE PURE HALF: memory as tables of ints and longs over a fixed graph of cells -/
abbrev qI : Type := Nat → Nat → Int32
abbrev qL : Type := Nat → Nat → Int64
abbrev qS : Type := (Nat → Nat → Nat) × (Nat → Nat) × (Nat → Nat) × Nat × Nat
def qr (s : qS) : Nat → Nat → Nat := s.1
def qk (s : qS) : Nat → Nat := s.2.1
def qz (s : qS) : Nat → Nat := s.2.2.1
def q_up (I : qI) (a : Nat) (f : Nat → Int32) : qI := fun b => if b = a then f else I b
def q_set (f : Nat → Int32) (k : Nat) (v : Int32) : Nat → Int32 := fun j => if j = k then v else f j
def q_upl (L : qL) (a : Nat) (f : Nat → Int64) : qL := fun b => if b = a then f else L b
def q_setl (f : Nat → Int64) (k : Nat) (v : Int64) : Nat → Int64 := fun j => if j = k then v else f j
section Q0
variable {I : qI} {L : qL} {s : qS}
theorem q_i : jm_i (I, L, s) = I := rfl
theorem q_l : jm_l (I, L, s) = L := rfl
theorem q_r : jm_r (I, L, s) = qr s := rfl
theorem q_k : jm_k (I, L, s) = qk s := rfl
theorem q_z : jm_z (I, L, s) = qz s := rfl
theorem q_si {a k : Nat} {v : Int32} : jm_si (I, L, s) a k v = (q_up I a (q_set (I a) k v), L, s) := by
  show (jm_up I a k v, L, s) = _
  have h : jm_up I a k v = q_up I a (q_set (I a) k v) := by
    funext b j
    unfold jm_up q_up q_set
    by_cases h1 : b = a
    · subst h1
      by_cases h2 : j = k
      · subst h2; rw [if_pos ⟨rfl, rfl⟩, if_pos rfl, if_pos rfl]
      · rw [if_neg (fun z => h2 z.2), if_pos rfl, if_neg h2]
    · rw [if_neg (fun z => h1 z.1), if_neg h1]
  rw [h]
theorem q_sl {a k : Nat} {v : Int64} : jm_sl (I, L, s) a k v = (I, q_upl L a (q_setl (L a) k v), s) := by
  show (I, jm_up L a k v, s) = _
  have h : jm_up L a k v = q_upl L a (q_setl (L a) k v) := by
    funext b j
    unfold jm_up q_upl q_setl
    by_cases h1 : b = a
    · subst h1
      by_cases h2 : j = k
      · subst h2; rw [if_pos ⟨rfl, rfl⟩, if_pos rfl, if_pos rfl]
      · rw [if_neg (fun z => h2 z.2), if_pos rfl, if_neg h2]
    · rw [if_neg (fun z => h1 z.1), if_neg h1]
  rw [h]
theorem q_up_eq {a : Nat} {f : Nat → Int32} : q_up I a f a = f := if_pos rfl
theorem q_up_ne {a b : Nat} {f : Nat → Int32} (h : b ≠ a) : q_up I a f b = I b := if_neg h
theorem q_up_up {a : Nat} {f g : Nat → Int32} : q_up (q_up I a f) a g = q_up I a g := by
  funext b
  unfold q_up
  by_cases h : b = a
  · rw [if_pos h, if_pos h]
  · rw [if_neg h, if_neg h, if_neg h]
theorem q_up_self {a : Nat} : q_up I a (I a) = I := by
  funext b
  unfold q_up
  by_cases h : b = a
  · subst h; rw [if_pos rfl]
  · rw [if_neg h]
theorem q_set_eq {f : Nat → Int32} {k : Nat} {v : Int32} : q_set f k v k = v := if_pos rfl
theorem q_set_ne {f : Nat → Int32} {k j : Nat} {v : Int32} (h : j ≠ k) : q_set f k v j = f j := if_neg h
end Q0
/-! small numbers -/
abbrev w (n : Nat) : Int32 := Int32.ofNat n
section WN
variable {a b : Nat}
theorem w_int (h : a < 2147483648) : (w a).toInt = a := Int32.toInt_ofNat_of_lt h
theorem w_tc (h : a < 2147483648) : (w a).toNatClampNeg = a := Int32.toNatClampNeg_ofNat_of_lt h
theorem w_le (h : a < 2147483648) (h' : b < 2147483648) : w a ≤ w b ↔ a ≤ b := by
  rw [Int32.le_iff_toInt_le, w_int h, w_int h']; omega
theorem w_lt (h : a < 2147483648) (h' : b < 2147483648) : w a < w b ↔ a < b := by
  rw [Int32.lt_iff_toInt_lt, w_int h, w_int h']; omega
theorem w_nn (h : a < 2147483648) : ¬ w a < 0 := by
  rw [Int32.lt_iff_toInt_lt, w_int h]
  show ¬ (a : Int) < 0
  omega
theorem w_eq (h : a < 2147483648) (h' : b < 2147483648) : w a = w b ↔ a = b := by
  refine ⟨fun e => ?_, fun e => by rw [e]⟩
  have h1 := congrArg Int32.toInt e
  rw [w_int h, w_int h'] at h1
  omega
theorem w_add : w a + w b = w (a + b) := (Int32.ofNat_add a b).symm
theorem w_mul : w a * w b = w (a * b) := (Int32.ofNat_mul a b).symm
theorem w_sub (h : b ≤ a) (h' : a < 2147483648) : w a - w b = w (a - b) := by
  apply Int32.toInt_inj.mp
  rw [Int32.toInt_sub, w_int h', w_int (a := b) (by omega), w_int (a := a - b) (by omega)]
  rw [Int.bmod_eq_of_le (by omega) (by omega)]
  omega
theorem w_dec (h : 0 < a) (h' : a < 2147483648) : w a - 1 = w (a - 1) := w_sub (b := 1) h h'
theorem w_inc : w a + 1 = w (a + 1) := w_add (b := 1)
end WN
theorem i_nn {x : Int32} (h : ¬ x < 0) : x = w x.toNatClampNeg ∧ x.toNatClampNeg < 2147483648 := by
  have h0 : (0 : Int) ≤ x.toInt := by
    have := Int32.not_lt.mp h
    simpa using Int32.le_iff_toInt_le.mp this
  have hlt : x.toInt < 2147483648 := by
    have := Int32.toInt_lt x
    simpa using this
  have e : (x.toNatClampNeg : Int) = x.toInt := by
    show ((x.toInt.toNat : Nat) : Int) = _
    omega
  have h2 : x.toNatClampNeg < 2147483648 := by omega
  refine ⟨?_, h2⟩
  apply Int32.toInt_inj.mp
  rw [w_int h2, e]
/-! rows: the array of a Row at r lies at r + 1 -/
def qRow (s : qS) (r n : Nat) : Prop := qk s r = 7 ∧ qr s r 0 = r + 1 ∧ qk s (r + 1) = 20 ∧ qz s (r + 1) = n ∧ n < 1000000
def q_at (n : Nat) (f : Nat → Int32) (i : Int32) : Int32 := if i < 0 then 0 else if w n ≤ i then 0 else f i.toNatClampNeg
def q_put (n : Nat) (f : Nat → Int32) (i v : Int32) : Nat → Int32 := if i < 0 then f else if w n ≤ i then f else q_set f i.toNatClampNeg v
theorem q_at_w {n : Nat} {f : Nat → Int32} {k : Nat} (hn : n < 1000000) (hk : k < n) : q_at n f (w k) = f k := by
  unfold q_at
  rw [if_neg (w_nn (by omega)), if_neg (by rw [w_le (by omega) (by omega)]; omega), w_tc (by omega)]
theorem q_put_w {n : Nat} {f : Nat → Int32} {k : Nat} {v : Int32} (hn : n < 1000000) (hk : k < n) : q_put n f (w k) v = q_set f k v := by
  unfold q_put
  rw [if_neg (w_nn (by omega)), if_neg (by rw [w_le (by omega) (by omega)]; omega), w_tc (by omega)]
theorem q_in {n : Nat} {i : Int32} (hn : n < 1000000) (h1 : ¬ i < 0) (h2 : ¬ w n ≤ i) : ¬ (i < 0 ∨ n ≤ i.toNatClampNeg) := by
  intro h
  rcases h with h | h
  · exact h1 h
  · apply h2
    obtain ⟨e, hlt⟩ := i_nn h1
    rw [e, w_le (by omega) hlt]
    exact h
section ROW
variable {I : qI} {L : qL} {s : qS} {r n : Nat}
theorem look_eq (h : qRow s r n) (i : Int32) : jD 79 [.ref r, .int i] (I, L, s) = some (some (.int (q_at n (I (r + 1)) i)), I, L, s) := by
  obtain ⟨h1, h2, h3, h4, h5⟩ := h
  rw [D_79, E_79_0]
  unfold q_at
  simp only [q_i, q_l, q_k, q_r, q_z, q_si, q_sl, jx_lt, jx_ri, jx_rl, jx_rv, if_true, if_false, Nat.reduceLeDiff, Nat.add_one_ne_zero, and_self, true_or, or_true, Nat.reduceEqDiff, or_self, or_false, false_or, h1, h2, h3, h4, E_79_1, E_79_2]
  by_cases c1 : i < 0
  · rw [if_pos c1, if_pos c1]
  · rw [if_neg c1, if_neg c1]
    by_cases c2 : w n ≤ i
    · rw [if_pos c2, if_pos c2]
    · rw [if_neg c2, if_neg c2, if_neg (q_in h5 c1 c2)]
theorem put_eq (h : qRow s r n) (i v : Int32) : jD 80 [.ref r, .int i, .int v] (I, L, s) = some (none, q_up I (r + 1) (q_put n (I (r + 1)) i v), L, s) := by
  obtain ⟨h1, h2, h3, h4, h5⟩ := h
  rw [D_80, E_80_0]
  unfold q_put
  simp only [q_i, q_l, q_k, q_r, q_z, q_si, q_sl, jx_lt, jx_ri, jx_rl, jx_rv, if_true, if_false, Nat.reduceLeDiff, Nat.add_one_ne_zero, and_self, true_or, or_true, Nat.reduceEqDiff, or_self, or_false, false_or, h1, h2, h3, h4, E_80_1]
  by_cases c1 : i < 0
  · rw [if_pos c1, if_pos c1, q_up_self]
  · rw [if_neg c1, if_neg c1]
    by_cases c2 : w n ≤ i
    · rw [if_pos c2, if_pos c2, q_up_self]
    · rw [if_neg c2, if_neg c2, if_neg (q_in h5 c1 c2)]
theorem add_eq (h : qRow s r n) (i v : Int32) : jD 81 [.ref r, .int i, .int v] (I, L, s) = some (none, q_up I (r + 1) (q_put n (I (r + 1)) i (q_at n (I (r + 1)) i + v)), L, s) := by
  rw [D_81, E_81_0]
  simp only [q_i, q_l, q_k, q_r, q_z, q_si, q_sl, jx_lt, jx_ri, jx_rl, jx_rv, if_true, if_false, Nat.reduceLeDiff, Nat.add_one_ne_zero, and_self, true_or, or_true, Nat.reduceEqDiff, or_self, or_false, false_or, h.1, look_eq h, put_eq h]
/-- counted loops: F i st goes on as F (i + 1) (g i st) while i < n -/
def q_it {σ : Type} (g : Nat → σ → σ) : Nat → σ → σ
  | 0, x => x
  | k + 1, x => g k (q_it g k x)
theorem q_loop {σ ρ : Type} {F : Nat → σ → ρ} {g : Nat → σ → σ} {n : Nat} (hs : ∀ i x, i < n → F i x = F (i + 1) (g i x)) (x : σ) : F 0 x = F n (q_it g n x) := by
  have key : ∀ k, k ≤ n → F 0 x = F k (q_it g k x) := by
    intro k
    induction k with
    | zero => intro _; rfl
    | succ k ih => intro hk; rw [ih (by omega), hs k _ (by omega)]; rfl
  exact key n (Nat.le_refl n)
/-- .. with what is known on the way -/
theorem q_loopP {σ ρ : Type} {P : Nat → σ → Prop} {F : Nat → σ → ρ} {g : Nat → σ → σ} {n : Nat} (hs : ∀ i x, i < n → P i x → F i x = F (i + 1) (g i x) ∧ P (i + 1) (g i x)) (x : σ) (hx : P 0 x) : F 0 x = F n (q_it g n x) ∧ P n (q_it g n x) := by
  have key : ∀ k, k ≤ n → F 0 x = F k (q_it g k x) ∧ P k (q_it g k x) := by
    intro k
    induction k with
    | zero => intro _; exact ⟨rfl, hx⟩
    | succ k ih =>
      intro hk
      obtain ⟨h1, h2⟩ := ih (by omega)
      obtain ⟨h3, h4⟩ := hs k _ (by omega) h2
      exact ⟨h1.trans h3, h4⟩
  exact key n (Nat.le_refl n)
/-- .. told by what holds -/
theorem q_loopE {σ ρ : Type} {P : Nat → σ → Prop} {F : Nat → σ → ρ} {n : Nat} (hs : ∀ i x, i < n → P i x → ∃ y, F i x = F (i + 1) y ∧ P (i + 1) y) (x : σ) (hx : P 0 x) : ∃ y, F 0 x = F n y ∧ P n y := by
  have key : ∀ k, k ≤ n → ∃ y, F 0 x = F k y ∧ P k y := by
    intro k
    induction k with
    | zero => intro _; exact ⟨x, rfl, hx⟩
    | succ k ih =>
      intro hk
      obtain ⟨y, h1, h2⟩ := ih (by omega)
      obtain ⟨z, h3, h4⟩ := hs k y (by omega) h2
      exact ⟨z, h1.trans h3, h4⟩
  exact key n (Nat.le_refl n)
theorem fill_eq (h : qRow s r n) (v : Int32) : jD 82 [.ref r, .int v] (I, L, s) = some (none, q_up I (r + 1) (fun k => if k < n then v else I (r + 1) k), L, s) := by
  obtain ⟨h1, h2, h3, h4, h5⟩ := h
  have step : ∀ (i : Nat) (J : qI), i < n → jd 82 1 [some (.ref r), some (.int v), some (.int (w i))] [] (J, L, s) = jd 82 1 [some (.ref r), some (.int v), some (.int (w (i + 1)))] [] (q_up J (r + 1) (q_set (J (r + 1)) i v), L, s) := by
    intro i J hi
    rw [E_82_1]
    simp only [q_i, q_l, q_k, q_r, q_z, q_si, q_sl, jx_lt, jx_ri, jx_rl, jx_rv, if_true, if_false, Nat.reduceLeDiff, Nat.add_one_ne_zero, and_self, true_or, or_true, Nat.reduceEqDiff, or_self, or_false, false_or, h1, h2, h3, h4]
    rw [if_neg (by rw [w_le (by omega) (by omega)]; omega), w_tc (by omega), if_neg (fun z => z.elim (w_nn (by omega)) (by omega)), w_inc]
  obtain ⟨J, e, hJ⟩ := q_loopE (P := fun i J => J = q_up I (r + 1) (fun k => if k < i then v else I (r + 1) k)) (F := fun i J => jd 82 1 [some (.ref r), some (.int v), some (.int (w i))] [] (J, L, s)) (n := n)
    (fun i J hi hJ => ⟨_, step i J hi, by
      subst hJ
      rw [q_up_up, q_up_eq]
      congr 1
      funext k
      unfold q_set
      by_cases c : k = i
      · subst c; rw [if_pos rfl, if_pos (by omega)]
      · rw [if_neg c]
        show (if k < i then v else I (r + 1) k) = _
        by_cases c2 : k < i
        · rw [if_pos c2, if_pos (by omega)]
        · rw [if_neg c2, if_neg (by omega)]⟩) I (by
      show I = _
      have : (fun k => if k < 0 then v else I (r + 1) k) = I (r + 1) := by funext k; rw [if_neg (by omega)]
      rw [this, q_up_self])
  rw [D_82, E_82_0]
  refine Eq.trans e ?_
  subst hJ
  show jd 82 1 [some (.ref r), some (.int v), some (.int (w n))] [] _ = _
  rw [E_82_1]
  simp only [q_i, q_l, q_k, q_r, q_z, q_si, q_sl, jx_lt, jx_ri, jx_rl, jx_rv, if_true, if_false, Nat.reduceLeDiff, Nat.add_one_ne_zero, and_self, true_or, or_true, Nat.reduceEqDiff, or_self, or_false, false_or, h1, h2, h3, h4, E_82_2]
  rw [if_pos (by rw [w_le (by omega) (by omega)]; omega)]
theorem copy_eq {o no to fr len : Nat} (h : qRow s r n) (ho : qRow s o no) (hne : o ≠ r) (hto : to + len ≤ n) (hfr : fr + len ≤ no) : jD 83 [.ref r, .int (w to), .ref o, .int (w fr), .int (w len)] (I, L, s) = some (none, q_up I (r + 1) (fun k => if to ≤ k ∧ k < to + len then I (o + 1) (fr + (k - to)) else I (r + 1) k), L, s) := by
  have hn := h.2.2.2.2
  have hno := ho.2.2.2.2
  have step : ∀ (i : Nat) (J : qI), i < len → jd 83 1 [some (.ref r), some (.int (w to)), some (.ref o), some (.int (w fr)), some (.int (w len)), some (.int (w i))] [] (J, L, s) = jd 83 1 [some (.ref r), some (.int (w to)), some (.ref o), some (.int (w fr)), some (.int (w len)), some (.int (w (i + 1)))] [] (q_up J (r + 1) (q_set (J (r + 1)) (to + i) (J (o + 1) (fr + i))), L, s) := by
    intro i J hi
    rw [E_83_1]
    simp only [q_i, q_l, q_k, q_r, q_z, q_si, q_sl, jx_lt, jx_ri, jx_rl, jx_rv, if_true, if_false, Nat.reduceLeDiff, Nat.add_one_ne_zero, and_self, true_or, or_true, Nat.reduceEqDiff, or_self, or_false, false_or, h.1, ho.1, look_eq ho, put_eq h, w_add, w_inc]
    rw [if_neg (by rw [w_le (by omega) (by omega)]; omega), q_at_w hno (by omega), q_put_w hn (by omega)]
  obtain ⟨J, e, hJ⟩ := q_loopE (P := fun i J => J = q_up I (r + 1) (fun k => if to ≤ k ∧ k < to + i then I (o + 1) (fr + (k - to)) else I (r + 1) k)) (F := fun i J => jd 83 1 [some (.ref r), some (.int (w to)), some (.ref o), some (.int (w fr)), some (.int (w len)), some (.int (w i))] [] (J, L, s)) (n := len)
    (fun i J hi hJ => ⟨_, step i J hi, by
      subst hJ
      rw [q_up_up, q_up_eq, q_up_ne (by omega)]
      congr 1
      funext k
      unfold q_set
      by_cases c : k = to + i
      · subst c
        rw [if_pos rfl, if_pos (by omega)]
        congr 1
        omega
      · rw [if_neg c]
        show (if to ≤ k ∧ k < to + i then I (o + 1) (fr + (k - to)) else I (r + 1) k) = _
        by_cases c2 : to ≤ k ∧ k < to + i
        · rw [if_pos c2, if_pos (by omega)]
        · rw [if_neg c2, if_neg (by omega)]⟩) I (by
      show I = _
      have : (fun k => if to ≤ k ∧ k < to + 0 then I (o + 1) (fr + (k - to)) else I (r + 1) k) = I (r + 1) := by funext k; rw [if_neg (by omega)]
      rw [this, q_up_self])
  rw [D_83, E_83_0]
  refine Eq.trans e ?_
  subst hJ
  show jd 83 1 [some (.ref r), some (.int (w to)), some (.ref o), some (.int (w fr)), some (.int (w len)), some (.int (w len))] [] _ = _
  rw [E_83_1, if_pos (Int32.le_refl _), E_83_2]
end ROW
