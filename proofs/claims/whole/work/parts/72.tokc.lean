/-! READING: the class's tokens -/
/-- the class's reader, into t -/
def qRdr (s : qS) (t : Nat) : Prop := qk s 181 = 6 ∧ qr s 181 0 = 187 ∧ qr s 181 1 = 182 ∧ qr s 181 2 = 183 ∧ qr s 181 3 = 185 ∧ qr s 181 5 = t ∧ qk s 182 = 21 ∧ qz s 182 = 31 ∧ qRow s 183 31 ∧ qRow s 185 31 ∧ qk s 187 = 8 ∧ qr s 187 0 = 179 ∧ qRow s 179 1100 ∧ qFl s t ∧ (t = 101 ∨ t = 140)
def qTxt (I : qI) (b : Nat → Nat) : Prop := ∀ k, k < 1100 → I (179 + 1) k = w (b k) ∧ b k < 256
theorem run_ex {P : Nat → Prop} {n p : Nat} (hp : p ≤ n) : ∃ e, p ≤ e ∧ e ≤ n ∧ (∀ k, p ≤ k → k < e → P k) ∧ (e < n → ¬ P e) := by
  obtain ⟨d, rfl⟩ : ∃ d, n = p + d := ⟨n - p, by omega⟩
  induction d generalizing p with
  | zero => exact ⟨p, Nat.le_refl _, by omega, fun k h1 h2 => absurd h1 (by omega), fun h => absurd h (by omega)⟩
  | succ d ih =>
    by_cases c : P p
    · obtain ⟨e, h1, h2, h3, h4⟩ := ih (p := p + 1) (by omega)
      refine ⟨e, by omega, by omega, fun k a1 a2 => ?_, fun h => h4 (by omega)⟩
      by_cases e2 : k = p
      · rw [e2]; exact c
      · exact h3 k (by omega) a2
    · exact ⟨p, Nat.le_refl _, by omega, fun k h1 h2 => absurd h1 (by omega), fun _ => c⟩
def q_wf (b : Nat → Nat) (a : Nat) : Nat → Int64
  | 0 => 0
  | k + 1 => q_wf b a k * 32 + wl (b (a + k) - 96)
def q_nf (b : Nat → Nat) (a : Nat) : Nat → Int32
  | 0 => 0
  | k + 1 => q_nf b a k * 10 + w (b (a + k)) - 48
theorem wl_let {x : Int64} : ∀ c, 97 ≤ c → c ≤ 122 → x * 32 + Int32.toInt64 (w c) - 97 + 1 = x * 32 + wl (c - 96) := by
  intro c h1 h2
  rw [wl_of (by omega), Int64.sub_eq_add_neg, Int64.add_assoc, Int64.add_assoc]
  have key : ∀ c, c < 123 → 97 ≤ c → wl c + (-97 + 1) = wl (c - 96) := by decide +kernel
  exact congrArg (x * 32 + ·) (key c (by omega) h1)
theorem set_two {g : Nat → Int32} {k l : Nat} {u v x : Int32} (h : k ≠ l) : q_set (q_set (q_set g k u) l v) k x = q_set (q_set g k x) l v := by
  funext j
  unfold q_set
  by_cases c : j = k
  · subst c
    rw [if_pos rfl, if_neg h, if_pos rfl]
  · rw [if_neg c]
    by_cases c2 : j = l
    · rw [if_pos c2, if_pos c2]
    · rw [if_neg c2, if_neg c2, if_neg c, if_neg c]
section TC
variable {I : qI} {L : qL} {s : qS} {t n : Nat} {b : Nat → Nat} {g : Nat → Int32} {h : Nat → Int64}
theorem c_text (hb : qTxt I b) {k : Nat} (hk : k < 1100) : q_at 1100 (q_up I 187 g (179 + 1)) (w k) = w (b k) := by
  rw [q_up_ne (by omega), q_at_w (by omega) hk]
  exact (hb k hk).1
theorem c_skip (hr : qRdr s t) (hb : qTxt I b) (hn : n ≤ 1100) (h1 : g 1 = w n) {a : Nat} (ha : a ≤ n) (hse : a < n → b a ≠ 32) : ∀ d p, p + d = a → (∀ k, p ≤ k → k < a → b k = 32) → jd 86 1 [some (.ref 187), none] [] (q_up I 187 (q_set g 3 (w p)), L, s) = jd 86 2 [some (.ref 187), none] [] (q_up I 187 (q_set g 3 (w a)), L, s) := by
  obtain ⟨-, -, -, -, -, -, -, -, -, -, k7, r7, hT, -⟩ := hr
  intro d
  induction d with
  | zero =>
    intro p hp hsp
    obtain rfl : p = a := by omega
    rw [E_86_1]
    simp only [↓reduceIte, q_i, q_l, q_k, q_r, q_z, q_si, q_sl, jx_lt, jx_ri, jx_rl, jx_rv, if_true, if_false, Nat.reduceLeDiff, Nat.add_one_ne_zero, and_self, true_or, or_true, Nat.reduceEqDiff, or_self, or_false, false_or, q_up_eq, k7, r7, hT.1, look_eq hT, q_set, h1]
    by_cases c : n ≤ p
    · rw [if_pos (w_le' c (by omega))]
    · have h32 : ¬ w (b p) = 32 := fun z => hse (by omega) ((w_eq (a := b p) (b := 32) (by have := (hb p (by omega)).2; omega) (by omega)).mp z)
      rw [if_neg (w_nle (by omega) (by omega))]
      have e1 := c_text (g := q_set g 3 (w p)) hb (show p < 1100 by omega)
      rw [e1, if_neg h32]
  | succ d ih =>
    intro p hp hsp
    have e1 := c_text (g := q_set g 3 (w p)) hb (show p < 1100 by omega)
    rw [E_86_1]
    simp only [↓reduceIte, q_i, q_l, q_k, q_r, q_z, q_si, q_sl, jx_lt, jx_ri, jx_rl, jx_rv, if_true, if_false, Nat.reduceLeDiff, Nat.add_one_ne_zero, and_self, true_or, or_true, Nat.reduceEqDiff, or_self, or_false, false_or, q_up_eq, q_up_up, k7, r7, hT.1, look_eq hT, q_set, h1]
    rw [if_neg (w_nle (by omega) (by omega)), e1, hsp p (Nat.le_refl _) (by omega), if_pos (show w 32 = 32 from rfl), w_inc]
    rw [set_set]
    exact ih (p + 1) (by omega) (fun k a1 a2 => hsp k (by omega) a2)
theorem c_word (hr : qRdr s t) (hb : qTxt I b) (hn : n ≤ 1100) (h1 : g 1 = w n) {a e : Nat} (he : e ≤ n) (hend : e < n → ¬ (97 ≤ b e ∧ b e ≤ 122)) : ∀ d j, j + d = e → a ≤ j → (∀ k, j ≤ k → k < e → 97 ≤ b k ∧ b k ≤ 122) → jd 89 1 [some (.ref 187), some (.int (q_at 1100 (I (179 + 1)) (w j)))] [] (q_up I 187 (q_set g 2 (w j)), q_upl L 187 (q_setl h 5 (q_wf b a (j - a))), s) = jd 89 2 [some (.ref 187), none] [] (q_up I 187 (q_set g 2 (w e)), q_upl L 187 (q_setl h 5 (q_wf b a (e - a))), s) := by
  obtain ⟨-, -, -, -, -, -, -, -, -, -, k7, r7, hT, -⟩ := hr
  intro d
  induction d with
  | zero =>
    intro j hj ha hlt
    obtain rfl : j = e := by omega
    rw [E_89_1]
    simp only [↓reduceIte, q_i, q_l, q_k, q_r, q_z, q_si, q_sl, jx_lt, jx_ri, jx_rl, jx_rv, if_true, if_false, Nat.reduceLeDiff, Nat.add_one_ne_zero, and_self, true_or, or_true, Nat.reduceEqDiff, or_self, or_false, false_or, q_up_eq, k7, r7, hT.1, q_set, h1]
    by_cases c : n ≤ j
    · rw [if_pos (w_le' c (by omega))]
    · have hb1 := hb j (by omega)
      have hn97 := hend (by omega)
      rw [if_neg (w_nle (by omega) (by omega)), q_at_w (by omega) (by omega), hb1.1, show (97 : Int32) = w 97 from rfl, show (122 : Int32) = w 122 from rfl]
      by_cases c2 : b j < 97
      · rw [if_pos (by rw [w_lt (by omega) (by omega)]; exact c2)]
      · rw [if_neg (by rw [w_lt (by omega) (by omega)]; exact c2), if_pos (by rw [w_lt (by omega) (by omega)]; omega)]
  | succ d ih =>
    intro j hj ha hlt
    have hb1 := hb j (by omega)
    have hl := hlt j (Nat.le_refl _) (by omega)
    rw [E_89_1]
    simp only [↓reduceIte, q_i, q_l, q_k, q_r, q_z, q_si, q_sl, jx_lt, jx_ri, jx_rl, jx_rv, if_true, if_false, Nat.reduceLeDiff, Nat.add_one_ne_zero, and_self, true_or, or_true, Nat.reduceEqDiff, or_self, or_false, false_or, q_up_eq, q_up_up, k7, r7, hT.1, look_eq hT, q_set, h1]
    rw [if_neg (w_nle (by omega) (by omega)), q_at_w (by omega) (by omega), hb1.1, if_neg (by rw [show (97 : Int32) = w 97 from rfl, w_lt (by omega) (by omega)]; omega), if_neg (by rw [show (122 : Int32) = w 122 from rfl, w_lt (by omega) (by omega)]; omega), w_inc]
    have e3 : q_upl (q_upl L 187 (q_setl h 5 (q_wf b a (j - a)))) 187 (q_setl (q_upl L 187 (q_setl h 5 (q_wf b a (j - a))) 187) 5 (q_upl L 187 (q_setl h 5 (q_wf b a (j - a))) 187 5 * 32 + Int32.toInt64 (w (b j)) - 97 + 1)) = q_upl L 187 (q_setl h 5 (q_wf b a (j + 1 - a))) := by
      have h0 : q_upl L 187 (q_setl h 5 (q_wf b a (j - a))) 187 = q_setl h 5 (q_wf b a (j - a)) := if_pos rfl
      have h5 : q_setl h 5 (q_wf b a (j - a)) 5 = q_wf b a (j - a) := if_pos rfl
      rw [h0, h5, wl_let _ hl.1 hl.2, show j + 1 - a = (j - a) + 1 by omega]
      have hq : q_wf b a (j - a + 1) = q_wf b a (j - a) * 32 + wl (b j - 96) := by
        show q_wf b a (j - a) * 32 + wl (b (a + (j - a)) - 96) = _
        rw [show a + (j - a) = j by omega]
      rw [hq]
      funext k
      unfold q_upl
      by_cases c : k = 187
      · rw [if_pos c, if_pos c]
        funext i
        unfold q_setl
        by_cases c2 : i = 5
        · rw [if_pos c2, if_pos c2]
        · rw [if_neg c2, if_neg c2, if_neg c2]
      · rw [if_neg c, if_neg c, if_neg c]
    rw [set_set, e3, q_up_ne (show (179 + 1 : Nat) ≠ 187 by omega)]
    exact ih (j + 1) (by omega) (by omega) (fun k a1 a2 => hlt k (by omega) a2)
theorem c_num (hr : qRdr s t) (hb : qTxt I b) (hn : n ≤ 1100) (h1 : g 1 = w n) {a e : Nat} (he : e ≤ n) (hend : e < n → ¬ (48 ≤ b e ∧ b e ≤ 57)) : ∀ d j, j + d = e → a ≤ j → (∀ k, j ≤ k → k < e → 48 ≤ b k ∧ b k ≤ 57) → jd 90 1 [some (.ref 187), some (.int (q_at 1100 (I (179 + 1)) (w j)))] [] (q_up I 187 (q_set (q_set g 6 (q_nf b a (j - a))) 2 (w j)), L, s) = jd 90 2 [some (.ref 187), none] [] (q_up I 187 (q_set (q_set g 6 (q_nf b a (e - a))) 2 (w e)), L, s) := by
  obtain ⟨-, -, -, -, -, -, -, -, -, -, k7, r7, hT, -⟩ := hr
  intro d
  induction d with
  | zero =>
    intro j hj ha hlt
    obtain rfl : j = e := by omega
    rw [E_90_1]
    simp only [↓reduceIte, q_i, q_l, q_k, q_r, q_z, q_si, q_sl, jx_lt, jx_ri, jx_rl, jx_rv, if_true, if_false, Nat.reduceLeDiff, Nat.add_one_ne_zero, and_self, true_or, or_true, Nat.reduceEqDiff, or_self, or_false, false_or, q_up_eq, k7, r7, hT.1, q_set, h1]
    by_cases c : n ≤ j
    · rw [if_pos (w_le' c (by omega))]
    · have hb1 := hb j (by omega)
      have hn97 := hend (by omega)
      rw [if_neg (w_nle (by omega) (by omega)), q_at_w (by omega) (by omega), hb1.1, show (48 : Int32) = w 48 from rfl, show (57 : Int32) = w 57 from rfl]
      by_cases c2 : b j < 48
      · rw [if_pos (by rw [w_lt (by omega) (by omega)]; exact c2)]
      · rw [if_neg (by rw [w_lt (by omega) (by omega)]; exact c2), if_pos (by rw [w_lt (by omega) (by omega)]; omega)]
  | succ d ih =>
    intro j hj ha hlt
    have hb1 := hb j (by omega)
    have hl := hlt j (Nat.le_refl _) (by omega)
    rw [E_90_1]
    simp only [↓reduceIte, q_i, q_l, q_k, q_r, q_z, q_si, q_sl, jx_lt, jx_ri, jx_rl, jx_rv, if_true, if_false, Nat.reduceLeDiff, Nat.add_one_ne_zero, and_self, true_or, or_true, Nat.reduceEqDiff, or_self, or_false, false_or, q_up_eq, q_up_up, k7, r7, hT.1, look_eq hT, q_set, h1]
    rw [if_neg (w_nle (by omega) (by omega)), q_at_w (by omega) (by omega), hb1.1, if_neg (by rw [show (48 : Int32) = w 48 from rfl, w_lt (by omega) (by omega)]; omega), if_neg (by rw [show (57 : Int32) = w 57 from rfl, w_lt (by omega) (by omega)]; omega), w_inc]
    have hq : q_nf b a (j + 1 - a) = q_nf b a (j - a) * 10 + w (b j) - 48 := by
      rw [show j + 1 - a = (j - a) + 1 by omega]
      show q_nf b a (j - a) * 10 + w (b (a + (j - a))) - 48 = _
      rw [show a + (j - a) = j by omega]
    rw [set_two (k := 2) (l := 6) (by decide), set_two (k := 6) (l := 2) (by decide), ← hq, q_up_ne (show (179 + 1 : Nat) ≠ 187 by omega)]
    exact ih (j + 1) (by omega) (by omega) (fun k a1 a2 => hlt k (by omega) a2)
end TC
