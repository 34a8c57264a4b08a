/-! READING: what is told so far, on both sides -/
def q_lim (k : Nat) : Nat := [20, 99, 999, 8, 14, 6, 8, 6, 6, 10, 10, 6].getD k 0
/-- what the class has told (D) and what the reference has (E), with counts C -/
def qFy (D E : Nat → Nat → Int32) (C : Nat → Nat) : Prop :=
  ((∀ k, k < 12 → D 0 k = w (C k) ∧ C k ≤ q_lim k) ∧ (∀ k, k < 10 → E 0 k = w (C k)) ∧ E 0 11 = w (C 10) ∧ E 0 12 = w (C 11) ∧ (C 0 = 0 → ∀ k, k < 12 → C k = 0) ∧ (C 0 = 0 ∨ 2 ≤ C 0)) ∧
  (∀ i, i < C 3 → E 1 i = D 1 i ∧ ∃ a, D 1 i = w a ∧ a ≤ 2) ∧
  ((∀ i, i < 64 → (D 2 i = -2 ∧ E 2 i = -1) ∨ ∃ a b, D 2 i = w a ∧ a ≤ 9 ∧ D 3 i = w b ∧ b ≤ 50 ∧ E 2 i = w a ∧ E 3 i = w b) ∧ q_sum (q_deg D 8) 8 = C 4) ∧
  (∀ u, u < C 5 → E 4 u = D 4 u ∧ (∃ a, D 5 u = w a ∧ a ≤ 30 ∧ E 5 u = w a) ∧ ∃ h, D 6 u = w h ∧ h < C 3 ∧ E 6 u = w h ∧ (E 7 u = D 7 u ∧ (D 7 u = -2 ∨ ∃ d, D 7 u = w d ∧ d < C 0)) ∧ (∃ k g, qRt D (C 3) h (D 8 u) k g ∧ E 8 u = w k ∧ (∀ i, i < k → E 9 (5 * u + i) = w (g i)) ∧ D 8 u = w (q_cd g k)) ∧ E 10 u = D 9 u ∧ (D 9 u = -2 ∨ ∃ a, D 9 u = w a ∧ a < C 3)) ∧
  ((∀ u, C 5 ≤ u → u < 6 → D 7 u = -2 ∧ D 8 u = 0 ∧ D 9 u = -2 ∧ E 8 u = 0) ∧ q_cnt (fun u => decide (D 9 u ≠ -2)) 6 = C 7 ∧ q_cnt (fun u => decide (D 7 u ≠ -2)) 6 = C 12) ∧
  (∀ r, r < C 6 → ∃ u a d, D 10 r = w u ∧ u < C 5 ∧ D 11 r = w a ∧ a < C 3 ∧ D 12 r = w d ∧ d < C 0 ∧ E 11 r = w u ∧ E 12 r = w a ∧ E 13 r = w d) ∧
  (∀ o, o < C 8 → ∃ a, D 13 o = w a ∧ a < C 3 ∧ E 14 o = w a) ∧
  (∀ d, d < 20 → (D 15 d = 1 ↔ (E 0 10 >>> (w d &&& 31)) &&& 1 = 1) ∧ (D 15 d = 1 → d < C 0)) ∧
  ((∀ k, k < C 9 → ∃ o a b, E 15 k = w o ∧ E 16 k = w a ∧ E 17 k = w b ∧ o < C 8 ∧ a ≤ b ∧ b < C 0) ∧ ∀ o, o < 6 → ∀ d, d < 20 → ((D 14 o >>> (w d &&& 31)) &&& 1 = 1 ↔ ∃ k, k < C 9 ∧ E 15 k = w o ∧ ¬ w d < E 16 k ∧ ¬ E 17 k < w d)) ∧
  (∀ i, i < C 11 → ∃ c g b, D 16 i = w c ∧ c ≤ 100 ∧ D 17 i = w g ∧ g ≤ 99 ∧ D 18 i = w b ∧ b ≤ 99 ∧ E 18 i = w c ∧ E 19 i = w g ∧ E 20 i = w b)
/-- all that is told and named; p names are the class's alone -/
def qZp (t f p : Nat) (C : Nat → Nat) (I : qI) (L : qL) (J : qI) (K : qL) : Prop := qNa (C 3) (C 5) (C 8) (C 3 + C 5 + C 8) p f I L J K ∧ qFy (qd I t) (qme J f) C
section PX
variable {t f p : Nat} {C : Nat → Nat}
theorem na_up {S U O c p f : Nat} {I J : qI} {L K : qL} {g g' : Nat → Int32} {h h' : Nat → Int64} (hf : 260 ≤ f) (hn : qNa S U O c p f I L J K) : qNa S U O c p f (q_up I 187 g) (q_upl L 187 h) (q_up J 240 g') (q_upl K 240 h') := by
  unfold qNa
  rw [q_up_ne (show (181 : Nat) ≠ 187 by decide), q_up_ne (show (183 + 1 : Nat) ≠ 187 by decide), q_up_ne (show (185 + 1 : Nat) ≠ 187 by decide), q_up_ne (show f ≠ 240 by omega), q_up_ne (show f + 22 ≠ 240 by omega), q_up_ne (show f + 23 ≠ 240 by omega), upl_ne (show (182 : Nat) ≠ 187 by decide), upl_ne (show f + 21 ≠ 240 by omega)]
  exact hn
theorem zp_stab (ht : t = 101 ∨ t = 140) (hf : 260 ≤ f) : qStab (qZp t f p C) := by
  intro I L J K g h g' h' hz
  refine ⟨na_up hf hz.1, ?_⟩
  rw [qd_same (I := I) fun a h1 h2 => q_up_ne (by omega), me_congr (J := J) fun k hk => q_up_ne (by omega)]
  exact hz.2
end PX
/-! one row anew -/
theorem qd_up {I : qI} {t r : Nat} {g : Nat → Int32} (hr : r < 19) : qd (q_up I (t + 1 + 2 * r + 1) g) t = fun k => if k = r then g else qd I t k := by
  funext k
  unfold qd
  by_cases c : k = r
  · rw [if_pos c, c, if_pos hr, q_up_eq]
  · rw [if_neg c]
    by_cases c2 : k < 19
    · rw [if_pos c2, if_pos c2, q_up_ne (by omega)]
    · rw [if_neg c2, if_neg c2]
theorem me_up {J : qI} {f r : Nat} {g : Nat → Int32} (hr : r < 24) : qme (q_up J (f + r) g) f = fun k => if k = r then g else qme J f k := by
  funext k
  unfold qme
  by_cases c : k = r
  · rw [if_pos c, c, if_pos hr, q_up_eq]
  · rw [if_neg c]
    by_cases c2 : k < 24
    · rw [if_pos c2, if_pos c2, q_up_ne (by omega)]
    · rw [if_neg c2, if_neg c2]
