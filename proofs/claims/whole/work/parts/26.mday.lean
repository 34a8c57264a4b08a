/-! THE REFERENCE's YEAR: where an umbrella is, by its route -/
theorem w_sub_neg {a b : Nat} (h : a < b) (hb : b < 1000000) : w a - w b < 0 := by
  rw [Int32.lt_iff_toInt_lt, Int32.toInt_sub, w_int (by omega), w_int (by omega), Int.bmod_eq_of_le (by omega) (by omega)]
  show (a : Int) - b < 0
  omega
theorem m1_lt : (-1 : Int32) < 0 := by decide
theorem m2_lt : (-2 : Int32) < 0 := by decide
/-- umbrella u at day d: its stop by its route, if it wasn't lost -/
def qPos (D : Nat → Nat → Int32) (P : Nat → Int32) (S u : Nat) (pos : Nat → Nat) : Prop :=
  D 6 u = w (pos 0) ∧ pos 0 < S ∧ ∀ d, d < 20 → pos d < S ∧ ∀ sp : Nat → Int32, (sp u = -2 ∨ sp u = w (pos d)) →
    (q_aim D P sp u (w d) = -1 ∧ (sp u = -2 ∨ pos (d + 1) = pos d)) ∨ (sp u = w (pos d) ∧ q_aim D P sp u (w d) = w (pos (d + 1)) ∧ pos (d + 1) < S ∧ ¬ D 2 (8 * pos d + pos (d + 1)) < 0)
theorem stop_big {x : Int32} {i : Nat} (h : 5 ≤ i) (hi : i < 1000000) : q_stop x (w i) = -1 := by
  unfold q_stop
  rw [if_neg (w_nn (by omega)), if_neg (by rw [show (5 : Int32) = w 5 from rfl, w_lt (by omega) (by omega)]; omega)]
theorem stop_neg {x i : Int32} (h : i < 0) : q_stop x i = -1 := by
  unfold q_stop
  rw [if_pos h]
theorem pos_ex {D : Nat → Nat → Int32} {P : Nat → Int32} {U S dn u : Nat} (hD : qVD D U S dn) (hP : qVP D P U S dn) (hu : u < U) : ∃ pos, qPos D P S u pos := by
  obtain ⟨-, -, -, hS, -, -, hdn9, hh⟩ := hD
  obtain ⟨h, e6, hh⟩ := hh u hu
  obtain ⟨hday, hrt⟩ := hP u hu
  obtain ⟨k, g, hk, hst, hg, hw0, hwi⟩ := hrt h e6 (by omega)
  by_cases hmv : D 4 u = 4 ∨ (P 18 >>> (w u &&& 31)) &&& 1 = 1 ∨ P (6 + u) < 0
  · refine ⟨fun _ => h, e6, hh, fun d _ => ⟨hh, fun sp _ => Or.inl ⟨?_, Or.inr rfl⟩⟩⟩
    unfold q_aim
    rw [if_pos]
    rcases hmv with z | z | z
    · exact Or.inl z
    · exact Or.inr (Or.inl z)
    · exact Or.inr (Or.inr (Or.inr z))
  · have hp6 : ¬ P (6 + u) < 0 := fun z => hmv (Or.inr (Or.inr z))
    obtain ⟨day, ed, hdn⟩ : ∃ d, P (6 + u) = w d ∧ d < 20 := by
      rcases hday with z | ⟨d, z, hz⟩
      · exact absurd (by rw [z]; exact m2_lt) hp6
      · exact ⟨d, z, by omega⟩
    refine ⟨fun d => if day < d ∧ 0 < k then g (min (d - day) k - 1) else h, ?_, ?_, fun d hd => ⟨?_, fun sp hsp => ?_⟩⟩
    · show D 6 u = w (if day < 0 ∧ 0 < k then g (min (0 - day) k - 1) else h)
      rw [if_neg (by omega)]; exact e6
    · show (if day < 0 ∧ 0 < k then g (min (0 - day) k - 1) else h) < S
      rw [if_neg (by omega)]; exact hh
    · show (if day < d ∧ 0 < k then g (min (d - day) k - 1) else h) < S
      split
      · exact hg _ (by omega)
      · exact hh
    · by_cases hneg : sp u < 0
      · refine Or.inl ⟨?_, Or.inl ?_⟩
        · unfold q_aim
          rw [if_pos (Or.inr (Or.inr (Or.inl hneg)))]
        · rcases hsp with z | z
          · exact z
          · exfalso
            rw [z] at hneg
            refine w_nn ?_ hneg
            show (if day < d ∧ 0 < k then g (min (d - day) k - 1) else h) < 2147483648
            split
            · have := hg (min (d - day) k - 1) (by omega)
              omega
            · omega
      · have hsp' : sp u = w (if day < d ∧ 0 < k then g (min (d - day) k - 1) else h) := by
          rcases hsp with z | z
          · exact absurd (by rw [z]; exact m2_lt) hneg
          · exact z
        have ea : q_aim D P sp u (w d) = q_stop (P (12 + u)) (w d - w day) := by
          unfold q_aim
          rw [if_neg, ed]
          rintro (z | z | z | z)
          · exact hmv (Or.inl z)
          · exact hmv (Or.inr (Or.inl z))
          · exact hneg z
          · exact hmv (Or.inr (Or.inr z))
        rw [ea]
        show (_ = -1 ∧ (_ ∨ (if day < d + 1 ∧ 0 < k then g (min (d + 1 - day) k - 1) else h) = (if day < d ∧ 0 < k then g (min (d - day) k - 1) else h))) ∨ (sp u = w (if day < d ∧ 0 < k then g (min (d - day) k - 1) else h) ∧ _ = w (if day < d + 1 ∧ 0 < k then g (min (d + 1 - day) k - 1) else h) ∧ (if day < d + 1 ∧ 0 < k then g (min (d + 1 - day) k - 1) else h) < S ∧ ¬ D 2 (8 * (if day < d ∧ 0 < k then g (min (d - day) k - 1) else h) + (if day < d + 1 ∧ 0 < k then g (min (d + 1 - day) k - 1) else h)) < 0)
        by_cases c1 : d < day
        · refine Or.inl ⟨stop_neg (w_sub_neg c1 (by omega)), Or.inr ?_⟩
          rw [if_neg (by omega), if_neg (by omega)]
        · rw [w_sub (by omega) (by omega)]
          by_cases c2 : d - day < k
          · refine Or.inr ⟨hsp', ?_, ?_, ?_⟩
            · rw [hst _ (by omega), if_pos c2, if_pos (by omega), show min (d + 1 - day) k - 1 = d - day by omega]
            · rw [if_pos (by omega)]; exact hg _ (by omega)
            · rw [if_pos (show day < d + 1 ∧ 0 < k by omega), show min (d + 1 - day) k - 1 = d - day by omega]
              by_cases c3 : day < d
              · rw [if_pos (by omega), show min (d - day) k - 1 = d - day - 1 by omega]
                have := hwi (d - day - 1) (by omega)
                rw [show d - day - 1 + 1 = d - day by omega] at this
                exact this
              · rw [if_neg (by omega), show d - day = 0 by omega]
                exact hw0 (by omega)
          · refine Or.inl ⟨?_, Or.inr ?_⟩
            · by_cases c5 : d - day < 5
              · rw [hst _ c5, if_neg c2]
              · exact stop_big (by omega) (by omega)
            · by_cases c3 : day < d ∧ 0 < k
              · rw [if_pos (by omega), if_pos c3, show min (d + 1 - day) k = min (d - day) k by omega]
              · rw [if_neg (by omega), if_neg c3]
