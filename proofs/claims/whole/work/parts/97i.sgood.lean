/-! FLIGHT, both sides: all went well -/
theorem flt_le {p : Nat → Bool} {m : Nat} : ∀ n, m ≤ n → ((List.range m).filter p).length ≤ ((List.range n).filter p).length := by
  intro n
  induction n with
  | zero => intro h; rw [show m = 0 by omega]; exact Nat.le_refl _
  | succ n ih =>
    intro h
    by_cases c : m = n + 1
    · rw [c]; exact Nat.le_refl _
    · rw [List.range_succ, List.filter_append, List.length_append]
      exact Nat.le_trans (ih (by omega)) (Nat.le_add_right _ _)
theorem sum_le {g h : Nat → Nat} {m : Nat} (hgh : ∀ k, g k ≤ h k) : ∀ n, m ≤ n → q_sum g m ≤ q_sum h n := by
  have e : ∀ m, q_sum g m ≤ q_sum h m := by
    intro m
    induction m with
    | zero => exact Nat.le_refl _
    | succ m ih => exact Nat.add_le_add ih (hgh m)
  intro n
  induction n with
  | zero => intro z; rw [show m = 0 by omega]; exact Nat.le_refl _
  | succ n ih =>
    intro z
    by_cases c : m = n + 1
    · rw [c]; exact e _
    · exact Nat.le_trans (ih (by omega)) (Nat.le_add_right _ _)
theorem deg_sum {D : Nat → Nat → Int32} {S : Nat} (hS : S ≤ 8) : q_sum (q_deg D S) S ≤ q_sum (q_deg D 8) 8 := sum_le (fun a => by unfold q_deg; exact flt_le 8 hS) 8 hS
section SFg
variable {I I' : qI} {L L' : qL} {s : qS} {t t' n T f : Nat} {X : Nat → Int32} {N : Nat} {v : Int32} {D E : Nat → Nat → Int32} {C : Nat → Nat}
theorem mo_sw (h : qMo s 240) : qMo (q_swp s t t') 240 := ⟨mo_k h, ⟨(sw_r (by omega) (by omega) (by omega)).trans (mo_r5 h), mo_k5 h, mo_z5 h⟩, ⟨(sw_r (by omega) (by omega) (by omega)).trans (mo_r16 h), mo_k16 h, mo_z16 h⟩, ⟨(sw_r (by omega) (by omega) (by omega)).trans (mo_r17 h), mo_k17 h, mo_z17 h⟩, ⟨(sw_r (by omega) (by omega) (by omega)).trans (mo_r18 h), mo_k18 h, mo_z18 h⟩, ⟨(sw_r (by omega) (by omega) (by omega)).trans (mo_r21 h), mo_k21 h, mo_z21 h⟩, ⟨(sw_r (by omega) (by omega) (by omega)).trans (mo_r22 h), mo_k22 h, mo_z22 h⟩, ⟨(sw_r (by omega) (by omega) (by omega)).trans (mo_r23 h), mo_k23 h, mo_z23 h⟩, ⟨(sw_r (by omega) (by omega) (by omega)).trans (mo_r24 h), mo_k24 h, mo_z24 h⟩, ⟨(sw_r (by omega) (by omega) (by omega)).trans (mo_r25 h), mo_k25 h, mo_z25 h⟩, ⟨(sw_r (by omega) (by omega) (by omega)).trans (mo_r26 h), mo_k26 h, mo_z26 h⟩, ⟨(sw_r (by omega) (by omega) (by omega)).trans (mo_r27 h), mo_k27 h, mo_z27 h⟩, ⟨(sw_r (by omega) (by omega) (by omega)).trans (mo_r29 h), mo_k29 h, mo_z29 h⟩, ⟨(sw_r (by omega) (by omega) (by omega)).trans (mo_r30 h), mo_k30 h, mo_z30 h⟩, ⟨(sw_r (by omega) (by omega) (by omega)).trans (mo_r31 h), mo_k31 h, mo_z31 h⟩, ⟨(sw_r (by omega) (by omega) (by omega)).trans (mo_r32 h), mo_k32 h, mo_z32 h⟩, ⟨(sw_r (by omega) (by omega) (by omega)).trans (mo_r40 h), mo_k40 h, mo_z40 h⟩, ⟨(sw_r (by omega) (by omega) (by omega)).trans (mo_r43 h), mo_k43 h, mo_z43 h⟩, ⟨(sw_r (by omega) (by omega) (by omega)).trans (mo_r44 h), mo_k44 h, mo_z44 h⟩⟩
theorem fy_vd (h : qFy D E C) (h0 : C 0 ≠ 0) : qVD D (C 5) (C 3) (C 0) ∧ q_sum (q_deg D (C 3)) (C 3) ≤ 14 := by
  have l3 : C 3 ≤ 8 := (h.1.1 3 (by omega)).2
  have l4 : C 4 ≤ 14 := (h.1.1 4 (by omega)).2
  refine ⟨⟨(h.1.1 5 (by omega)).1, (h.1.1 5 (by omega)).2, (h.1.1 3 (by omega)).1, l3, (h.1.1 0 (by omega)).1, by omega, (h.1.1 0 (by omega)).2, fun u hu => ?_⟩, ?_⟩
  · obtain ⟨-, -, x, x1, x2, -⟩ := h.2.2.2.1 u hu
    exact ⟨x, x1, x2⟩
  · have := deg_sum (D := D) l3
    rw [h.2.2.1.2] at this
    omega
/-- what is told is what a valid flight is -/
theorem fy_xd (h : qFy D E C) : qXD D (C 5) (C 3) (C 0) (C 6) (C 8) (C 11) := by
  obtain ⟨⟨w1, w2, w3, w4, w5, w6⟩, u1, u2, u3, u4, u5, u6, u7, u8, u9⟩ := id h
  have l3 : C 3 ≤ 8 := (w1 3 (by omega)).2
  have l4 : C 4 ≤ 14 := (w1 4 (by omega)).2
  have lm : ∀ k, k < 12 → q_lim k < 2000 := by decide
  refine ⟨⟨(w1 6 (by omega)).1, (w1 6 (by omega)).2, fun r hr => ?_⟩, fun u hu => ?_, ⟨(w1 8 (by omega)).1, (w1 8 (by omega)).2, fun o ho => ?_⟩, ⟨(w1 11 (by omega)).1, (w1 11 (by omega)).2, fun i hi => ?_⟩, ⟨C 1, (w1 1 (by omega)).1, (w1 1 (by omega)).2⟩, ⟨C 2, (w1 2 (by omega)).1, (w1 2 (by omega)).2⟩, fun i hi => ?_, ?_, fun i hi => ?_, fun k hk => ?_⟩
  · obtain ⟨u, a, d, q1, q2, q3, q4, q5, q6, -⟩ := u5 r hr
    exact ⟨u, a, d, q1, q2, q3, q4, q5, q6⟩
  · obtain ⟨-, -, x, -, -, -, -, -, -, c10⟩ := u3 u hu
    exact c10
  · obtain ⟨a, q1, q2, -⟩ := u6 o ho
    exact ⟨a, q1, q2⟩
  · obtain ⟨c, g, b, q1, q2, q3, q4, q5, q6, -⟩ := u9 i hi
    exact ⟨c, g, b, q1, q2, q3, q4, q5, q6⟩
  · rcases u2.1 i hi with ⟨z, -⟩ | ⟨a, b, z1, z2, z3, z4, -⟩
    · exact Or.inl z
    · exact Or.inr ⟨a, b, z1, z2, z3, z4⟩
  · have := deg_sum (D := D) l3
    rw [u2.2] at this
    omega
  · exact (u1 i hi).2
  · have h1 := lm k hk
    have h2 := (w1 k hk).2
    exact ⟨C k, (w1 k hk).1, by omega⟩
theorem fy_xe (h : qFy D E C) : qXE D E (C 5) (C 0) (C 6) (C 8) (C 11) := by
  obtain ⟨⟨w1, w2, w3, w4, w5, w6⟩, u1, u2, u3, u4, u5, u6, u7, u8, u9⟩ := id h
  have l8 : C 8 ≤ 6 := (w1 8 (by omega)).2
  refine ⟨fun r hr => ?_, fun u hu => ?_, fun o ho => ?_, fun d hd => (u7 d hd).1, ⟨C 9, w2 9 (by omega), (w1 9 (by omega)).2, u8.1, fun o ho d hd => u8.2 o (by omega) d hd⟩, fun i hi => ?_⟩
  · obtain ⟨u, a, d, q1, q2, q3, q4, q5, q6, q7, q8, q9⟩ := u5 r hr
    rw [q1, q3, q5, q7, q8, q9]
    exact ⟨rfl, rfl, rfl⟩
  · obtain ⟨-, -, x, -, -, -, -, -, c9, -⟩ := u3 u hu
    exact c9
  · obtain ⟨a, q1, -, q3⟩ := u6 o ho
    rw [q1, q3]
  · obtain ⟨c, g, b, q1, -, q3, -, q5, -, q7, q8, q9⟩ := u9 i hi
    rw [q1, q3, q5, q7, q8, q9]
    exact ⟨rfl, rfl, rfl⟩
theorem fy_rd (h : qFy D E C) : qRD D E (C 5) (C 3) := by
  obtain ⟨⟨w1, w2, w3, w4, w5, w6⟩, u1, u2, u3, u4, u5, u6, u7, u8, u9⟩ := id h
  refine ⟨fun k hk => (w2 k hk).trans (w1 k (by omega)).1.symm, w3.trans (w1 10 (by omega)).1.symm, w4.trans (w1 11 (by omega)).1.symm, fun i hi => (u1 i hi).1, fun i hi => ?_, fun u hu => ?_⟩
  · rcases u2.1 i hi with ⟨z1, z2⟩ | ⟨a, b, z1, z2, z3, z4, z5, z6⟩
    · exact Or.inl ⟨by rw [z1]; decide, z2⟩
    · exact Or.inr ⟨by rw [z1]; exact w_nn (by omega), z5.trans z1.symm, z6.trans z3.symm⟩
  · obtain ⟨c1, -, x, c3, -, c5, -⟩ := u3 u hu
    exact ⟨c1, c5.trans c3.symm⟩
/-- the plans that are told -/
theorem fy_pr {P V : Nat → Int32} (h : qFy D E C) (hP : ∀ k, k < 6 → P k = D 5 k ∧ P (6 + k) = D 7 k ∧ P (12 + k) = D 8 k) (hP18 : P 18 = 0) (hV48 : V 48 = 0) (hV : ∀ u, u < 6 → V u = E 5 u ∧ V (6 + u) = E 7 u ∧ V (12 + u) = E 8 u ∧ ∀ i, i < 5 → V (18 + 5 * u + i) = E 9 (5 * u + i)) : qPR D (C 5) (C 3) (C 0) P V := by
  obtain ⟨⟨w1, w2, w3, w4, w5, w6⟩, u1, u2, u3, u4, u5, u6, u7, u8, u9⟩ := id h
  have l5 : C 5 ≤ 6 := (w1 5 (by omega)).2
  have l3 : C 3 ≤ 8 := (w1 3 (by omega)).2
  have hh : ∀ u, u < C 5 → ∀ y, D 6 u = w y → y < 8 → ∃ k g, qRt D (C 3) y (P (12 + u)) k g ∧ V (12 + u) = w k ∧ ∀ i, i < k → V (18 + 5 * u + i) = w (g i) := fun u hu y e hy => by
    obtain ⟨c1, c2, x, c3, c4, c5, c6, ⟨k, g, c7, c8, c9, c10⟩, -⟩ := u3 u hu
    have exy : w x = w y := c3.symm.trans e
    rw [w_eq (by omega) (by omega)] at exy
    subst exy
    obtain ⟨p1, p2, p3⟩ := hP u (by omega)
    obtain ⟨v1, v2, v3, v4⟩ := hV u (by omega)
    refine ⟨k, g, by rw [p3]; exact c7, v3.trans c8, fun i hi => ?_⟩
    have := c7.1
    rw [v4 i (by omega)]
    exact c9 i hi
  refine ⟨fun u hu => ⟨?_, fun y e hy => ?_⟩, ⟨hV48.trans hP18.symm, fun u hu => ⟨?_, ?_, hh u hu⟩⟩, fun u hu => ?_, ⟨0, hP18, by omega⟩, fun u hu => ?_⟩
  · obtain ⟨c1, c2, x, c3, c4, c5, ⟨-, c6⟩, -⟩ := u3 u hu
    rw [(hP u (by omega)).2.1]; exact c6
  · obtain ⟨k, g, q, -⟩ := hh u hu y e hy
    exact ⟨k, g, q⟩
  · obtain ⟨c1, ⟨a, a1, a2, a3⟩, -⟩ := u3 u hu
    rw [(hV u (by omega)).1, (hP u (by omega)).1, a1, a3]
  · obtain ⟨c1, c2, x, c3, c4, c5, ⟨c6, -⟩, -⟩ := u3 u hu
    rw [(hV u (by omega)).2.1, (hP u (by omega)).2.1, c6]
  · obtain ⟨c1, ⟨a, a1, a2, a3⟩, -⟩ := u3 u hu
    exact ⟨a, (hP u (by omega)).1.trans a1, a2⟩
  · obtain ⟨c1, c2, x, c3, c4, c5, c6, ⟨k, g, c7, c8, c9, c10⟩, -⟩ := u3 u hu
    exact ⟨k, g, c7.1, fun i hi => by have := c7.2.2.1 i hi; omega, (hP u (by omega)).2.2.trans c10⟩
end SFg
