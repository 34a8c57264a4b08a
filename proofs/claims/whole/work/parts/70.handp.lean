/-! PAIRS OF CALLS with a flight: handings -/
def qBs (hm bk : Nat → Nat) (c : Nat → Bool) (U : Nat) (V : List (List Nat)) (x : Int32) : Prop := (x = -2 ∧ ∀ σ, σ ∈ V → ¬ q_va hm bk c U σ) ∨ ∃ σ, σ ∈ V ∧ q_va hm bk c U σ ∧ x = w (q_cnt c U - q_rd (q_cnt c U) σ) ∧ ∀ τ, τ ∈ V → q_va hm bk c U τ → q_rd (q_cnt c U) τ ≤ q_rd (q_cnt c U) σ
theorem rd_n {n : Nat} {σ : List Nat} : q_rd n σ ≤ n := by
  unfold q_rd
  split
  · rename_i ms h
    have := ms_len n ms h
    omega
  · exact Nat.zero_le _
theorem bs_end {hm bk : Nat → Nat} {c : Nat → Bool} {U : Nat} {x : Int32} (hU : U ≤ 6) (h : qBs hm bk c U (q_L (q_cnt c U)) x) : x = if q_ev hm bk (q_mask c U) = true then w (q_cnt c U) - w (q_RR (q_ev hm bk) (q_mask c U)) else -2 := by
  by_cases hev : q_ev hm bk (q_mask c U) = true
  · rw [if_pos hev]
    obtain ⟨τ, t1, t2, t3⟩ := best_rd hU hev
    rcases h with ⟨-, h2⟩ | ⟨σ, h1, h2, h3, h4⟩
    · exact absurd t2 (h2 τ t1)
    · have a1 := h4 τ t1 t2
      have a2 := rd_le hU h1 h2
      have a3 := rd_n (n := q_cnt c U) (σ := σ)
      have a4 := cnt6 (c := c) hU
      rw [h3, show q_RR (q_ev hm bk) (q_mask c U) = q_rd (q_cnt c U) σ by omega, w_sub a3 (by omega)]
  · rw [if_neg hev]
    rcases h with ⟨h1, -⟩ | ⟨σ, h1, h2, -⟩
    · exact h1
    · exact absurd (va_all hU h1 h2) hev
theorem up_two {K : qI} {a b : Nat} {f g h : Nat → Int32} (hab : a ≠ b) : q_up (q_up (q_up K a f) b g) a h = q_up (q_up K a h) b g := by
  funext k
  unfold q_up
  by_cases c : k = a
  · subst c
    rw [if_pos rfl, if_neg hab, if_pos rfl]
  · rw [if_neg c]
    by_cases c2 : k = b
    · rw [if_pos c2, if_pos c2]
    · rw [if_neg c2, if_neg c2, if_neg c, if_neg c]
section HP
variable {K : qI} {L : qL} {s : qS} {f U S dn R O W : Nat} {D : Nat → Nat → Int32} {P : Nat → Int32}
theorem tie_two (hf : 260 ≤ f) (ht : qTie K 240 f D P U S dn R O W) (p o : Nat → Int32) : qTie (q_up (q_up K (240 + 17) p) (240 + 18) o) 240 f D P U S dn R O W := tie_up (by omega) (by omega) (tie_up (by omega) (by omega) ht)
theorem two_6 (hf : 260 ≤ f) (ht : qTie K 240 f D P U S dn R O W) (p o : Nat → Int32) {u : Nat} (hu : u < U) : (q_up (q_up K (240 + 17) p) (240 + 18) o) (f + 6) u = D 6 u := ((tie_two hf ht p o).1.2.2.1.2.2.2.2.2 u hu).2
theorem two_10 (hf : 260 ≤ f) (ht : qTie K 240 f D P U S dn R O W) (p o : Nat → Int32) {u : Nat} (hu : u < U) : (q_up (q_up K (240 + 17) p) (240 + 18) o) (f + 10) u = D 9 u := (tie_two hf ht p o).2.2.2.1 u hu
theorem two_17 {p o : Nat → Int32} : (q_up (q_up K (240 + 17) p) (240 + 18) o) (240 + 17) = p := by rw [q_up_ne (by omega), q_up_eq]
theorem two_u {p o g : Nat → Int32} : q_up (q_up (q_up K (240 + 17) p) (240 + 18) o) (240 + 17) g = q_up (q_up K (240 + 17) g) (240 + 18) o := up_two (by omega)
/-- one order -/
theorem order1 (hm : qMF s 240 f) (hf : 260 ≤ f) (ht : qTie K 240 f D P U S dn R O W) (hg : qGv D U) {p o : Nat → Int32} (hp : ∀ i, i < q_cnt (q_gv D) U → p i = w (q_wh (q_gv D) U i)) {σ : List Nat} (hσ : σ ∈ q_L (q_cnt (q_gv D) U)) {V : List (List Nat)} {x : Int32} (hx : qBs (q_nh D) (q_nb D) (q_gv D) U V x) :
    ∃ x', jd 294 6 [some (.ref 240), some (.int (w (q_cnt (q_gv D) U))), some (.int x), some (.int 1), none, none] [] (q_up (q_up K (240 + 17) p) (240 + 18) (q_ao (q_cnt (q_gv D) U) o σ), L, s) = jd 294 12 [some (.ref 240), some (.int (w (q_cnt (q_gv D) U))), some (.int x'), none, none, none] [] (q_up (q_up K (240 + 17) p) (240 + 18) (q_ao (q_cnt (q_gv D) U) o σ), L, s) ∧ qBs (q_nh D) (q_nb D) (q_gv D) U (V ++ [σ]) x' := by
  have hU9 := hg.1
  have hn := cnt6 (c := q_gv D) hU9
  obtain ⟨hperm, m0, r0, hms, -⟩ := ok_perm hn hσ
  have hlt := fun k hk => perm_lt hperm (i := k) hk
  have hw := fun i hi => wh_spec (c := q_gv D) U i hi
  generalize hc : q_cnt (q_gv D) U = n at *
  have hrd := rounds_eq (K := q_up K (240 + 17) p) (L := L) (o := o) hm (by omega) hlt (by rw [hms]; exact fun z => by cases z)
  rw [E_294_6, if_neg (by decide)]
  obtain ⟨b, e, hb⟩ := q_loopE (P := fun i (b : Int32) => (b = 1 ∧ ∀ k, k < i → q_nh D (q_wh (q_gv D) U k) = q_nb D (q_wh (q_gv D) U (σ.getD k 0))) ∨ (b = 0 ∧ ∃ k, k < n ∧ ¬ q_nh D (q_wh (q_gv D) U k) = q_nb D (q_wh (q_gv D) U (σ.getD k 0)))) (F := fun i b => jd 294 7 [some (.ref 240), some (.int (w n)), some (.int x), none, some (.int b), some (.int (w i))] [] (q_up (q_up K (240 + 17) p) (240 + 18) (q_ao n o σ), L, s)) (n := n) (fun i b hi hP => by
    show ∃ y, jd 294 7 _ _ _ = _ ∧ _
    rw [E_294_7, if_neg (w_nle hi (by omega))]
    rcases hP with ⟨rfl, h2⟩ | ⟨rfl, h2⟩
    · obtain ⟨a1, a2, -⟩ := hw i hi
      obtain ⟨b1, b2, -⟩ := hw (σ.getD i 0) (hlt i hi)
      have g1 := (hg.2 _ a1).1
      have g2 := gv_y hg b1 b2
      have l1 := hlt i hi
      have hcmp : (jm_i (q_up (q_up K (240 + 17) p) (240 + 18) (q_ao n o σ), L, s)) = q_up (q_up K (240 + 17) p) (240 + 18) (q_ao n o σ) := rfl
      rw [if_neg (by decide)]
      simp only [↓reduceIte, q_i, q_l, q_k, q_r, q_z, q_si, q_sl, jx_lt, jx_ri, jx_rl, jx_rv, if_true, if_false, Nat.reduceLeDiff, Nat.add_one_ne_zero, and_self, true_or, or_true, Nat.reduceEqDiff, or_self, or_false, false_or, mo_k hm.1, mo_r5 hm.1, mo_k5 hm.1, mo_z5 hm.1, mo_r16 hm.1, mo_k16 hm.1, mo_z16 hm.1, mo_r17 hm.1, mo_k17 hm.1, mo_z17 hm.1, mo_r18 hm.1, mo_k18 hm.1, mo_z18 hm.1, mo_r21 hm.1, mo_k21 hm.1, mo_z21 hm.1, mo_r22 hm.1, mo_k22 hm.1, mo_z22 hm.1, mo_r23 hm.1, mo_k23 hm.1, mo_z23 hm.1, mo_r24 hm.1, mo_k24 hm.1, mo_z24 hm.1, mo_r25 hm.1, mo_k25 hm.1, mo_z25 hm.1, mo_r26 hm.1, mo_k26 hm.1, mo_z26 hm.1, mo_r27 hm.1, mo_k27 hm.1, mo_z27 hm.1, mo_r29 hm.1, mo_k29 hm.1, mo_z29 hm.1, mo_r30 hm.1, mo_k30 hm.1, mo_z30 hm.1, mo_r31 hm.1, mo_k31 hm.1, mo_z31 hm.1, mo_r32 hm.1, mo_k32 hm.1, mo_z32 hm.1, mo_r40 hm.1, mo_k40 hm.1, mo_z40 hm.1, mo_r43 hm.1, mo_k43 hm.1, mo_z43 hm.1, mo_r44 hm.1, mo_k44 hm.1, mo_z44 hm.1, mf_k hm.2.1, mf_r14 hm.2.1, mf_k14 hm.2.1, mf_z14 hm.2.1, mf_r15 hm.2.1, mf_k15 hm.2.1, mf_z15 hm.2.1, mf_r16 hm.2.1, mf_k16 hm.2.1, mf_z16 hm.2.1, mf_r17 hm.2.1, mf_k17 hm.2.1, mf_z17 hm.2.1, mf_r18 hm.2.1, mf_k18 hm.2.1, mf_z18 hm.2.1, mf_r19 hm.2.1, mf_k19 hm.2.1, mf_z19 hm.2.1, mf_r20 hm.2.1, mf_k20 hm.2.1, mf_z20 hm.2.1, mf_r21 hm.2.1, mf_k21 hm.2.1, mf_z21 hm.2.1, mf_r22 hm.2.1, mf_k22 hm.2.1, mf_z22 hm.2.1, mf_r23 hm.2.1, mf_k23 hm.2.1, mf_z23 hm.2.1, mf_r24 hm.2.1, mf_k24 hm.2.1, mf_z24 hm.2.1, mf_r25 hm.2.1, mf_k25 hm.2.1, mf_z25 hm.2.1, mf_r26 hm.2.1, mf_k26 hm.2.1, mf_z26 hm.2.1, mf_r27 hm.2.1, mf_k27 hm.2.1, mf_z27 hm.2.1, mf_r28 hm.2.1, mf_k28 hm.2.1, mf_z28 hm.2.1, mf_r29 hm.2.1, mf_k29 hm.2.1, mf_z29 hm.2.1, mf_r30 hm.2.1, mf_k30 hm.2.1, mf_z30 hm.2.1, mf_r31 hm.2.1, mf_k31 hm.2.1, mf_z31 hm.2.1, mf_r32 hm.2.1, mf_k32 hm.2.1, mf_z32 hm.2.1, mf_r33 hm.2.1, mf_k33 hm.2.1, mf_z33 hm.2.1, mf_r34 hm.2.1, mf_k34 hm.2.1, mf_z34 hm.2.1, mf_r35 hm.2.1, mf_k35 hm.2.1, mf_z35 hm.2.1, mf_r36 hm.2.1, mf_k36 hm.2.1, mf_z36 hm.2.1, hm.2.2.1, hm.2.2.2, w_nn (a := i) (by omega), show ¬ 6 ≤ i by omega, w_tc (a := i) (by omega), two_17, q_up_eq, ao_at hi, hp i hi, hp _ l1, w_nn (a := q_wh (q_gv D) U i) (by omega), show ¬ 6 ≤ q_wh (q_gv D) U i by omega, w_tc (a := q_wh (q_gv D) U i) (by omega), w_nn (a := σ.getD i 0) (by omega), show ¬ 6 ≤ σ.getD i 0 by omega, w_tc (a := σ.getD i 0) (by omega), w_nn (a := q_wh (q_gv D) U (σ.getD i 0)) (by omega), show ¬ 6 ≤ q_wh (q_gv D) U (σ.getD i 0) by omega, w_tc (a := q_wh (q_gv D) U (σ.getD i 0)) (by omega), two_6 hf ht _ _ a1, two_10 hf ht _ _ b1, g1.1, g2.1, w_eq (a := q_nh D (q_wh (q_gv D) U i)) (b := q_nb D (q_wh (q_gv D) U (σ.getD i 0))) (by omega) (by omega)]
      by_cases c : q_nh D (q_wh (q_gv D) U i) = q_nb D (q_wh (q_gv D) U (σ.getD i 0))
      · rw [if_pos c, E_294_9, w_inc]
        refine ⟨1, rfl, Or.inl ⟨rfl, fun k hk => ?_⟩⟩
        by_cases e : k = i
        · rw [e]; exact c
        · exact h2 k (by omega)
      · rw [if_neg c, E_294_8, E_294_9, w_inc]
        exact ⟨0, rfl, Or.inr ⟨rfl, i, hi, c⟩⟩
    · rw [if_pos rfl, E_294_8, E_294_9, w_inc]
      exact ⟨0, rfl, Or.inr ⟨rfl, h2⟩⟩) 1 (Or.inl ⟨rfl, fun k hk => absurd hk (Nat.not_lt_zero k)⟩)
  have e' : jd 294 7 [some (.ref 240), some (.int (w n)), some (.int x), none, some (.int 1), some (.int 0)] [] (q_up (q_up K (240 + 17) p) (240 + 18) (q_ao n o σ), L, s) = jd 294 7 [some (.ref 240), some (.int (w n)), some (.int x), none, some (.int b), some (.int (w n))] [] (q_up (q_up K (240 + 17) p) (240 + 18) (q_ao n o σ), L, s) := e
  rw [e', E_294_7, if_pos (Int32.le_refl _), E_294_10]
  have hrn := rd_n (n := n) (σ := σ)
  rcases hb with ⟨rfl, h2⟩ | ⟨rfl, k, hk, h2⟩
  · have hva : q_va (q_nh D) (q_nb D) (q_gv D) U σ := by
      intro i hi
      rw [hc] at hi
      exact h2 i hi
    have e11 : jd 294 11 [some (.ref 240), some (.int (w n)), none, none, none, none] [] (q_up (q_up K (240 + 17) p) (240 + 18) (q_ao n o σ), L, s) = jd 294 12 [some (.ref 240), some (.int (w n)), some (.int (w (n - q_rd n σ))), none, none, none] [] (q_up (q_up K (240 + 17) p) (240 + 18) (q_ao n o σ), L, s) := by
      rw [E_294_11]
      simp only [↓reduceIte, q_i, q_l, q_k, q_r, q_z, q_si, q_sl, jx_lt, jx_ri, jx_rl, jx_rv, if_true, if_false, Nat.reduceLeDiff, Nat.add_one_ne_zero, and_self, true_or, or_true, Nat.reduceEqDiff, or_self, or_false, false_or, mo_k hm.1, mo_r5 hm.1, mo_k5 hm.1, mo_z5 hm.1, mo_r16 hm.1, mo_k16 hm.1, mo_z16 hm.1, mo_r17 hm.1, mo_k17 hm.1, mo_z17 hm.1, mo_r18 hm.1, mo_k18 hm.1, mo_z18 hm.1, mo_r21 hm.1, mo_k21 hm.1, mo_z21 hm.1, mo_r22 hm.1, mo_k22 hm.1, mo_z22 hm.1, mo_r23 hm.1, mo_k23 hm.1, mo_z23 hm.1, mo_r24 hm.1, mo_k24 hm.1, mo_z24 hm.1, mo_r25 hm.1, mo_k25 hm.1, mo_z25 hm.1, mo_r26 hm.1, mo_k26 hm.1, mo_z26 hm.1, mo_r27 hm.1, mo_k27 hm.1, mo_z27 hm.1, mo_r29 hm.1, mo_k29 hm.1, mo_z29 hm.1, mo_r30 hm.1, mo_k30 hm.1, mo_z30 hm.1, mo_r31 hm.1, mo_k31 hm.1, mo_z31 hm.1, mo_r32 hm.1, mo_k32 hm.1, mo_z32 hm.1, mo_r40 hm.1, mo_k40 hm.1, mo_z40 hm.1, mo_r43 hm.1, mo_k43 hm.1, mo_z43 hm.1, mo_r44 hm.1, mo_k44 hm.1, mo_z44 hm.1, mf_k hm.2.1, mf_r14 hm.2.1, mf_k14 hm.2.1, mf_z14 hm.2.1, mf_r15 hm.2.1, mf_k15 hm.2.1, mf_z15 hm.2.1, mf_r16 hm.2.1, mf_k16 hm.2.1, mf_z16 hm.2.1, mf_r17 hm.2.1, mf_k17 hm.2.1, mf_z17 hm.2.1, mf_r18 hm.2.1, mf_k18 hm.2.1, mf_z18 hm.2.1, mf_r19 hm.2.1, mf_k19 hm.2.1, mf_z19 hm.2.1, mf_r20 hm.2.1, mf_k20 hm.2.1, mf_z20 hm.2.1, mf_r21 hm.2.1, mf_k21 hm.2.1, mf_z21 hm.2.1, mf_r22 hm.2.1, mf_k22 hm.2.1, mf_z22 hm.2.1, mf_r23 hm.2.1, mf_k23 hm.2.1, mf_z23 hm.2.1, mf_r24 hm.2.1, mf_k24 hm.2.1, mf_z24 hm.2.1, mf_r25 hm.2.1, mf_k25 hm.2.1, mf_z25 hm.2.1, mf_r26 hm.2.1, mf_k26 hm.2.1, mf_z26 hm.2.1, mf_r27 hm.2.1, mf_k27 hm.2.1, mf_z27 hm.2.1, mf_r28 hm.2.1, mf_k28 hm.2.1, mf_z28 hm.2.1, mf_r29 hm.2.1, mf_k29 hm.2.1, mf_z29 hm.2.1, mf_r30 hm.2.1, mf_k30 hm.2.1, mf_z30 hm.2.1, mf_r31 hm.2.1, mf_k31 hm.2.1, mf_z31 hm.2.1, mf_r32 hm.2.1, mf_k32 hm.2.1, mf_z32 hm.2.1, mf_r33 hm.2.1, mf_k33 hm.2.1, mf_z33 hm.2.1, mf_r34 hm.2.1, mf_k34 hm.2.1, mf_z34 hm.2.1, mf_r35 hm.2.1, mf_k35 hm.2.1, mf_z35 hm.2.1, mf_r36 hm.2.1, mf_k36 hm.2.1, mf_z36 hm.2.1, hm.2.2.1, hm.2.2.2, hrd, w_sub hrn (by omega)]
    rw [if_neg (by decide)]
    rcases hx with ⟨rfl, hno⟩ | ⟨τ, t1, t2, t3, t4⟩
    · rw [if_pos rfl]
      refine ⟨_, e11, Or.inr ⟨σ, by simp, hva, by rw [hc], fun τ ht hv => ?_⟩⟩
      rcases List.mem_append.mp ht with z | z
      · exact absurd hv (hno τ z)
      · rw [List.mem_singleton.mp z]; exact Nat.le_refl _
    · have hrt := rd_n (n := n) (σ := τ)
      rw [hc] at t3 t4
      rw [if_neg (by rw [t3]; exact fun z => w_nn (a := n - q_rd n τ) (by omega) (by rw [z]; decide))]
      simp only [↓reduceIte, q_i, q_l, q_k, q_r, q_z, q_si, q_sl, jx_lt, jx_ri, jx_rl, jx_rv, if_true, if_false, Nat.reduceLeDiff, Nat.add_one_ne_zero, and_self, true_or, or_true, Nat.reduceEqDiff, or_self, or_false, false_or, mo_k hm.1, mo_r5 hm.1, mo_k5 hm.1, mo_z5 hm.1, mo_r16 hm.1, mo_k16 hm.1, mo_z16 hm.1, mo_r17 hm.1, mo_k17 hm.1, mo_z17 hm.1, mo_r18 hm.1, mo_k18 hm.1, mo_z18 hm.1, mo_r21 hm.1, mo_k21 hm.1, mo_z21 hm.1, mo_r22 hm.1, mo_k22 hm.1, mo_z22 hm.1, mo_r23 hm.1, mo_k23 hm.1, mo_z23 hm.1, mo_r24 hm.1, mo_k24 hm.1, mo_z24 hm.1, mo_r25 hm.1, mo_k25 hm.1, mo_z25 hm.1, mo_r26 hm.1, mo_k26 hm.1, mo_z26 hm.1, mo_r27 hm.1, mo_k27 hm.1, mo_z27 hm.1, mo_r29 hm.1, mo_k29 hm.1, mo_z29 hm.1, mo_r30 hm.1, mo_k30 hm.1, mo_z30 hm.1, mo_r31 hm.1, mo_k31 hm.1, mo_z31 hm.1, mo_r32 hm.1, mo_k32 hm.1, mo_z32 hm.1, mo_r40 hm.1, mo_k40 hm.1, mo_z40 hm.1, mo_r43 hm.1, mo_k43 hm.1, mo_z43 hm.1, mo_r44 hm.1, mo_k44 hm.1, mo_z44 hm.1, mf_k hm.2.1, mf_r14 hm.2.1, mf_k14 hm.2.1, mf_z14 hm.2.1, mf_r15 hm.2.1, mf_k15 hm.2.1, mf_z15 hm.2.1, mf_r16 hm.2.1, mf_k16 hm.2.1, mf_z16 hm.2.1, mf_r17 hm.2.1, mf_k17 hm.2.1, mf_z17 hm.2.1, mf_r18 hm.2.1, mf_k18 hm.2.1, mf_z18 hm.2.1, mf_r19 hm.2.1, mf_k19 hm.2.1, mf_z19 hm.2.1, mf_r20 hm.2.1, mf_k20 hm.2.1, mf_z20 hm.2.1, mf_r21 hm.2.1, mf_k21 hm.2.1, mf_z21 hm.2.1, mf_r22 hm.2.1, mf_k22 hm.2.1, mf_z22 hm.2.1, mf_r23 hm.2.1, mf_k23 hm.2.1, mf_z23 hm.2.1, mf_r24 hm.2.1, mf_k24 hm.2.1, mf_z24 hm.2.1, mf_r25 hm.2.1, mf_k25 hm.2.1, mf_z25 hm.2.1, mf_r26 hm.2.1, mf_k26 hm.2.1, mf_z26 hm.2.1, mf_r27 hm.2.1, mf_k27 hm.2.1, mf_z27 hm.2.1, mf_r28 hm.2.1, mf_k28 hm.2.1, mf_z28 hm.2.1, mf_r29 hm.2.1, mf_k29 hm.2.1, mf_z29 hm.2.1, mf_r30 hm.2.1, mf_k30 hm.2.1, mf_z30 hm.2.1, mf_r31 hm.2.1, mf_k31 hm.2.1, mf_z31 hm.2.1, mf_r32 hm.2.1, mf_k32 hm.2.1, mf_z32 hm.2.1, mf_r33 hm.2.1, mf_k33 hm.2.1, mf_z33 hm.2.1, mf_r34 hm.2.1, mf_k34 hm.2.1, mf_z34 hm.2.1, mf_r35 hm.2.1, mf_k35 hm.2.1, mf_z35 hm.2.1, mf_r36 hm.2.1, mf_k36 hm.2.1, mf_z36 hm.2.1, hm.2.2.1, hm.2.2.2, hrd, w_sub hrn (show n < 2147483648 by omega)]
      by_cases c : x ≤ w (n - q_rd n σ)
      · rw [if_pos c]
        rw [t3, w_le (by omega) (by omega)] at c
        refine ⟨x, rfl, Or.inr ⟨τ, by simp [t1], t2, by rw [hc]; exact t3, fun υ hu hv => ?_⟩⟩
        rw [hc]
        rcases List.mem_append.mp hu with z | z
        · exact t4 υ z hv
        · rw [List.mem_singleton.mp z]; omega
      · rw [if_neg c]
        rw [t3, w_le (by omega) (by omega)] at c
        refine ⟨_, e11, Or.inr ⟨σ, by simp, hva, by rw [hc], fun υ hu hv => ?_⟩⟩
        rw [hc]
        rcases List.mem_append.mp hu with z | z
        · have := t4 υ z hv; omega
        · rw [List.mem_singleton.mp z]; exact Nat.le_refl _
  · rw [if_pos rfl]
    have hva : ¬ q_va (q_nh D) (q_nb D) (q_gv D) U σ := fun z => h2 (z k (by rw [hc]; exact hk))
    refine ⟨x, rfl, ?_⟩
    rcases hx with ⟨h1, hno⟩ | ⟨τ, t1, t2, t3, t4⟩
    · refine Or.inl ⟨h1, fun τ hτ => ?_⟩
      rcases List.mem_append.mp hτ with z | z
      · exact hno τ z
      · rw [List.mem_singleton.mp z]; exact hva
    · refine Or.inr ⟨τ, by simp [t1], t2, t3, fun υ hu hv => ?_⟩
      rcases List.mem_append.mp hu with z | z
      · exact t4 υ z hv
      · rw [List.mem_singleton.mp z] at hv; exact absurd hv hva
theorem orders (hm : qMF s 240 f) (hf : 260 ≤ f) (ht : qTie K 240 f D P U S dn R O W) (hg : qGv D U) {p o : Nat → Int32} (hp : ∀ i, i < q_cnt (q_gv D) U → p i = w (q_wh (q_gv D) U i)) : ∀ (rest : List (List Nat)) (σ : List Nat) (V : List (List Nat)) (x : Int32), (∀ τ, τ ∈ σ :: rest → τ ∈ q_L (q_cnt (q_gv D) U)) → q_ch (q_cnt (q_gv D) U) (σ :: rest) = true → qBs (q_nh D) (q_nb D) (q_gv D) U V x →
    ∃ x' o', jd 294 6 [some (.ref 240), some (.int (w (q_cnt (q_gv D) U))), some (.int x), some (.int 1), none, none] [] (q_up (q_up K (240 + 17) p) (240 + 18) (q_ao (q_cnt (q_gv D) U) o σ), L, s) = jd 294 13 [some (.ref 240), none, some (.int x'), none, none, none] [] (q_up (q_up K (240 + 17) p) (240 + 18) o', L, s) ∧ qBs (q_nh D) (q_nb D) (q_gv D) U (V ++ σ :: rest) x' := by
  have hn := cnt6 (c := q_gv D) hg.1
  intro rest
  induction rest with
  | nil =>
    intro σ V x hL hch hx
    have hσ := hL σ (List.mem_cons_self ..)
    obtain ⟨hperm, -⟩ := ok_perm hn hσ
    obtain ⟨x', e, hx'⟩ := order1 (L := L) (o := o) hm hf ht hg hp hσ hx
    have hno : q_nx (q_cnt (q_gv D) U) σ = none := Option.isNone_iff_eq_none.mp hch
    have hnx := next_eq (K := q_up K (240 + 17) p) (L := L) (o := o) hm (show q_cnt (q_gv D) U ≤ 6 by omega) (σ := σ) (by rw [hperm.length_eq, List.length_range]) (fun k hk => perm_lt hperm hk)
    refine ⟨x', q_ao (q_cnt (q_gv D) U) o σ, ?_, hx'⟩
    rw [e, E_294_12]
    simp only [↓reduceIte, q_i, q_l, q_k, q_r, q_z, q_si, q_sl, jx_lt, jx_ri, jx_rl, jx_rv, if_true, if_false, Nat.reduceLeDiff, Nat.add_one_ne_zero, and_self, true_or, or_true, Nat.reduceEqDiff, or_self, or_false, false_or, mo_k hm.1, mo_r5 hm.1, mo_k5 hm.1, mo_z5 hm.1, mo_r16 hm.1, mo_k16 hm.1, mo_z16 hm.1, mo_r17 hm.1, mo_k17 hm.1, mo_z17 hm.1, mo_r18 hm.1, mo_k18 hm.1, mo_z18 hm.1, mo_r21 hm.1, mo_k21 hm.1, mo_z21 hm.1, mo_r22 hm.1, mo_k22 hm.1, mo_z22 hm.1, mo_r23 hm.1, mo_k23 hm.1, mo_z23 hm.1, mo_r24 hm.1, mo_k24 hm.1, mo_z24 hm.1, mo_r25 hm.1, mo_k25 hm.1, mo_z25 hm.1, mo_r26 hm.1, mo_k26 hm.1, mo_z26 hm.1, mo_r27 hm.1, mo_k27 hm.1, mo_z27 hm.1, mo_r29 hm.1, mo_k29 hm.1, mo_z29 hm.1, mo_r30 hm.1, mo_k30 hm.1, mo_z30 hm.1, mo_r31 hm.1, mo_k31 hm.1, mo_z31 hm.1, mo_r32 hm.1, mo_k32 hm.1, mo_z32 hm.1, mo_r40 hm.1, mo_k40 hm.1, mo_z40 hm.1, mo_r43 hm.1, mo_k43 hm.1, mo_z43 hm.1, mo_r44 hm.1, mo_k44 hm.1, mo_z44 hm.1, mf_k hm.2.1, mf_r14 hm.2.1, mf_k14 hm.2.1, mf_z14 hm.2.1, mf_r15 hm.2.1, mf_k15 hm.2.1, mf_z15 hm.2.1, mf_r16 hm.2.1, mf_k16 hm.2.1, mf_z16 hm.2.1, mf_r17 hm.2.1, mf_k17 hm.2.1, mf_z17 hm.2.1, mf_r18 hm.2.1, mf_k18 hm.2.1, mf_z18 hm.2.1, mf_r19 hm.2.1, mf_k19 hm.2.1, mf_z19 hm.2.1, mf_r20 hm.2.1, mf_k20 hm.2.1, mf_z20 hm.2.1, mf_r21 hm.2.1, mf_k21 hm.2.1, mf_z21 hm.2.1, mf_r22 hm.2.1, mf_k22 hm.2.1, mf_z22 hm.2.1, mf_r23 hm.2.1, mf_k23 hm.2.1, mf_z23 hm.2.1, mf_r24 hm.2.1, mf_k24 hm.2.1, mf_z24 hm.2.1, mf_r25 hm.2.1, mf_k25 hm.2.1, mf_z25 hm.2.1, mf_r26 hm.2.1, mf_k26 hm.2.1, mf_z26 hm.2.1, mf_r27 hm.2.1, mf_k27 hm.2.1, mf_z27 hm.2.1, mf_r28 hm.2.1, mf_k28 hm.2.1, mf_z28 hm.2.1, mf_r29 hm.2.1, mf_k29 hm.2.1, mf_z29 hm.2.1, mf_r30 hm.2.1, mf_k30 hm.2.1, mf_z30 hm.2.1, mf_r31 hm.2.1, mf_k31 hm.2.1, mf_z31 hm.2.1, mf_r32 hm.2.1, mf_k32 hm.2.1, mf_z32 hm.2.1, mf_r33 hm.2.1, mf_k33 hm.2.1, mf_z33 hm.2.1, mf_r34 hm.2.1, mf_k34 hm.2.1, mf_z34 hm.2.1, mf_r35 hm.2.1, mf_k35 hm.2.1, mf_z35 hm.2.1, mf_r36 hm.2.1, mf_k36 hm.2.1, mf_z36 hm.2.1, hm.2.2.1, hm.2.2.2, hnx]
    rw [hno]
    simp only [Option.isSome_none, Bool.false_eq_true, if_false]
    rw [E_294_6, if_pos rfl]
    rfl
  | cons τ rest ih =>
    intro σ V x hL hch hx
    have hσ := hL σ (List.mem_cons_self ..)
    obtain ⟨hperm, -⟩ := ok_perm hn hσ
    obtain ⟨x', e, hx'⟩ := order1 (L := L) (o := o) hm hf ht hg hp hσ hx
    have hch' : (q_nx (q_cnt (q_gv D) U) σ == some τ && q_ch (q_cnt (q_gv D) U) (τ :: rest)) = true := hch
    rw [Bool.and_eq_true] at hch'
    have hyes : q_nx (q_cnt (q_gv D) U) σ = some τ := eq_of_beq hch'.1
    have hnx := next_eq (K := q_up K (240 + 17) p) (L := L) (o := o) hm (show q_cnt (q_gv D) U ≤ 6 by omega) (σ := σ) (by rw [hperm.length_eq, List.length_range]) (fun k hk => perm_lt hperm hk)
    obtain ⟨y, o', e2, hy⟩ := ih τ (V ++ [σ]) x' (fun υ h => hL υ (List.mem_cons_of_mem _ h)) hch'.2 hx'
    refine ⟨y, o', ?_, by rw [List.append_assoc] at hy; exact hy⟩
    rw [e, E_294_12]
    simp only [↓reduceIte, q_i, q_l, q_k, q_r, q_z, q_si, q_sl, jx_lt, jx_ri, jx_rl, jx_rv, if_true, if_false, Nat.reduceLeDiff, Nat.add_one_ne_zero, and_self, true_or, or_true, Nat.reduceEqDiff, or_self, or_false, false_or, mo_k hm.1, mo_r5 hm.1, mo_k5 hm.1, mo_z5 hm.1, mo_r16 hm.1, mo_k16 hm.1, mo_z16 hm.1, mo_r17 hm.1, mo_k17 hm.1, mo_z17 hm.1, mo_r18 hm.1, mo_k18 hm.1, mo_z18 hm.1, mo_r21 hm.1, mo_k21 hm.1, mo_z21 hm.1, mo_r22 hm.1, mo_k22 hm.1, mo_z22 hm.1, mo_r23 hm.1, mo_k23 hm.1, mo_z23 hm.1, mo_r24 hm.1, mo_k24 hm.1, mo_z24 hm.1, mo_r25 hm.1, mo_k25 hm.1, mo_z25 hm.1, mo_r26 hm.1, mo_k26 hm.1, mo_z26 hm.1, mo_r27 hm.1, mo_k27 hm.1, mo_z27 hm.1, mo_r29 hm.1, mo_k29 hm.1, mo_z29 hm.1, mo_r30 hm.1, mo_k30 hm.1, mo_z30 hm.1, mo_r31 hm.1, mo_k31 hm.1, mo_z31 hm.1, mo_r32 hm.1, mo_k32 hm.1, mo_z32 hm.1, mo_r40 hm.1, mo_k40 hm.1, mo_z40 hm.1, mo_r43 hm.1, mo_k43 hm.1, mo_z43 hm.1, mo_r44 hm.1, mo_k44 hm.1, mo_z44 hm.1, mf_k hm.2.1, mf_r14 hm.2.1, mf_k14 hm.2.1, mf_z14 hm.2.1, mf_r15 hm.2.1, mf_k15 hm.2.1, mf_z15 hm.2.1, mf_r16 hm.2.1, mf_k16 hm.2.1, mf_z16 hm.2.1, mf_r17 hm.2.1, mf_k17 hm.2.1, mf_z17 hm.2.1, mf_r18 hm.2.1, mf_k18 hm.2.1, mf_z18 hm.2.1, mf_r19 hm.2.1, mf_k19 hm.2.1, mf_z19 hm.2.1, mf_r20 hm.2.1, mf_k20 hm.2.1, mf_z20 hm.2.1, mf_r21 hm.2.1, mf_k21 hm.2.1, mf_z21 hm.2.1, mf_r22 hm.2.1, mf_k22 hm.2.1, mf_z22 hm.2.1, mf_r23 hm.2.1, mf_k23 hm.2.1, mf_z23 hm.2.1, mf_r24 hm.2.1, mf_k24 hm.2.1, mf_z24 hm.2.1, mf_r25 hm.2.1, mf_k25 hm.2.1, mf_z25 hm.2.1, mf_r26 hm.2.1, mf_k26 hm.2.1, mf_z26 hm.2.1, mf_r27 hm.2.1, mf_k27 hm.2.1, mf_z27 hm.2.1, mf_r28 hm.2.1, mf_k28 hm.2.1, mf_z28 hm.2.1, mf_r29 hm.2.1, mf_k29 hm.2.1, mf_z29 hm.2.1, mf_r30 hm.2.1, mf_k30 hm.2.1, mf_z30 hm.2.1, mf_r31 hm.2.1, mf_k31 hm.2.1, mf_z31 hm.2.1, mf_r32 hm.2.1, mf_k32 hm.2.1, mf_z32 hm.2.1, mf_r33 hm.2.1, mf_k33 hm.2.1, mf_z33 hm.2.1, mf_r34 hm.2.1, mf_k34 hm.2.1, mf_z34 hm.2.1, mf_r35 hm.2.1, mf_k35 hm.2.1, mf_z35 hm.2.1, mf_r36 hm.2.1, mf_k36 hm.2.1, mf_z36 hm.2.1, hm.2.2.1, hm.2.2.2, hnx]
    rw [hyes]
    simp only [Option.isSome_some, if_true]
    exact e2
/-- the reference's answer -/
theorem mhand_eq (hm : qMF s 240 f) (hf : 260 ≤ f) (ht : qTie K 240 f D P U S dn R O W) (hg : qGv D U) : ∃ p o, jd 294 1 [some (.ref 240), none, none, none, none, none] [] (K, L, s) = some (some (.int (if q_ev (q_nh D) (q_nb D) (q_mask (q_gv D) U) = true then w (q_cnt (q_gv D) U) - w (q_RR (q_ev (q_nh D) (q_nb D)) (q_mask (q_gv D) U)) else -2)), mG (q_up (q_up K (240 + 17) p) (240 + 18) o) 240 0, L, s) := by
  have hU9 := hg.1
  have hK : K = q_up (q_up K (240 + 17) (K (240 + 17))) (240 + 18) (K (240 + 18)) := by
    have h1 : q_up K (240 + 17) (K (240 + 17)) = K := q_up_self
    rw [h1, q_up_self]
  have h5 : ∀ p o, (q_up (q_up K (240 + 17) p) (240 + 18) o) f 5 = w U := fun p o => tie_5 (tie_two hf ht p o)
  rw [E_294_1]
  obtain ⟨st, e, h1, h2⟩ := q_loopE (P := fun u (st : (Nat → Int32) × (Nat → Int32)) => (∀ k, k < u → st.2 k = w k) ∧ ∀ i, i < q_cnt (q_gv D) u → st.1 i = w (q_wh (q_gv D) u i)) (F := fun u st => jd 294 2 [some (.ref 240), some (.int (w (q_cnt (q_gv D) u))), some (.int (w u)), none, none, none] [] (q_up (q_up K (240 + 17) st.1) (240 + 18) st.2, L, s)) (n := U) (fun u st hu hP => by
    obtain ⟨p, o⟩ := st
    obtain ⟨h1, h2⟩ := hP
    have hcu := cnt_le (c := q_gv D) u
    have hstep : jd 294 2 [some (.ref 240), some (.int (w (q_cnt (q_gv D) u))), some (.int (w u)), none, none, none] [] (q_up (q_up K (240 + 17) p) (240 + 18) o, L, s) = if D 9 u = -2 then jd 294 4 [some (.ref 240), some (.int (w (q_cnt (q_gv D) u))), some (.int (w u)), none, none, none] [] (q_up (q_up K (240 + 17) p) (240 + 18) (q_set o u (w u)), L, s) else jd 294 3 [some (.ref 240), some (.int (w (q_cnt (q_gv D) u))), some (.int (w u)), none, none, none] [] (q_up (q_up K (240 + 17) p) (240 + 18) (q_set o u (w u)), L, s) := by
      rw [E_294_2]
      simp only [↓reduceIte, q_i, q_l, q_k, q_r, q_z, q_si, q_sl, jx_lt, jx_ri, jx_rl, jx_rv, if_true, if_false, Nat.reduceLeDiff, Nat.add_one_ne_zero, and_self, true_or, or_true, Nat.reduceEqDiff, or_self, or_false, false_or, mo_k hm.1, mo_r5 hm.1, mo_k5 hm.1, mo_z5 hm.1, mo_r16 hm.1, mo_k16 hm.1, mo_z16 hm.1, mo_r17 hm.1, mo_k17 hm.1, mo_z17 hm.1, mo_r18 hm.1, mo_k18 hm.1, mo_z18 hm.1, mo_r21 hm.1, mo_k21 hm.1, mo_z21 hm.1, mo_r22 hm.1, mo_k22 hm.1, mo_z22 hm.1, mo_r23 hm.1, mo_k23 hm.1, mo_z23 hm.1, mo_r24 hm.1, mo_k24 hm.1, mo_z24 hm.1, mo_r25 hm.1, mo_k25 hm.1, mo_z25 hm.1, mo_r26 hm.1, mo_k26 hm.1, mo_z26 hm.1, mo_r27 hm.1, mo_k27 hm.1, mo_z27 hm.1, mo_r29 hm.1, mo_k29 hm.1, mo_z29 hm.1, mo_r30 hm.1, mo_k30 hm.1, mo_z30 hm.1, mo_r31 hm.1, mo_k31 hm.1, mo_z31 hm.1, mo_r32 hm.1, mo_k32 hm.1, mo_z32 hm.1, mo_r40 hm.1, mo_k40 hm.1, mo_z40 hm.1, mo_r43 hm.1, mo_k43 hm.1, mo_z43 hm.1, mo_r44 hm.1, mo_k44 hm.1, mo_z44 hm.1, mf_k hm.2.1, mf_r14 hm.2.1, mf_k14 hm.2.1, mf_z14 hm.2.1, mf_r15 hm.2.1, mf_k15 hm.2.1, mf_z15 hm.2.1, mf_r16 hm.2.1, mf_k16 hm.2.1, mf_z16 hm.2.1, mf_r17 hm.2.1, mf_k17 hm.2.1, mf_z17 hm.2.1, mf_r18 hm.2.1, mf_k18 hm.2.1, mf_z18 hm.2.1, mf_r19 hm.2.1, mf_k19 hm.2.1, mf_z19 hm.2.1, mf_r20 hm.2.1, mf_k20 hm.2.1, mf_z20 hm.2.1, mf_r21 hm.2.1, mf_k21 hm.2.1, mf_z21 hm.2.1, mf_r22 hm.2.1, mf_k22 hm.2.1, mf_z22 hm.2.1, mf_r23 hm.2.1, mf_k23 hm.2.1, mf_z23 hm.2.1, mf_r24 hm.2.1, mf_k24 hm.2.1, mf_z24 hm.2.1, mf_r25 hm.2.1, mf_k25 hm.2.1, mf_z25 hm.2.1, mf_r26 hm.2.1, mf_k26 hm.2.1, mf_z26 hm.2.1, mf_r27 hm.2.1, mf_k27 hm.2.1, mf_z27 hm.2.1, mf_r28 hm.2.1, mf_k28 hm.2.1, mf_z28 hm.2.1, mf_r29 hm.2.1, mf_k29 hm.2.1, mf_z29 hm.2.1, mf_r30 hm.2.1, mf_k30 hm.2.1, mf_z30 hm.2.1, mf_r31 hm.2.1, mf_k31 hm.2.1, mf_z31 hm.2.1, mf_r32 hm.2.1, mf_k32 hm.2.1, mf_z32 hm.2.1, mf_r33 hm.2.1, mf_k33 hm.2.1, mf_z33 hm.2.1, mf_r34 hm.2.1, mf_k34 hm.2.1, mf_z34 hm.2.1, mf_r35 hm.2.1, mf_k35 hm.2.1, mf_z35 hm.2.1, mf_r36 hm.2.1, mf_k36 hm.2.1, mf_z36 hm.2.1, hm.2.2.1, hm.2.2.2, h5, w_nle hu (show U < 1000000 by omega), w_nn (a := u) (by omega), show ¬ 6 ≤ u by omega, w_tc (a := u) (by omega), q_up_eq, q_up_up, two_10 hf ht _ _ hu]
    have ho : ∀ k, k < u + 1 → (q_set o u (w u)) k = w k := fun k hk => by
      by_cases c : k = u
      · rw [c, q_set_eq]
      · rw [q_set_ne c]; exact h1 k (by omega)
    show ∃ y, jd 294 2 _ _ _ = _ ∧ _
    rw [hstep]
    by_cases c : D 9 u = -2
    · have hgn : ¬ q_gv D u = true := by
        unfold q_gv
        rw [decide_eq_true_eq, c]
        exact fun z => z (by decide)
      refine ⟨(p, q_set o u (w u)), ?_, ho, fun i hi => ?_⟩
      · show _ = jd 294 2 [_, some (.int (w (q_cnt (q_gv D) (u + 1)))), _, _, _, _] [] _
        rw [if_pos c, E_294_4, w_inc, cnt_succ, if_neg hgn, Nat.add_zero]
        rfl
      · rw [cnt_succ, if_neg hgn, Nat.add_zero] at hi
        show p i = _
        rw [wh_lt hi]
        exact h2 i hi
    · have hgy : q_gv D u = true := by
        rcases (hg.2 u hu).2 with z | z
        · exact absurd z c
        · refine decide_eq_true ?_
          rw [z.1]
          exact w_nn (by omega)
      refine ⟨(q_set p (q_cnt (q_gv D) u) (w u), q_set o u (w u)), ?_, ho, fun i hi => ?_⟩
      · show _ = jd 294 2 [_, some (.int (w (q_cnt (q_gv D) (u + 1)))), _, _, _, _] [] _
        rw [if_neg c, E_294_3]
        simp only [↓reduceIte, q_i, q_l, q_k, q_r, q_z, q_si, q_sl, jx_lt, jx_ri, jx_rl, jx_rv, if_true, if_false, Nat.reduceLeDiff, Nat.add_one_ne_zero, and_self, true_or, or_true, Nat.reduceEqDiff, or_self, or_false, false_or, mo_k hm.1, mo_r5 hm.1, mo_k5 hm.1, mo_z5 hm.1, mo_r16 hm.1, mo_k16 hm.1, mo_z16 hm.1, mo_r17 hm.1, mo_k17 hm.1, mo_z17 hm.1, mo_r18 hm.1, mo_k18 hm.1, mo_z18 hm.1, mo_r21 hm.1, mo_k21 hm.1, mo_z21 hm.1, mo_r22 hm.1, mo_k22 hm.1, mo_z22 hm.1, mo_r23 hm.1, mo_k23 hm.1, mo_z23 hm.1, mo_r24 hm.1, mo_k24 hm.1, mo_z24 hm.1, mo_r25 hm.1, mo_k25 hm.1, mo_z25 hm.1, mo_r26 hm.1, mo_k26 hm.1, mo_z26 hm.1, mo_r27 hm.1, mo_k27 hm.1, mo_z27 hm.1, mo_r29 hm.1, mo_k29 hm.1, mo_z29 hm.1, mo_r30 hm.1, mo_k30 hm.1, mo_z30 hm.1, mo_r31 hm.1, mo_k31 hm.1, mo_z31 hm.1, mo_r32 hm.1, mo_k32 hm.1, mo_z32 hm.1, mo_r40 hm.1, mo_k40 hm.1, mo_z40 hm.1, mo_r43 hm.1, mo_k43 hm.1, mo_z43 hm.1, mo_r44 hm.1, mo_k44 hm.1, mo_z44 hm.1, mf_k hm.2.1, mf_r14 hm.2.1, mf_k14 hm.2.1, mf_z14 hm.2.1, mf_r15 hm.2.1, mf_k15 hm.2.1, mf_z15 hm.2.1, mf_r16 hm.2.1, mf_k16 hm.2.1, mf_z16 hm.2.1, mf_r17 hm.2.1, mf_k17 hm.2.1, mf_z17 hm.2.1, mf_r18 hm.2.1, mf_k18 hm.2.1, mf_z18 hm.2.1, mf_r19 hm.2.1, mf_k19 hm.2.1, mf_z19 hm.2.1, mf_r20 hm.2.1, mf_k20 hm.2.1, mf_z20 hm.2.1, mf_r21 hm.2.1, mf_k21 hm.2.1, mf_z21 hm.2.1, mf_r22 hm.2.1, mf_k22 hm.2.1, mf_z22 hm.2.1, mf_r23 hm.2.1, mf_k23 hm.2.1, mf_z23 hm.2.1, mf_r24 hm.2.1, mf_k24 hm.2.1, mf_z24 hm.2.1, mf_r25 hm.2.1, mf_k25 hm.2.1, mf_z25 hm.2.1, mf_r26 hm.2.1, mf_k26 hm.2.1, mf_z26 hm.2.1, mf_r27 hm.2.1, mf_k27 hm.2.1, mf_z27 hm.2.1, mf_r28 hm.2.1, mf_k28 hm.2.1, mf_z28 hm.2.1, mf_r29 hm.2.1, mf_k29 hm.2.1, mf_z29 hm.2.1, mf_r30 hm.2.1, mf_k30 hm.2.1, mf_z30 hm.2.1, mf_r31 hm.2.1, mf_k31 hm.2.1, mf_z31 hm.2.1, mf_r32 hm.2.1, mf_k32 hm.2.1, mf_z32 hm.2.1, mf_r33 hm.2.1, mf_k33 hm.2.1, mf_z33 hm.2.1, mf_r34 hm.2.1, mf_k34 hm.2.1, mf_z34 hm.2.1, mf_r35 hm.2.1, mf_k35 hm.2.1, mf_z35 hm.2.1, mf_r36 hm.2.1, mf_k36 hm.2.1, mf_z36 hm.2.1, hm.2.2.1, hm.2.2.2, w_nn (a := q_cnt (q_gv D) u) (by omega), show ¬ 6 ≤ q_cnt (q_gv D) u by omega, w_tc (a := q_cnt (q_gv D) u) (by omega), two_17, two_u, E_294_4, w_inc]
        rw [cnt_succ, if_pos hgy]
      · rw [cnt_succ, if_pos hgy] at hi
        show q_set p _ _ i = _
        by_cases c2 : i = q_cnt (q_gv D) u
        · have : q_wh (q_gv D) (u + 1) i = u := if_pos ⟨hgy, c2⟩
          rw [this, c2, q_set_eq]
        · rw [q_set_ne c2, wh_lt (by omega)]
          exact h2 i (by omega)) (K (240 + 17), K (240 + 18)) ⟨fun k hk => absurd hk (Nat.not_lt_zero k), fun i hi => absurd hi (Nat.not_lt_zero i)⟩
  obtain ⟨p, o⟩ := st
  have e' : jd 294 2 [some (.ref 240), some (.int 0), some (.int 0), none, none, none] [] (K, L, s) = jd 294 2 [some (.ref 240), some (.int (w (q_cnt (q_gv D) U))), some (.int (w U)), none, none, none] [] (q_up (q_up K (240 + 17) p) (240 + 18) o, L, s) := by
    have e0 : jd 294 2 [some (.ref 240), some (.int (w (q_cnt (q_gv D) 0))), some (.int (w 0)), none, none, none] [] (q_up (q_up K (240 + 17) (K (240 + 17))) (240 + 18) (K (240 + 18)), L, s) = _ := e
    rw [← hK] at e0
    exact e0
  have hn := cnt6 (c := q_gv D) hU9
  obtain ⟨hch, -, hhd⟩ := ords_ok _ hn
  have hcU := cnt_le (c := q_gv D) U
  obtain ⟨rest, hrest⟩ : ∃ rest, q_L (q_cnt (q_gv D) U) = List.range (q_cnt (q_gv D) U) :: rest := by
    cases hl : q_L (q_cnt (q_gv D) U) with
    | nil => rw [hl] at hhd; cases hhd
    | cons a r => rw [hl] at hhd; injection hhd with e; subst e; exact ⟨r, rfl⟩
  have ho : o = q_ao (q_cnt (q_gv D) U) o (List.range (q_cnt (q_gv D) U)) := by
    funext k
    unfold q_ao
    by_cases c : k < q_cnt (q_gv D) U
    · rw [if_pos c, List.getD_eq_getElem?_getD, List.getElem?_range c]
      exact h1 k (by omega)
    · rw [if_neg c]
  obtain ⟨x, o', e3, hx⟩ := orders (L := L) (o := o) hm hf ht hg h2 rest (List.range (q_cnt (q_gv D) U)) [] (-2) (fun τ h => by rw [hrest]; exact h) (by rw [← hrest]; exact hch) (Or.inl ⟨rfl, fun σ h => by cases h⟩)
  rw [← ho] at e3
  rw [List.nil_append, ← hrest] at hx
  refine ⟨p, o', ?_⟩
  rw [e', E_294_2]
  simp only [↓reduceIte, q_i, q_l, q_k, q_r, q_z, q_si, q_sl, jx_lt, jx_ri, jx_rl, jx_rv, if_true, if_false, Nat.reduceLeDiff, Nat.add_one_ne_zero, and_self, true_or, or_true, Nat.reduceEqDiff, or_self, or_false, false_or, mo_k hm.1, mo_r5 hm.1, mo_k5 hm.1, mo_z5 hm.1, mo_r16 hm.1, mo_k16 hm.1, mo_z16 hm.1, mo_r17 hm.1, mo_k17 hm.1, mo_z17 hm.1, mo_r18 hm.1, mo_k18 hm.1, mo_z18 hm.1, mo_r21 hm.1, mo_k21 hm.1, mo_z21 hm.1, mo_r22 hm.1, mo_k22 hm.1, mo_z22 hm.1, mo_r23 hm.1, mo_k23 hm.1, mo_z23 hm.1, mo_r24 hm.1, mo_k24 hm.1, mo_z24 hm.1, mo_r25 hm.1, mo_k25 hm.1, mo_z25 hm.1, mo_r26 hm.1, mo_k26 hm.1, mo_z26 hm.1, mo_r27 hm.1, mo_k27 hm.1, mo_z27 hm.1, mo_r29 hm.1, mo_k29 hm.1, mo_z29 hm.1, mo_r30 hm.1, mo_k30 hm.1, mo_z30 hm.1, mo_r31 hm.1, mo_k31 hm.1, mo_z31 hm.1, mo_r32 hm.1, mo_k32 hm.1, mo_z32 hm.1, mo_r40 hm.1, mo_k40 hm.1, mo_z40 hm.1, mo_r43 hm.1, mo_k43 hm.1, mo_z43 hm.1, mo_r44 hm.1, mo_k44 hm.1, mo_z44 hm.1, mf_k hm.2.1, mf_r14 hm.2.1, mf_k14 hm.2.1, mf_z14 hm.2.1, mf_r15 hm.2.1, mf_k15 hm.2.1, mf_z15 hm.2.1, mf_r16 hm.2.1, mf_k16 hm.2.1, mf_z16 hm.2.1, mf_r17 hm.2.1, mf_k17 hm.2.1, mf_z17 hm.2.1, mf_r18 hm.2.1, mf_k18 hm.2.1, mf_z18 hm.2.1, mf_r19 hm.2.1, mf_k19 hm.2.1, mf_z19 hm.2.1, mf_r20 hm.2.1, mf_k20 hm.2.1, mf_z20 hm.2.1, mf_r21 hm.2.1, mf_k21 hm.2.1, mf_z21 hm.2.1, mf_r22 hm.2.1, mf_k22 hm.2.1, mf_z22 hm.2.1, mf_r23 hm.2.1, mf_k23 hm.2.1, mf_z23 hm.2.1, mf_r24 hm.2.1, mf_k24 hm.2.1, mf_z24 hm.2.1, mf_r25 hm.2.1, mf_k25 hm.2.1, mf_z25 hm.2.1, mf_r26 hm.2.1, mf_k26 hm.2.1, mf_z26 hm.2.1, mf_r27 hm.2.1, mf_k27 hm.2.1, mf_z27 hm.2.1, mf_r28 hm.2.1, mf_k28 hm.2.1, mf_z28 hm.2.1, mf_r29 hm.2.1, mf_k29 hm.2.1, mf_z29 hm.2.1, mf_r30 hm.2.1, mf_k30 hm.2.1, mf_z30 hm.2.1, mf_r31 hm.2.1, mf_k31 hm.2.1, mf_z31 hm.2.1, mf_r32 hm.2.1, mf_k32 hm.2.1, mf_z32 hm.2.1, mf_r33 hm.2.1, mf_k33 hm.2.1, mf_z33 hm.2.1, mf_r34 hm.2.1, mf_k34 hm.2.1, mf_z34 hm.2.1, mf_r35 hm.2.1, mf_k35 hm.2.1, mf_z35 hm.2.1, mf_r36 hm.2.1, mf_k36 hm.2.1, mf_z36 hm.2.1, hm.2.2.1, hm.2.2.2, h5, Int32.le_refl]
  rw [E_294_5, e3, E_294_13]
  simp only [↓reduceIte, q_i, q_l, q_k, q_r, q_z, q_si, q_sl, jx_lt, jx_ri, jx_rl, jx_rv, if_true, if_false, Nat.reduceLeDiff, Nat.add_one_ne_zero, and_self, true_or, or_true, Nat.reduceEqDiff, or_self, or_false, false_or, mo_k hm.1, mo_r5 hm.1, mo_k5 hm.1, mo_z5 hm.1, mo_r16 hm.1, mo_k16 hm.1, mo_z16 hm.1, mo_r17 hm.1, mo_k17 hm.1, mo_z17 hm.1, mo_r18 hm.1, mo_k18 hm.1, mo_z18 hm.1, mo_r21 hm.1, mo_k21 hm.1, mo_z21 hm.1, mo_r22 hm.1, mo_k22 hm.1, mo_z22 hm.1, mo_r23 hm.1, mo_k23 hm.1, mo_z23 hm.1, mo_r24 hm.1, mo_k24 hm.1, mo_z24 hm.1, mo_r25 hm.1, mo_k25 hm.1, mo_z25 hm.1, mo_r26 hm.1, mo_k26 hm.1, mo_z26 hm.1, mo_r27 hm.1, mo_k27 hm.1, mo_z27 hm.1, mo_r29 hm.1, mo_k29 hm.1, mo_z29 hm.1, mo_r30 hm.1, mo_k30 hm.1, mo_z30 hm.1, mo_r31 hm.1, mo_k31 hm.1, mo_z31 hm.1, mo_r32 hm.1, mo_k32 hm.1, mo_z32 hm.1, mo_r40 hm.1, mo_k40 hm.1, mo_z40 hm.1, mo_r43 hm.1, mo_k43 hm.1, mo_z43 hm.1, mo_r44 hm.1, mo_k44 hm.1, mo_z44 hm.1, mf_k hm.2.1, mf_r14 hm.2.1, mf_k14 hm.2.1, mf_z14 hm.2.1, mf_r15 hm.2.1, mf_k15 hm.2.1, mf_z15 hm.2.1, mf_r16 hm.2.1, mf_k16 hm.2.1, mf_z16 hm.2.1, mf_r17 hm.2.1, mf_k17 hm.2.1, mf_z17 hm.2.1, mf_r18 hm.2.1, mf_k18 hm.2.1, mf_z18 hm.2.1, mf_r19 hm.2.1, mf_k19 hm.2.1, mf_z19 hm.2.1, mf_r20 hm.2.1, mf_k20 hm.2.1, mf_z20 hm.2.1, mf_r21 hm.2.1, mf_k21 hm.2.1, mf_z21 hm.2.1, mf_r22 hm.2.1, mf_k22 hm.2.1, mf_z22 hm.2.1, mf_r23 hm.2.1, mf_k23 hm.2.1, mf_z23 hm.2.1, mf_r24 hm.2.1, mf_k24 hm.2.1, mf_z24 hm.2.1, mf_r25 hm.2.1, mf_k25 hm.2.1, mf_z25 hm.2.1, mf_r26 hm.2.1, mf_k26 hm.2.1, mf_z26 hm.2.1, mf_r27 hm.2.1, mf_k27 hm.2.1, mf_z27 hm.2.1, mf_r28 hm.2.1, mf_k28 hm.2.1, mf_z28 hm.2.1, mf_r29 hm.2.1, mf_k29 hm.2.1, mf_z29 hm.2.1, mf_r30 hm.2.1, mf_k30 hm.2.1, mf_z30 hm.2.1, mf_r31 hm.2.1, mf_k31 hm.2.1, mf_z31 hm.2.1, mf_r32 hm.2.1, mf_k32 hm.2.1, mf_z32 hm.2.1, mf_r33 hm.2.1, mf_k33 hm.2.1, mf_z33 hm.2.1, mf_r34 hm.2.1, mf_k34 hm.2.1, mf_z34 hm.2.1, mf_r35 hm.2.1, mf_k35 hm.2.1, mf_z35 hm.2.1, mf_r36 hm.2.1, mf_k36 hm.2.1, mf_z36 hm.2.1, hm.2.2.1, hm.2.2.2, mgood_eq hm.1]
  rw [bs_end hU9 hx]
end HP
theorem h1_gv {I : qI} {s : qS} {t t' f U S dn R O W : Nat} (h : qH1 I s t t' f U S dn R O W) : qGv (qd I t) U := by
  obtain ⟨hU, hU9⟩ := h1_U h
  obtain ⟨hS, hS9⟩ := h1_S h
  refine ⟨hU9, fun u hu => ⟨?_, ?_⟩⟩
  · obtain ⟨a, e, ha⟩ := h.2.2.2.1.1.2.2.2.2.2.2.2 u hu
    unfold q_nh
    rw [e, w_tc (by omega)]
    exact ⟨rfl, by omega⟩
  · rcases h.2.2.2.2.1.2.1 u hu with z | ⟨a, e, ha⟩
    · exact Or.inl z
    · unfold q_nb
      rw [e, w_tc (by omega)]
      exact Or.inr ⟨rfl, by omega⟩
theorem p_handings {I : qI} {L : qL} {s : qS} {t t' f U S dn R O W : Nat} (h : qH1 I s t t' f U S dn R O W) : qAns I L s 147 [.ref 100] 294 [.ref 240] := by
  obtain ⟨hU, hU9⟩ := h1_U h
  obtain ⟨hd, hd0, hd9⟩ := h1_d h
  have hg := h1_gv h
  obtain ⟨hx, hm, hf, hT⟩ := id h
  have htt := xo_tt hx
  obtain ⟨g, e1⟩ := fewest_eq (I := I) (L := L) (xo_ft hx) (by omega) rfl hg hU ⟨xo_rh0 hx, xo_kh hx, xo_rounds hx⟩
  have hfr : qFr I (q_up I 239 g) := fr_up (by unfold qSc; omega) (by omega) (by omega)
  have h2 := h1_fr (s' := s) h hfr ks_refl
  have hdd : qd (q_up I 239 g) t = qd I t := fr_d hx hfr
  have hZ := h1_Z h2 0
  rw [hdd] at hZ
  obtain ⟨p, o, e2⟩ := mhand_eq (L := L) hm hf hZ hg
  refine ans_K (I1 := q_up I 239 g) (s1 := s) (r := 0) (v := .int (if q_ev (q_nh (qd I t)) (q_nb (qd I t)) (q_mask (q_gv (qd I t)) U) = true then w (q_cnt (q_gv (qd I t)) U) - w (q_RR (q_ev (q_nh (qd I t)) (q_nb (qd I t))) (q_mask (q_gv (qd I t)) U)) else -2)) (J := q_up (q_up (mZ (cT (q_up I 239 g) 0) 240) (240 + 17) p) (240 + 18) o) ?_ hfr ks_refl ?_ (fr_trans fr_mZ (fr_trans (fr_up (by unfold qSc; omega) (by omega) (by omega)) (fr_up (by unfold qSc; omega) (by omega) (by omega)))) ?_ (by decide)
  · simp only [D_147, E_147_0, E_147_1, ↓reduceIte, q_i, q_l, q_k, q_r, q_z, q_si, q_sl, jx_lt, jx_ri, jx_rl, jx_rv, if_true, if_false, Nat.reduceLeDiff, Nat.add_one_ne_zero, and_self, true_or, or_true, Nat.reduceEqDiff, or_self, or_false, false_or, xo_k hx, xo_r0 hx, xo_r1 hx, xo_r2 hx, xo_r3 hx, xo_r4 hx, xo_r5 hx, xo_r6 hx, xo_r7 hx, xo_r8 hx, xo_r9 hx, xo_r10 hx, xo_r11 hx, xo_ka hx, xo_ra0 hx, xo_ra1 hx, xo_ko hx, xo_ro0 hx, xo_ro1 hx, xo_kf hx, xo_rf0 hx, xo_kh hx, xo_rh0 hx, xo_ke hx, xo_re0 hx, xo_re1 hx, xo_kn hx, xo_zn hx, xo_re2 hx, xo_re3 hx, xo_kt hx, xo_rt0 hx, xo_t0 hx, (xo_ft hx).1, (xo_now hx).1, (xo_now hx).2.1, (xo_now hx).2.2.1, (xo_try hx).1, (xo_yr hx).1.1, (xo_ty hx).1, answered_eq hx, refused_eq hx, show ¬ (1 : Int32) = 0 by decide, Nat.reduceLT, hasFlight_eq hx hd hd9, show ¬ dn = 0 by omega, e1]
  · rw [D_294, E_294_0]
    simp only [↓reduceIte, q_i, q_l, q_k, q_r, q_z, q_si, q_sl, jx_lt, jx_ri, jx_rl, jx_rv, if_true, if_false, Nat.reduceLeDiff, Nat.add_one_ne_zero, and_self, true_or, or_true, Nat.reduceEqDiff, or_self, or_false, false_or, mo_k hm.1, mo_r5 hm.1, mo_k5 hm.1, mo_z5 hm.1, mo_r16 hm.1, mo_k16 hm.1, mo_z16 hm.1, mo_r17 hm.1, mo_k17 hm.1, mo_z17 hm.1, mo_r18 hm.1, mo_k18 hm.1, mo_z18 hm.1, mo_r21 hm.1, mo_k21 hm.1, mo_z21 hm.1, mo_r22 hm.1, mo_k22 hm.1, mo_z22 hm.1, mo_r23 hm.1, mo_k23 hm.1, mo_z23 hm.1, mo_r24 hm.1, mo_k24 hm.1, mo_z24 hm.1, mo_r25 hm.1, mo_k25 hm.1, mo_z25 hm.1, mo_r26 hm.1, mo_k26 hm.1, mo_z26 hm.1, mo_r27 hm.1, mo_k27 hm.1, mo_z27 hm.1, mo_r29 hm.1, mo_k29 hm.1, mo_z29 hm.1, mo_r30 hm.1, mo_k30 hm.1, mo_z30 hm.1, mo_r31 hm.1, mo_k31 hm.1, mo_z31 hm.1, mo_r32 hm.1, mo_k32 hm.1, mo_z32 hm.1, mo_r40 hm.1, mo_k40 hm.1, mo_z40 hm.1, mo_r43 hm.1, mo_k43 hm.1, mo_z43 hm.1, mo_r44 hm.1, mo_k44 hm.1, mo_z44 hm.1, mf_k hm.2.1, mf_r14 hm.2.1, mf_k14 hm.2.1, mf_z14 hm.2.1, mf_r15 hm.2.1, mf_k15 hm.2.1, mf_z15 hm.2.1, mf_r16 hm.2.1, mf_k16 hm.2.1, mf_z16 hm.2.1, mf_r17 hm.2.1, mf_k17 hm.2.1, mf_z17 hm.2.1, mf_r18 hm.2.1, mf_k18 hm.2.1, mf_z18 hm.2.1, mf_r19 hm.2.1, mf_k19 hm.2.1, mf_z19 hm.2.1, mf_r20 hm.2.1, mf_k20 hm.2.1, mf_z20 hm.2.1, mf_r21 hm.2.1, mf_k21 hm.2.1, mf_z21 hm.2.1, mf_r22 hm.2.1, mf_k22 hm.2.1, mf_z22 hm.2.1, mf_r23 hm.2.1, mf_k23 hm.2.1, mf_z23 hm.2.1, mf_r24 hm.2.1, mf_k24 hm.2.1, mf_z24 hm.2.1, mf_r25 hm.2.1, mf_k25 hm.2.1, mf_z25 hm.2.1, mf_r26 hm.2.1, mf_k26 hm.2.1, mf_z26 hm.2.1, mf_r27 hm.2.1, mf_k27 hm.2.1, mf_z27 hm.2.1, mf_r28 hm.2.1, mf_k28 hm.2.1, mf_z28 hm.2.1, mf_r29 hm.2.1, mf_k29 hm.2.1, mf_z29 hm.2.1, mf_r30 hm.2.1, mf_k30 hm.2.1, mf_z30 hm.2.1, mf_r31 hm.2.1, mf_k31 hm.2.1, mf_z31 hm.2.1, mf_r32 hm.2.1, mf_k32 hm.2.1, mf_z32 hm.2.1, mf_r33 hm.2.1, mf_k33 hm.2.1, mf_z33 hm.2.1, mf_r34 hm.2.1, mf_k34 hm.2.1, mf_z34 hm.2.1, mf_r35 hm.2.1, mf_k35 hm.2.1, mf_z35 hm.2.1, mf_r36 hm.2.1, mf_k36 hm.2.1, mf_z36 hm.2.1, hm.2.2.1, hm.2.2.2, q_mZ]
    exact e2
  · rw [q_up_ne (by omega), q_up_ne (by omega)]
    exact fr_x13
