/-! SPECS OF THE CHECK, AND WHAT ONLY GROWS -/
theorem band {a b : Bool} (h : (a && b) = true) : a = true ∧ b = true := by rw [Bool.and_eq_true] at h; exact h
theorem bor {a b : Bool} (h : (a || b) = true) : a = true ∨ b = true := by rw [Bool.or_eq_true] at h; exact h
theorem beq_n {a b : Nat} (h : Nat.beq a b = true) : a = b := Nat.eq_of_beq_eq_true h
theorem jc_os_ok : jt_os.all (fun o => Nat.blt o jt_ps.length) = true := by decide +kernel
theorem jt_o_lt (j : Nat) : jt_o j < jt_ps.length := by
  unfold jt_o
  rw [List.getD_eq_getElem?_getD]
  cases hq : jt_os[j]? with
  | none => exact Nat.lt_of_lt_of_le (Nat.lt_succ_self 0) (by decide)
  | some o => exact blt_lt (List.all_eq_true.mp jc_os_ok o (List.mem_of_getElem? hq))
theorem jc_find_spec {j i i' tag a b w : Nat} (h : jc_find (jt_o j) i = some (i', tag, a, b, w)) : i' = i ∧ ((tag = 8 ∧ 2 ≤ a ∧ a - 2 < jt_sks.length ∧ ∃ t, jt_sks[a - 2]? = some (jt_o j, i, t)) ∨ jc_word (jt_o j) (i, tag, a, b, w) ∈ jc_gw) := by
  unfold jc_find at h
  have h1 := List.find?_some h
  have h2 := List.mem_of_find?_eq_some h
  have e : i' = i := beq_n h1
  subst e
  refine ⟨rfl, ?_⟩
  have hp := jc_pool_ok (jt_o j) (jt_o_lt j)
  unfold jc_P at hp
  have hq := List.all_eq_true.mp hp _ h2
  rcases bor hq with hq | hq
  · obtain ⟨q1, q2⟩ := band hq
    refine Or.inl ⟨beq_n q1, ?_⟩
    have q2' : (match jt_sks.getD (a - 2) (0, 0, "") with | (o', i'', _) => Nat.beq o' (jt_o j) && Nat.beq i'' i' && Nat.blt (a - 2) jt_sks.length && Nat.ble 2 a) = true := q2
    cases hs : jt_sks.getD (a - 2) (0, 0, "") with
    | mk o' r =>
      obtain ⟨i'', t⟩ := r
      rw [hs] at q2'
      obtain ⟨q3, q4⟩ := band q2'
      obtain ⟨q5, q6⟩ := band q3
      obtain ⟨q7, q8⟩ := band q5
      have hlt := blt_lt q6
      refine ⟨Nat.le_of_ble_eq_true q4, hlt, t, ?_⟩
      rw [List.getD_eq_getElem?_getD, List.getElem?_eq_getElem hlt] at hs
      rw [List.getElem?_eq_getElem hlt, ← beq_n q7, ← beq_n q8]
      exact congrArg some hs
  · exact Or.inr (jc_w_mem hq)
theorem jc_no_tt : Jvm.Cond.tt ∉ lw_tbl := by decide +kernel
theorem jc_cst_spec {j i : Nat} {v : Value} (h : jc_cst j i v = true) : (∃ c, v = .int c ∧ Cond.constant (jt_on (jt_o j)) i c ∈ jc_gw) ∨ ∃ (a : Nat) (t : String), v = .ref a ∧ 2 ≤ a ∧ a - 2 < jt_sks.length ∧ jt_sks[a - 2]? = some (jt_o j, i, t) := by
  unfold jc_cst at h
  split at h
  · rename_i c i' a b w hf
    obtain ⟨rfl, hs⟩ := jc_find_spec hf
    rcases hs with ⟨q, -⟩ | hs
    · cases q
    · exact Or.inl ⟨c, rfl, by rw [← of_decide_eq_true h]; exact hs⟩
  · rename_i a i' a' b w hf
    obtain ⟨rfl, hs⟩ := jc_find_spec hf
    rcases hs with ⟨-, h2, h3, t, h4⟩ | hs
    · obtain rfl := beq_n h
      exact Or.inr ⟨a, t, rfl, h2, h3, h4⟩
    · exact absurd (List.mem_filter.mp hs).1 jc_no_tt
  · cases h
theorem jc_cst2_spec {j i : Nat} {v : Value} (h : jc_cst2 j i v = true) : ∃ c, v = .long c ∧ Cond.constantLong (jt_on (jt_o j)) i c ∈ jc_gw := by
  unfold jc_cst2 at h
  split at h
  · rename_i c i' a b w hf
    obtain ⟨rfl, hs⟩ := jc_find_spec hf
    rcases hs with ⟨q, -⟩ | hs
    · cases q
    · exact ⟨c, rfl, by rw [← of_decide_eq_true h]; exact hs⟩
  · cases h
theorem jc_to_spec {j pc b : Nat} {off : Int} (h : jc_to j pc off b = true) : b < jt_nb j ∧ (pc : Int) + off = (jt_pc j b : Int) := by
  obtain ⟨h1, h2⟩ := band h
  exact ⟨blt_lt h1, of_decide_eq_true h2⟩
theorem jc_swk_spec {j pc : Nat} {d lo hi : Int} {offs : Array Int} {t : Int × List Nat × Nat} (h : jc_swk j pc d lo hi offs t = true) : t.1 = lo ∧ lo + t.2.1.length = hi + 1 ∧ (t.2.2 < jt_nb j ∧ (pc : Int) + d = (jt_pc j t.2.2 : Int)) ∧
    ∀ n, n < t.2.1.length → ∃ o b, offs[n]? = some o ∧ t.2.1[n]? = some b ∧ b < jt_nb j ∧ (pc : Int) + o = (jt_pc j b : Int) := by
  unfold jc_swk at h
  obtain ⟨h, h5⟩ := band h
  obtain ⟨h, h4⟩ := band h
  obtain ⟨h, h3⟩ := band h
  obtain ⟨h1, h2⟩ := band h
  refine ⟨of_decide_eq_true h1, of_decide_eq_true h2, jc_to_spec h4, fun n hn => ?_⟩
  have hq := List.all_eq_true.mp h5 n (List.mem_range.mpr hn)
  split at hq
  · rename_i o b e1 e2
    obtain ⟨a1, a2⟩ := jc_to_spec hq
    exact ⟨o, b, e1, e2, a1, a2⟩
  · cases hq
theorem jc_field_spec {j i ci k : Nat} {P : Nat → Nat → Nat → Bool} (h : (match jc_find (jt_o j) i with
    | some (_, tag, a, k', _) => (Nat.beq tag 1 || Nat.beq tag 2) && Nat.beq a ci && Nat.beq k' k && Nat.blt k' (jc_N a) && Nat.blt a vwCl.length && P tag a k'
    | none => false) = true) : ci < vwCl.length ∧ k < jc_N ci ∧ ∃ tag, P tag ci k = true ∧
      ((tag = 1 ∧ Cond.fieldLink (jt_on (jt_o j)) i (jc_T ci k).1 (jc_T ci k).2.1 (jc_T ci k).2.2.1 ∈ jc_gw) ∨ (tag = 2 ∧ Cond.fieldLinkNest (jt_on (jt_o j)) i (jc_T ci k).1 (jc_T ci k).2.1 (jc_T ci k).2.2.1 (jc_host (jt_o j)) ∈ jc_gw)) := by
  split at h
  · rename_i i' tag a k' w hf
    obtain ⟨h, h6⟩ := band h
    obtain ⟨h, h5⟩ := band h
    obtain ⟨h, h4⟩ := band h
    obtain ⟨h, h3⟩ := band h
    obtain ⟨h1, h2⟩ := band h
    obtain rfl := beq_n h2
    obtain rfl := beq_n h3
    obtain ⟨rfl, hs⟩ := jc_find_spec hf
    refine ⟨blt_lt h5, blt_lt h4, tag, h6, ?_⟩
    rcases bor h1 with q | q
    · obtain rfl := beq_n q
      rcases hs with ⟨z, -⟩ | hs
      · cases z
      · exact Or.inl ⟨rfl, hs⟩
    · obtain rfl := beq_n q
      rcases hs with ⟨z, -⟩ | hs
      · cases z
      · exact Or.inr ⟨rfl, hs⟩
  · cases h
theorem jc_tag_spec {j i t : Nat} (h : (match jc_find (jt_o j) i with
    | some (_, tag, _, _, _) => Nat.beq tag t
    | none => false) = true) (h8 : t ≠ 8) : ∃ a b w, jc_word (jt_o j) (i, t, a, b, w) ∈ jc_gw := by
  split at h
  · rename_i i' tag a b w hf
    obtain rfl := beq_n h
    obtain ⟨rfl, hs⟩ := jc_find_spec hf
    rcases hs with ⟨z, -⟩ | hs
    · exact absurd z h8
    · exact ⟨a, b, w, hs⟩
  · cases h
def jx_le (M : jM) (r : jR) : Prop := jm_n M ≤ jm_n r.2 ∧ jm_w M ≤ jm_w r.2
theorem jx_le.trans {M : jM} {q r : jR} (h1 : jx_le M q) (h2 : jx_le q.2 r) : jx_le M r := ⟨Nat.le_trans h1.1 h2.1, Nat.le_trans h1.2 h2.2⟩
section SOME
variable {ρ : Type} {r : jR}
theorem rc_some {rc : Nat} {as : List Value} {M : jM} {o : Option ρ} {r : ρ} (h : jx_rc rc as M o = some r) : o = some r ∧ (rc = 0 ∨ ∃ c a t, rc = c + 1 ∧ as = .ref a :: t ∧ jm_k M a = c + 1) := by
  unfold jx_rc at h
  split at h
  · exact ⟨h, Or.inl rfl⟩
  · split at h
    · obtain ⟨h1, h2⟩ := if_yes h
      exact ⟨h2, Or.inr ⟨_, _, _, rfl, rfl, h1⟩⟩
    · cases h
theorem ri_some {o : Option jR} {f : Int32 → jM → Option jR} (h : jx_ri o f = some r) : ∃ x M, o = some (some (.int x), M) ∧ f x M = some r := by
  unfold jx_ri at h
  split at h
  · exact ⟨_, _, rfl, h⟩
  · cases h
theorem rl_some {o : Option jR} {f : Int64 → jM → Option jR} (h : jx_rl o f = some r) : ∃ x M, o = some (some (.long x), M) ∧ f x M = some r := by
  unfold jx_rl at h
  split at h
  · exact ⟨_, _, rfl, h⟩
  · cases h
theorem rv_some {o : Option jR} {f : jM → Option jR} (h : jx_rv o f = some r) : ∃ M, o = some (none, M) ∧ f M = some r := by
  unfold jx_rv at h
  split at h
  · exact ⟨_, rfl, h⟩
  · cases h
theorem rt_some {o : Option jR} {f : Int32 → jM → Option jR} {g : jM → Option jR} (h : jx_rt o f g = some r) : (∃ x M, o = some (some (.int x), M) ∧ f x M = some r) ∨ ∃ M, o = some (some .null, M) ∧ g M = some r := by
  unfold jx_rt at h
  split at h
  · exact Or.inl ⟨_, _, rfl, h⟩
  · exact Or.inr ⟨_, rfl, h⟩
  · cases h
theorem pi_el {st : List Value} {f : Int32 → List Value → Option jR} {P : Prop} (h : jx_pi st f = some r) (k : ∀ x s, f x s = some r → P) : P := by obtain ⟨x, s, -, h⟩ := pi_some h; exact k x s h
theorem pl_el {st : List Value} {f : Int64 → List Value → Option jR} {P : Prop} (h : jx_pl st f = some r) (k : ∀ x s, f x s = some r → P) : P := by obtain ⟨x, s, -, h⟩ := pl_some h; exact k x s h
theorem pr_el {st : List Value} {f : Nat → List Value → Option jR} {P : Prop} (h : jx_pr st f = some r) (k : ∀ x s, f x s = some r → P) : P := by obtain ⟨x, s, -, h⟩ := pr_some h; exact k x s h
theorem gi_el {ls : jL} {i : Nat} {f : Int32 → Option jR} {P : Prop} (h : jx_gi ls i f = some r) (k : ∀ x, f x = some r → P) : P := by obtain ⟨x, -, h⟩ := gi_some h; exact k x h
theorem gl_el {ls : jL} {i : Nat} {f : Int64 → Option jR} {P : Prop} (h : jx_gl ls i f = some r) (k : ∀ x, f x = some r → P) : P := by obtain ⟨x, -, h⟩ := gl_some h; exact k x h
theorem gr_el {ls : jL} {i : Nat} {f : Nat → Option jR} {P : Prop} (h : jx_gr ls i f = some r) (k : ∀ x, f x = some r → P) : P := by obtain ⟨x, -, h⟩ := gr_some h; exact k x h
theorem ck_el {b : Bool} {o : Option jR} {P : Prop} (h : jx_ck b o = some r) (k : o = some r → P) : P := k (ck_some h).2
theorem ite_el {c : Prop} [Decidable c] {a b : Option jR} {P : Prop} (h : (if c then a else b) = some r) (k : a = some r → P) (k' : b = some r → P) : P := by
  rcases ite_some h with ⟨-, h⟩ | ⟨-, h⟩
  · exact k h
  · exact k' h
theorem no_el {P : Prop} (h : (none : Option jR) = some r) : P := by cases h
end SOME
section LE
variable {tx : Nat → List Int32} {sw : Nat → Int × List Nat × Nat} {r : jR} {D : Nat → List Value → jM → Option jR} {J : Nat → jL → List Value → jM → Option jR} {k : jL → List Value → jM → Option jR}
theorem le_call (hD : ∀ j as M q, D j as M = some q → jx_le M q) (hk : ∀ ls st M, k ls st M = some r → jx_le M r) {x : jX} {ls : jL} {st : List Value} {M : jM} (h : jx_call tx D x ls st M k = some r) : jx_le M r := by
  unfold jx_call at h
  split at h
  · obtain ⟨M', h1, h2⟩ := rv_some (rc_some (ck_some (ck_some h).2).2).1
    exact (hD _ _ _ _ h1).trans (hk _ _ _ h2)
  · obtain ⟨x, M', h1, h2⟩ := ri_some (rc_some (ck_some (ck_some h).2).2).1
    exact (hD _ _ _ _ h1).trans (hk _ _ _ h2)
  · obtain ⟨x, M', h1, h2⟩ := rl_some (rc_some (ck_some (ck_some h).2).2).1
    exact (hD _ _ _ _ h1).trans (hk _ _ _ h2)
  · exact pr_el h fun _ _ h => ck_el h fun h => hk _ _ _ h
  · exact pi_el h fun _ _ h => pi_el h fun _ _ h => ck_el h fun h => hk _ _ _ h
  · exact pi_el h fun _ _ h => pi_el h fun _ _ h => ck_el h fun h => hk _ _ _ h
  · exact pl_el h fun _ _ h => pl_el h fun _ _ h => ck_el h fun h => hk _ _ _ h
  · exact pr_el h fun _ _ h => ck_el h fun h => ite_el h (fun h => hk _ _ _ h) no_el
  · exact pi_el h fun _ _ h => pr_el h fun _ _ h => ck_el h fun h => ite_el h (fun h => ite_el h no_el fun h => hk _ _ _ h) no_el
  · refine pr_el h fun _ _ h => pi_el h fun _ _ h => pr_el h fun _ _ h => ck_el h fun h => ite_el h (fun h => ite_el h (fun h => ?_) no_el) no_el
    rcases rt_some h with ⟨x, M', h1, h2⟩ | ⟨M', h1, h2⟩
    · have h3 := (if_yes (if_no h2).2).2
      have h4 := hk _ _ _ h3
      exact (hD _ _ _ _ h1).trans h4
    · exact (hD _ _ _ _ h1).trans (hk _ _ _ h2)
  · cases h
theorem le_w {M M' : jM} (h : jx_le M' r) (e1 : jm_n M' = jm_n M) (e2 : jm_w M' = jm_w M) : jx_le M r := ⟨by rw [← e1]; exact h.1, by rw [← e2]; exact h.2⟩
theorem le_new {M : jM} {kd len w : Nat} (h : jx_le (jm_new M kd len w) r) : jx_le M r := ⟨Nat.le_trans (Nat.le_succ _) h.1, Nat.le_trans (Nat.le_add_right _ _) h.2⟩
set_option maxHeartbeats 4000000 in
theorem le_1 (hD : ∀ j as M q, D j as M = some q → jx_le M q) (hJ : ∀ b ls st M, J b ls st M = some r → jx_le M r) (hk : ∀ ls st M, k ls st M = some r → jx_le M r) {x : jX} {ls : jL} {st : List Value} {M : jM} (h : jx_1 tx sw D J x ls st M k = some r) : jx_le M r := by
  unfold jx_1 at h
  split at h <;> first
    | exact hk _ _ _ h
    | exact hJ _ _ _ _ h
    | exact le_call hD hk h
    | exact gi_el h fun _ h => hk _ _ _ h
    | exact gl_el h fun _ h => hk _ _ _ h
    | exact gr_el h fun _ h => hk _ _ _ h
    | exact pi_el h fun _ _ h => ck_el h fun h => hk _ _ _ h
    | exact pl_el h fun _ _ h => ck_el h fun h => hk _ _ _ h
    | exact pr_el h fun _ _ h => ck_el h fun h => hk _ _ _ h
    | exact pi_el h fun _ _ h => hk _ _ _ h
    | exact pl_el h fun _ _ h => hk _ _ _ h
    | exact pi_el h fun _ _ h => pi_el h fun _ _ h => hk _ _ _ h
    | exact pl_el h fun _ _ h => pl_el h fun _ _ h => hk _ _ _ h
    | exact pi_el h fun _ _ h => pl_el h fun _ _ h => hk _ _ _ h
    | exact pi_el h fun _ _ h => pi_el h fun _ _ h => ite_el h no_el (fun h => hk _ _ _ h)
    | exact pl_el h fun _ _ h => pl_el h fun _ _ h => ite_el h no_el (fun h => hk _ _ _ h)
    | exact pi_el h fun _ _ h => ite_el h (fun h => hJ _ _ _ _ h) (fun h => hk _ _ _ h)
    | exact pi_el h fun _ _ h => ite_el h (fun h => hk _ _ _ h) (fun h => hJ _ _ _ _ h)
    | exact pi_el h fun _ _ h => pi_el h fun _ _ h => ite_el h (fun h => hJ _ _ _ _ h) (fun h => hk _ _ _ h)
    | exact pi_el h fun _ _ h => pi_el h fun _ _ h => ite_el h (fun h => hk _ _ _ h) (fun h => hJ _ _ _ _ h)
    | exact pi_el h fun _ _ h => hJ _ _ _ _ h
    | exact pi_el h fun _ _ h => ite_el h no_el (fun h => ite_el h no_el (fun h => le_new (hk _ _ _ h)))
    | exact pr_el h fun _ _ h => ite_el h (fun h => hk _ _ _ h) no_el
    | exact pi_el h fun _ _ h => pr_el h fun _ _ h => ite_el h (fun h => ite_el h no_el (fun h => hk _ _ _ h)) no_el
    | exact pi_el h fun _ _ h => pi_el h fun _ _ h => pr_el h fun _ _ h => ite_el h (fun h => ite_el h no_el (fun h => le_w (hk _ _ _ h) rfl rfl)) no_el
    | exact pl_el h fun _ _ h => pi_el h fun _ _ h => pr_el h fun _ _ h => ite_el h (fun h => ite_el h no_el (fun h => le_w (hk _ _ _ h) rfl rfl)) no_el
    | (refine gi_el h fun v h => ?_
       split at h
       · exact ck_el h fun h => hk _ _ _ h
       · cases h)
    | (refine pr_el h fun a s h => ite_el h (fun h => ?_) no_el
       split at h
       · exact hk _ _ _ h
       · exact hk _ _ _ h
       · exact ite_el h no_el (fun h => hk _ _ _ h)
       · exact ite_el h (fun h => hk _ _ _ h) (fun h => hk _ _ _ h)
       · cases h)
    | (split at h
       · exact pi_el h fun _ _ h => pr_el h fun _ _ h => ite_el h (fun h => le_w (hk _ _ _ h) rfl rfl) no_el
       · exact pl_el h fun _ _ h => pr_el h fun _ _ h => ite_el h (fun h => le_w (hk _ _ _ h) rfl rfl) no_el
       · exact pr_el h fun _ _ h => pr_el h fun _ _ h => ite_el h no_el fun h => ite_el h (fun h => le_w (hk _ _ _ h) rfl rfl) no_el
       · cases h)
    | (split at h
       · exact ck_el h fun h => hk _ _ _ h
       · cases h)
    | (split at h
       · exact ck_el h fun h => ck_el h fun h => hk _ _ _ h
       · cases h)
    | (split at h
       · exact hJ _ _ _ _ h
       · exact hk _ _ _ h
       · cases h)
    | (split at h
       · exact hk _ _ _ h
       · exact hJ _ _ _ _ h
       · cases h)
    | (split at h
       · exact le_new (hk _ _ _ h)
       · obtain ⟨-, h⟩ := ck_some h
         cases h
         exact ⟨Nat.le_add_right _ _, Nat.le_add_right _ _⟩)
    | (split at h
       · split at h
         · cases h
           exact ⟨Nat.le_refl _, Nat.le_refl _⟩
         · obtain ⟨-, h⟩ := if_yes h
           cases h
           exact ⟨Nat.le_refl _, Nat.le_refl _⟩
       · cases h)
    | (split at h
       · cases h
         exact ⟨Nat.le_refl _, Nat.le_refl _⟩
       · cases h)
    | cases h
theorem le_ex (hD : ∀ j as M q, D j as M = some q → jx_le M q) (hJ : ∀ b ls st M, J b ls st M = some r → jx_le M r) {nx : Nat} : ∀ (xs : List jX) (ls : jL) (st : List Value) (M : jM), jx_ex tx sw D J nx xs ls st M = some r → jx_le M r
  | [], ls, st, M, h => hJ _ _ _ _ h
  | x :: xs, ls, st, M, h => le_1 hD hJ (fun ls st M h => le_ex hD hJ xs ls st M h) h
theorem le_run {cd : Nat → Nat → jB} {nl : Nat → Nat} : ∀ (n j b : Nat) (ls : jL) (st : List Value) (M : jM) (r : jR), jx_run tx sw cd nl n j b ls st M = some r → jx_le M r := by
  intro n
  induction n with
  | zero => intro j b ls st M r h; cases h
  | succ n ih =>
    intro j b ls st M r h
    exact le_ex (fun j as M q h => ih _ _ _ _ _ _ (ck_some h).2) (fun b ls st M h => ih _ _ _ _ _ _ h) _ ls st M h
end LE
