/-! WHAT A METHOD ANSWERS: an int or a long -/
section NO
variable {ρ : Type} {r : ρ} {P : Prop}
theorem no_pi {st : List Value} {f : Int32 → List Value → Option ρ} (h : jx_pi st f = some r) (k : ∀ x s, f x s = some r → P) : P := by
  unfold jx_pi at h
  split at h <;> first | exact k _ _ h | cases h
theorem no_pl {st : List Value} {f : Int64 → List Value → Option ρ} (h : jx_pl st f = some r) (k : ∀ x s, f x s = some r → P) : P := by
  unfold jx_pl at h
  split at h <;> first | exact k _ _ h | cases h
theorem no_pr {st : List Value} {f : Nat → List Value → Option ρ} (h : jx_pr st f = some r) (k : ∀ x s, f x s = some r → P) : P := by
  unfold jx_pr at h
  split at h <;> first | exact k _ _ h | cases h
theorem no_gi {ls : jL} {i : Nat} {f : Int32 → Option ρ} (h : jx_gi ls i f = some r) (k : ∀ x, f x = some r → P) : P := by
  unfold jx_gi at h
  split at h <;> first | exact k _ h | cases h
theorem no_gl {ls : jL} {i : Nat} {f : Int64 → Option ρ} (h : jx_gl ls i f = some r) (k : ∀ x, f x = some r → P) : P := by
  unfold jx_gl at h
  split at h <;> first | exact k _ h | cases h
theorem no_gr {ls : jL} {i : Nat} {f : Nat → Option ρ} (h : jx_gr ls i f = some r) (k : ∀ x, f x = some r → P) : P := by
  unfold jx_gr at h
  split at h <;> first | exact k _ h | cases h
theorem no_ck {b : Bool} {o : Option ρ} (h : jx_ck b o = some r) (k : o = some r → P) : P := by
  cases b
  · cases h
  · exact k h
theorem no_ite {c : Prop} [Decidable c] {a b : Option ρ} (h : (if c then a else b) = some r) (k : a = some r → P) (k' : b = some r → P) : P := by
  by_cases hc : c
  · simp only [if_pos hc] at h; exact k h
  · simp only [if_neg hc] at h; exact k' h
theorem no_rc {rc : Nat} {as : List Value} {M : jM} {o : Option ρ} (h : jx_rc rc as M o = some r) (k : o = some r → P) : P := by
  unfold jx_rc at h
  split at h
  · exact k h
  · split at h
    · exact no_ite h k (fun h => by cases h)
    · cases h
theorem no_no (h : (none : Option ρ) = some r) : P := by cases h
end NO
section NP
variable {r : jR} {P : Prop}
theorem no_ri {o : Option jR} {f : Int32 → jM → Option jR} (h : jx_ri o f = some r) (k : ∀ x M, f x M = some r → P) : P := by
  unfold jx_ri at h
  split at h <;> first | exact k _ _ h | cases h
theorem no_rl {o : Option jR} {f : Int64 → jM → Option jR} (h : jx_rl o f = some r) (k : ∀ x M, f x M = some r → P) : P := by
  unfold jx_rl at h
  split at h <;> first | exact k _ _ h | cases h
theorem no_rv {o : Option jR} {f : jM → Option jR} (h : jx_rv o f = some r) (k : ∀ M, f M = some r → P) : P := by
  unfold jx_rv at h
  split at h <;> first | exact k _ h | cases h
theorem no_rt {o : Option jR} {f : Int32 → jM → Option jR} {f' : jM → Option jR} (h : jx_rt o f f' = some r) (k : ∀ x M, f x M = some r → P) (k' : ∀ M, f' M = some r → P) : P := by
  unfold jx_rt at h
  split at h <;> first | exact k _ _ h | exact k' _ h | cases h
/-- the instructions of a method that answers an int (i) or a long (l) -/
def jr_ok (i l : Bool) (x : jX) : Bool := match x.1 with
  | .ireturn => i
  | .lreturn => l
  | .return_ => false
  | .new _ => Nat.beq x.2.2.2.2.1 0
  | _ => true
variable {tx : Nat → List Int32} {sw : Nat → Int × List Nat × Nat} {D : Nat → List Value → jM → Option jR} {J : Nat → jL → List Value → jM → Option jR} {k : jL → List Value → jM → Option jR} {bi bl : Bool}
theorem no_call (hk : ∀ ls st M, k ls st M = some r → P) {x : jX} {ls : jL} {st : List Value} {M : jM} (h : jx_call tx D x ls st M k = some r) : P := by
  unfold jx_call at h
  split at h
  · exact no_ck h fun h => no_ck h fun h => no_rc h fun h => no_rv h fun M h => hk _ _ _ h
  · exact no_ck h fun h => no_ck h fun h => no_rc h fun h => no_ri h fun v M h => hk _ _ _ h
  · exact no_ck h fun h => no_ck h fun h => no_rc h fun h => no_rl h fun v M h => hk _ _ _ h
  · exact no_pr h fun _ _ h => no_ck h fun h => hk _ _ _ h
  · exact no_pi h fun _ _ h => no_pi h fun _ _ h => no_ck h fun h => hk _ _ _ h
  · exact no_pi h fun _ _ h => no_pi h fun _ _ h => no_ck h fun h => hk _ _ _ h
  · exact no_pl h fun _ _ h => no_pl h fun _ _ h => no_ck h fun h => hk _ _ _ h
  · exact no_pr h fun _ _ h => no_ck h fun h => no_ite h (fun h => hk _ _ _ h) no_no
  · exact no_pi h fun _ _ h => no_pr h fun _ _ h => no_ck h fun h => no_ite h (fun h => no_ite h no_no fun h => hk _ _ _ h) no_no
  · exact no_pr h fun _ _ h => no_pi h fun _ _ h => no_pr h fun _ _ h => no_ck h fun h => no_ite h (fun h => no_ite h (fun h => no_rt h (fun v M h => no_ite h no_no fun h => no_ite h (fun h => hk _ _ _ h) no_no) fun M h => hk _ _ _ h) no_no) no_no
  · cases h
set_option maxHeartbeats 4000000 in
theorem no_1 (hJ : ∀ b ls st M, J b ls st M = some r → P) (hk : ∀ ls st M, k ls st M = some r → P) (hi : bi = true → ∀ v M', r = (some (.int v), M') → P) (hl : bl = true → ∀ v M', r = (some (.long v), M') → P) {x : jX} (hx : jr_ok bi bl x = true) {ls : jL} {st : List Value} {M : jM} (h : jx_1 tx sw D J x ls st M k = some r) : P := by
  unfold jx_1 at h
  split at h <;> first
    | exact hk _ _ _ h
    | exact hJ _ _ _ _ h
    | exact no_call hk h
    | exact no_gi h fun _ h => hk _ _ _ h
    | exact no_gl h fun _ h => hk _ _ _ h
    | exact no_gr h fun _ h => hk _ _ _ h
    | exact no_pi h fun _ _ h => no_ck h fun h => hk _ _ _ h
    | exact no_pl h fun _ _ h => no_ck h fun h => hk _ _ _ h
    | exact no_pr h fun _ _ h => no_ck h fun h => hk _ _ _ h
    | exact no_pi h fun _ _ h => hk _ _ _ h
    | exact no_pl h fun _ _ h => hk _ _ _ h
    | exact no_pi h fun _ _ h => no_pi h fun _ _ h => hk _ _ _ h
    | exact no_pl h fun _ _ h => no_pl h fun _ _ h => hk _ _ _ h
    | exact no_pi h fun _ _ h => no_pl h fun _ _ h => hk _ _ _ h
    | exact no_pi h fun _ _ h => no_pi h fun _ _ h => no_ite h no_no (fun h => hk _ _ _ h)
    | exact no_pl h fun _ _ h => no_pl h fun _ _ h => no_ite h no_no (fun h => hk _ _ _ h)
    | exact no_pi h fun _ _ h => no_ite h (fun h => hJ _ _ _ _ h) (fun h => hk _ _ _ h)
    | exact no_pi h fun _ _ h => no_ite h (fun h => hk _ _ _ h) (fun h => hJ _ _ _ _ h)
    | exact no_pi h fun _ _ h => no_pi h fun _ _ h => no_ite h (fun h => hJ _ _ _ _ h) (fun h => hk _ _ _ h)
    | exact no_pi h fun _ _ h => no_pi h fun _ _ h => no_ite h (fun h => hk _ _ _ h) (fun h => hJ _ _ _ _ h)
    | exact no_pi h fun _ _ h => hJ _ _ _ _ h
    | exact no_pi h fun _ _ h => no_ite h no_no (fun h => no_ite h no_no (fun h => hk _ _ _ h))
    | exact no_pr h fun _ _ h => no_ite h (fun h => hk _ _ _ h) no_no
    | exact no_pi h fun _ _ h => no_pr h fun _ _ h => no_ite h (fun h => no_ite h no_no (fun h => hk _ _ _ h)) no_no
    | exact no_pi h fun _ _ h => no_pi h fun _ _ h => no_pr h fun _ _ h => no_ite h (fun h => no_ite h no_no (fun h => hk _ _ _ h)) no_no
    | exact no_pl h fun _ _ h => no_pi h fun _ _ h => no_pr h fun _ _ h => no_ite h (fun h => no_ite h no_no (fun h => hk _ _ _ h)) no_no
    | (refine no_gi h fun v h => ?_
       split at h
       · exact no_ck h fun h => hk _ _ _ h
       · cases h)
    | (refine no_pr h fun a s h => no_ite h (fun h => ?_) no_no
       split at h
       · exact hk _ _ _ h
       · exact hk _ _ _ h
       · exact no_ite h no_no (fun h => hk _ _ _ h)
       · exact no_ite h (fun h => hk _ _ _ h) (fun h => hk _ _ _ h)
       · cases h)
    | (split at h
       · exact no_pi h fun _ _ h => no_pr h fun _ _ h => no_ite h (fun h => hk _ _ _ h) no_no
       · exact no_pl h fun _ _ h => no_pr h fun _ _ h => no_ite h (fun h => hk _ _ _ h) no_no
       · exact no_pr h fun _ _ h => no_pr h fun _ _ h => no_ite h no_no fun h => no_ite h (fun h => hk _ _ _ h) no_no
       · cases h)
    | (split at h
       · exact no_ck h fun h => hk _ _ _ h
       · cases h)
    | (split at h
       · exact no_ck h fun h => no_ck h fun h => hk _ _ _ h
       · cases h)
    | (split at h
       · exact hJ _ _ _ _ h
       · exact hk _ _ _ h
       · cases h)
    | (split at h
       · exact hk _ _ _ h
       · exact hJ _ _ _ _ h
       · cases h)
    | (rename_i e
       unfold jr_ok at hx
       rw [e] at hx
       split at h
       · exact hk _ _ _ h
       · rename_i e2
         exact absurd (Nat.eq_of_beq_eq_true hx) e2)
    | (rename_i e
       unfold jr_ok at hx
       rw [e] at hx
       split at h
       · split at h
         · exact hi hx _ _ (Option.some.inj h).symm
         · exact no_ite h (fun h => hi hx _ _ (Option.some.inj h).symm) no_no
       · cases h)
    | (rename_i e
       unfold jr_ok at hx
       rw [e] at hx
       split at h
       · exact hl hx _ _ (Option.some.inj h).symm
       · cases h)
    | (rename_i e
       unfold jr_ok at hx
       rw [e] at hx
       cases hx)
    | cases h
theorem no_ex (hJ : ∀ b ls st M, J b ls st M = some r → P) (hi : bi = true → ∀ v M', r = (some (.int v), M') → P) (hl : bl = true → ∀ v M', r = (some (.long v), M') → P) {nx : Nat} : ∀ (xs : List jX) (ls : jL) (st : List Value) (M : jM), xs.all (jr_ok bi bl) = true → jx_ex tx sw D J nx xs ls st M = some r → P
  | [], ls, st, M, _, h => hJ _ _ _ _ h
  | x :: xs, ls, st, M, hx, h => no_1 hJ (fun ls st M h => no_ex hJ hi hl xs ls st M (Bool.and_eq_true _ _ ▸ hx).2 h) hi hl (Bool.and_eq_true _ _ ▸ hx).1 h
end NP
theorem no_run {tx : Nat → List Int32} {sw : Nat → Int × List Nat × Nat} {cd : Nat → Nat → jB} {nl : Nat → Nat} {bi bl : Bool} {j : Nat} {r : jR} {P : Prop} (hcd : ∀ b, ((cd j b).1).all (jr_ok bi bl) = true) (hi : bi = true → ∀ v M', r = (some (.int v), M') → P) (hl : bl = true → ∀ v M', r = (some (.long v), M') → P) : ∀ n b ls st M, jx_run tx sw cd nl n j b ls st M = some r → P := by
  intro n
  induction n with
  | zero => intro b ls st M h; cases h
  | succ n ih =>
    intro b ls st M h
    exact no_ex (fun b ls st M h => ih b _ st M h) hi hl _ _ _ _ (hcd b) h
theorem ret_cd {bi bl : Bool} {j : Nat} (h : ((jt_kk.getD j []).all fun b => b.1.all (jr_ok bi bl)) = true) (b : Nat) : ((jt_cd j b).1).all (jr_ok bi bl) = true := by
  unfold jt_cd
  rw [List.getD_eq_getElem?_getD]
  cases e : (jt_kk.getD j [])[b]? with
  | none => rfl
  | some x => exact List.all_eq_true.mp h x (List.mem_of_getElem? e)
theorem ret_int {j : Nat} (hj : ((jt_kk.getD j []).all fun b => b.1.all (jr_ok true false)) = true) {as : List Value} {M : jM} {v : Value} {M' : jM} (h : jD j as M = some (some v, M')) : ∃ a, v = .int a := by
  refine no_ck (b := Nat.beq (jx_en (jt_nl j) as).length (jt_nl j)) h fun h => ?_
  obtain ⟨n, h⟩ := den_run.mp h
  exact no_run (P := ∃ a, v = .int a) (ret_cd hj) (fun _ a M2 e => ⟨a, Option.some.inj (congrArg (fun (x : jR) => x.1) e)⟩) (fun z => absurd z (by decide)) n _ _ _ _ h
theorem ret_long {j : Nat} (hj : ((jt_kk.getD j []).all fun b => b.1.all (jr_ok false true)) = true) {as : List Value} {M : jM} {v : Value} {M' : jM} (h : jD j as M = some (some v, M')) : ∃ a, v = .long a := by
  refine no_ck (b := Nat.beq (jx_en (jt_nl j) as).length (jt_nl j)) h fun h => ?_
  obtain ⟨n, h⟩ := den_run.mp h
  exact no_run (P := ∃ a, v = .long a) (ret_cd hj) (fun z => absurd z (by decide)) (fun _ a M2 e => ⟨a, Option.some.inj (congrArg (fun (x : jR) => x.1) e)⟩) n _ _ _ _ h
