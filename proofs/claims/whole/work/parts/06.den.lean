/-! The machine's answers: by steps, and as a function that its blocks' equations tell. -/
def jx_run (tx : Nat → List Int32) (sw : Nat → Int × List Nat × Nat) (cd : Nat → Nat → jB) (nl : Nat → Nat) : Nat → Nat → Nat → jL → List Value → jM → Option jR
  | 0, _, _, _, _, _ => none
  | n + 1, j, b, ls, st, M => jx_ex tx sw (fun j' as M' => jx_ck (Nat.beq (jx_en (nl j') as).length (nl j')) (jx_run tx sw cd nl n j' 0 (jx_en (nl j') as) [] M')) (fun b' ls' st' M' => jx_run tx sw cd nl n j b' (jx_mk (cd j b').2.2.2 ls') st' M') (cd j b).2.1 (cd j b).1 ls st M
/-- it holds from some place on -/
def jx_Ev {ρ : Type} (f : Nat → Option ρ) (r : ρ) : Prop := ∃ n, ∀ m, n ≤ m → f m = some r
section EV
variable {ρ : Type} {r : ρ}
theorem ev_cst {o : Option ρ} (h : o = some r) : jx_Ev (fun _ => o) r := ⟨0, fun _ _ => h⟩
theorem ev_pi {st : List Value} {f : Int32 → List Value → Option ρ} {g : Nat → Int32 → List Value → Option ρ} (h : jx_pi st f = some r) (k : ∀ x s, f x s = some r → jx_Ev (fun n => g n x s) r) : jx_Ev (fun n => jx_pi st (g n)) r := by
  unfold jx_pi at h ⊢
  split at h <;> first | exact k _ _ h | cases h
theorem ev_pl {st : List Value} {f : Int64 → List Value → Option ρ} {g : Nat → Int64 → List Value → Option ρ} (h : jx_pl st f = some r) (k : ∀ x s, f x s = some r → jx_Ev (fun n => g n x s) r) : jx_Ev (fun n => jx_pl st (g n)) r := by
  unfold jx_pl at h ⊢
  split at h <;> first | exact k _ _ h | cases h
theorem ev_pr {st : List Value} {f : Nat → List Value → Option ρ} {g : Nat → Nat → List Value → Option ρ} (h : jx_pr st f = some r) (k : ∀ x s, f x s = some r → jx_Ev (fun n => g n x s) r) : jx_Ev (fun n => jx_pr st (g n)) r := by
  unfold jx_pr at h ⊢
  split at h <;> first | exact k _ _ h | cases h
theorem ev_gi {ls : jL} {i : Nat} {f : Int32 → Option ρ} {g : Nat → Int32 → Option ρ} (h : jx_gi ls i f = some r) (k : ∀ x, f x = some r → jx_Ev (fun n => g n x) r) : jx_Ev (fun n => jx_gi ls i (g n)) r := by
  unfold jx_gi at h ⊢
  split at h <;> first | exact k _ h | cases h
theorem ev_gl {ls : jL} {i : Nat} {f : Int64 → Option ρ} {g : Nat → Int64 → Option ρ} (h : jx_gl ls i f = some r) (k : ∀ x, f x = some r → jx_Ev (fun n => g n x) r) : jx_Ev (fun n => jx_gl ls i (g n)) r := by
  unfold jx_gl at h ⊢
  split at h <;> first | exact k _ h | cases h
theorem ev_gr {ls : jL} {i : Nat} {f : Nat → Option ρ} {g : Nat → Nat → Option ρ} (h : jx_gr ls i f = some r) (k : ∀ x, f x = some r → jx_Ev (fun n => g n x) r) : jx_Ev (fun n => jx_gr ls i (g n)) r := by
  unfold jx_gr at h ⊢
  split at h <;> first | exact k _ h | cases h
theorem ev_ck {b : Bool} {o : Option ρ} {g : Nat → Option ρ} (h : jx_ck b o = some r) (k : o = some r → jx_Ev g r) : jx_Ev (fun n => jx_ck b (g n)) r := by
  cases b
  · cases h
  · exact k h
theorem ev_ite {c : Prop} [Decidable c] {a b : Option ρ} {g g' : Nat → Option ρ} (h : (if c then a else b) = some r) (k : a = some r → jx_Ev g r) (k' : b = some r → jx_Ev g' r) : jx_Ev (fun n => if c then g n else g' n) r := by
  by_cases hc : c
  · simp only [if_pos hc] at h ⊢; exact k h
  · simp only [if_neg hc] at h ⊢; exact k' h
theorem ev_rc {rc : Nat} {as : List Value} {M : jM} {o : Option ρ} {g : Nat → Option ρ} (h : jx_rc rc as M o = some r) (k : o = some r → jx_Ev g r) : jx_Ev (fun n => jx_rc rc as M (g n)) r := by
  unfold jx_rc at h ⊢
  split at h
  · exact k h
  · split at h
    · exact ev_ite h k (fun h => by cases h)
    · cases h
theorem ev_no {g : Nat → Option ρ} (h : (none : Option ρ) = some r) : jx_Ev g r := by cases h
end EV
theorem ev_ri {r : jR} {o : Option jR} {f : Int32 → jM → Option jR} {o' : Nat → Option jR} {g : Nat → Int32 → jM → Option jR} (h : jx_ri o f = some r) (ho : ∀ q, o = some q → jx_Ev o' q) (k : ∀ x M, f x M = some r → jx_Ev (fun n => g n x M) r) : jx_Ev (fun n => jx_ri (o' n) (g n)) r := by
  unfold jx_ri at h
  split at h
  · rename_i x M
    obtain ⟨n1, h1⟩ := ho _ rfl
    obtain ⟨n2, h2⟩ := k _ _ h
    exact ⟨max n1 n2, fun m hm => by show jx_ri (o' m) (g m) = _; rw [h1 m (by omega)]; exact h2 m (by omega)⟩
  · cases h
theorem ev_rl {r : jR} {o : Option jR} {f : Int64 → jM → Option jR} {o' : Nat → Option jR} {g : Nat → Int64 → jM → Option jR} (h : jx_rl o f = some r) (ho : ∀ q, o = some q → jx_Ev o' q) (k : ∀ x M, f x M = some r → jx_Ev (fun n => g n x M) r) : jx_Ev (fun n => jx_rl (o' n) (g n)) r := by
  unfold jx_rl at h
  split at h
  · rename_i x M
    obtain ⟨n1, h1⟩ := ho _ rfl
    obtain ⟨n2, h2⟩ := k _ _ h
    exact ⟨max n1 n2, fun m hm => by show jx_rl (o' m) (g m) = _; rw [h1 m (by omega)]; exact h2 m (by omega)⟩
  · cases h
theorem ev_rv {r : jR} {o : Option jR} {f : jM → Option jR} {o' : Nat → Option jR} {g : Nat → jM → Option jR} (h : jx_rv o f = some r) (ho : ∀ q, o = some q → jx_Ev o' q) (k : ∀ M, f M = some r → jx_Ev (fun n => g n M) r) : jx_Ev (fun n => jx_rv (o' n) (g n)) r := by
  unfold jx_rv at h
  split at h
  · rename_i M
    obtain ⟨n1, h1⟩ := ho _ rfl
    obtain ⟨n2, h2⟩ := k _ h
    exact ⟨max n1 n2, fun m hm => by show jx_rv (o' m) (g m) = _; rw [h1 m (by omega)]; exact h2 m (by omega)⟩
  · cases h
theorem ev_rt {r : jR} {o : Option jR} {f : Int32 → jM → Option jR} {f' : jM → Option jR} {o' : Nat → Option jR} {g : Nat → Int32 → jM → Option jR} {g' : Nat → jM → Option jR} (h : jx_rt o f f' = some r) (ho : ∀ q, o = some q → jx_Ev o' q) (k : ∀ x M, f x M = some r → jx_Ev (fun n => g n x M) r) (k' : ∀ M, f' M = some r → jx_Ev (fun n => g' n M) r) : jx_Ev (fun n => jx_rt (o' n) (g n) (g' n)) r := by
  unfold jx_rt at h
  split at h
  · rename_i x M
    obtain ⟨n1, h1⟩ := ho _ rfl
    obtain ⟨n2, h2⟩ := k _ _ h
    exact ⟨max n1 n2, fun m hm => by show jx_rt (o' m) (g m) (g' m) = _; rw [h1 m (by omega)]; exact h2 m (by omega)⟩
  · rename_i M
    obtain ⟨n1, h1⟩ := ho _ rfl
    obtain ⟨n2, h2⟩ := k' _ h
    exact ⟨max n1 n2, fun m hm => by show jx_rt (o' m) (g m) (g' m) = _; rw [h1 m (by omega)]; exact h2 m (by omega)⟩
  · cases h
section EX
variable {tx : Nat → List Int32} {sw : Nat → Int × List Nat × Nat} {r : jR} {D : Nat → List Value → jM → Option jR} {Dn : Nat → Nat → List Value → jM → Option jR} {J : Nat → jL → List Value → jM → Option jR} {Jn : Nat → Nat → jL → List Value → jM → Option jR} {k : jL → List Value → jM → Option jR} {kn : Nat → jL → List Value → jM → Option jR}
theorem ev_call (hD : ∀ j as M q, D j as M = some q → jx_Ev (fun n => Dn n j as M) q) (hk : ∀ ls st M, k ls st M = some r → jx_Ev (fun n => kn n ls st M) r) {x : jX} {ls : jL} {st : List Value} {M : jM} (h : jx_call tx D x ls st M k = some r) : jx_Ev (fun n => jx_call tx (Dn n) x ls st M (kn n)) r := by
  unfold jx_call at h ⊢
  split at h
  · exact ev_ck h fun h => ev_ck h fun h => ev_rc h fun h => ev_rv h (fun q hq => hD _ _ _ _ hq) fun M h => hk _ _ _ h
  · exact ev_ck h fun h => ev_ck h fun h => ev_rc h fun h => ev_ri h (fun q hq => hD _ _ _ _ hq) fun v M h => hk _ _ _ h
  · exact ev_ck h fun h => ev_ck h fun h => ev_rc h fun h => ev_rl h (fun q hq => hD _ _ _ _ hq) fun v M h => hk _ _ _ h
  · exact ev_pr h fun _ _ h => ev_ck h fun h => hk _ _ _ h
  · exact ev_pi h fun _ _ h => ev_pi h fun _ _ h => ev_ck h fun h => hk _ _ _ h
  · exact ev_pi h fun _ _ h => ev_pi h fun _ _ h => ev_ck h fun h => hk _ _ _ h
  · exact ev_pl h fun _ _ h => ev_pl h fun _ _ h => ev_ck h fun h => hk _ _ _ h
  · exact ev_pr h fun _ _ h => ev_ck h fun h => ev_ite h (fun h => hk _ _ _ h) ev_no
  · exact ev_pi h fun _ _ h => ev_pr h fun _ _ h => ev_ck h fun h => ev_ite h (fun h => ev_ite h ev_no fun h => hk _ _ _ h) ev_no
  · exact ev_pr h fun _ _ h => ev_pi h fun _ _ h => ev_pr h fun _ _ h => ev_ck h fun h => ev_ite h (fun h => ev_ite h (fun h => ev_rt h (fun q hq => hD _ _ _ _ hq) (fun v M h => ev_ite h ev_no fun h => ev_ite h (fun h => hk _ _ _ h) ev_no) fun M h => hk _ _ _ h) ev_no) ev_no
  · cases h
set_option maxHeartbeats 4000000 in
theorem ev_1 (hD : ∀ j as M q, D j as M = some q → jx_Ev (fun n => Dn n j as M) q) (hJ : ∀ b ls st M, J b ls st M = some r → jx_Ev (fun n => Jn n b ls st M) r) (hk : ∀ ls st M, k ls st M = some r → jx_Ev (fun n => kn n ls st M) r) {x : jX} {ls : jL} {st : List Value} {M : jM} (h : jx_1 tx sw D J x ls st M k = some r) : jx_Ev (fun n => jx_1 tx sw (Dn n) (Jn n) x ls st M (kn n)) r := by
  unfold jx_1 at h ⊢
  split at h <;> first
    | exact hk _ _ _ h
    | exact hJ _ _ _ _ h
    | exact ev_call hD hk h
    | exact ev_gi h fun _ h => hk _ _ _ h
    | exact ev_gl h fun _ h => hk _ _ _ h
    | exact ev_gr h fun _ h => hk _ _ _ h
    | exact ev_pi h fun _ _ h => ev_ck h fun h => hk _ _ _ h
    | exact ev_pl h fun _ _ h => ev_ck h fun h => hk _ _ _ h
    | exact ev_pr h fun _ _ h => ev_ck h fun h => hk _ _ _ h
    | exact ev_pi h fun _ _ h => hk _ _ _ h
    | exact ev_pl h fun _ _ h => hk _ _ _ h
    | exact ev_pi h fun _ _ h => ev_pi h fun _ _ h => hk _ _ _ h
    | exact ev_pl h fun _ _ h => ev_pl h fun _ _ h => hk _ _ _ h
    | exact ev_pi h fun _ _ h => ev_pl h fun _ _ h => hk _ _ _ h
    | exact ev_pi h fun _ _ h => ev_pi h fun _ _ h => ev_ite h ev_no (fun h => hk _ _ _ h)
    | exact ev_pl h fun _ _ h => ev_pl h fun _ _ h => ev_ite h ev_no (fun h => hk _ _ _ h)
    | exact ev_pi h fun _ _ h => ev_ite h (fun h => hJ _ _ _ _ h) (fun h => hk _ _ _ h)
    | exact ev_pi h fun _ _ h => ev_ite h (fun h => hk _ _ _ h) (fun h => hJ _ _ _ _ h)
    | exact ev_pi h fun _ _ h => ev_pi h fun _ _ h => ev_ite h (fun h => hJ _ _ _ _ h) (fun h => hk _ _ _ h)
    | exact ev_pi h fun _ _ h => ev_pi h fun _ _ h => ev_ite h (fun h => hk _ _ _ h) (fun h => hJ _ _ _ _ h)
    | exact ev_pi h fun _ _ h => hJ _ _ _ _ h
    | exact ev_pi h fun _ _ h => ev_ite h ev_no (fun h => ev_ite h ev_no (fun h => hk _ _ _ h))
    | exact ev_pr h fun _ _ h => ev_ite h (fun h => hk _ _ _ h) ev_no
    | exact ev_pi h fun _ _ h => ev_pr h fun _ _ h => ev_ite h (fun h => ev_ite h ev_no (fun h => hk _ _ _ h)) ev_no
    | exact ev_pi h fun _ _ h => ev_pi h fun _ _ h => ev_pr h fun _ _ h => ev_ite h (fun h => ev_ite h ev_no (fun h => hk _ _ _ h)) ev_no
    | exact ev_pl h fun _ _ h => ev_pi h fun _ _ h => ev_pr h fun _ _ h => ev_ite h (fun h => ev_ite h ev_no (fun h => hk _ _ _ h)) ev_no
    | (refine ev_gi h fun v h => ?_
       split at h
       · exact ev_ck h fun h => hk _ _ _ h
       · cases h)
    | (refine ev_pr h fun a s h => ev_ite h (fun h => ?_) ev_no
       split at h
       · exact hk _ _ _ h
       · exact hk _ _ _ h
       · exact ev_ite h ev_no (fun h => hk _ _ _ h)
       · exact ev_ite h (fun h => hk _ _ _ h) (fun h => hk _ _ _ h)
       · cases h)
    | (split at h
       · exact ev_pi h fun _ _ h => ev_pr h fun _ _ h => ev_ite h (fun h => hk _ _ _ h) ev_no
       · exact ev_pl h fun _ _ h => ev_pr h fun _ _ h => ev_ite h (fun h => hk _ _ _ h) ev_no
       · exact ev_pr h fun _ _ h => ev_pr h fun _ _ h => ev_ite h ev_no fun h => ev_ite h (fun h => hk _ _ _ h) ev_no
       · cases h)
    | (split at h
       · exact ev_ck h fun h => hk _ _ _ h
       · cases h)
    | (split at h
       · exact ev_ck h fun h => ev_ck h fun h => hk _ _ _ h
       · cases h)
    | (split at h
       · exact hJ _ _ _ _ h
       · exact hk _ _ _ h
       · cases h)
    | (split at h
       · exact hk _ _ _ h
       · exact hJ _ _ _ _ h
       · cases h)
    | (split at h
       · exact hk _ _ _ h
       · exact ev_ck h fun h => ev_cst h)
    | (split at h
       · split at h
         · exact ev_cst h
         · exact ev_cst h
       · cases h)
    | (split at h
       · exact ev_cst h
       · cases h)
    | cases h
theorem ev_ex (hD : ∀ j as M q, D j as M = some q → jx_Ev (fun n => Dn n j as M) q) (hJ : ∀ b ls st M, J b ls st M = some r → jx_Ev (fun n => Jn n b ls st M) r) {nx : Nat} : ∀ (xs : List jX) (ls : jL) (st : List Value) (M : jM), jx_ex tx sw D J nx xs ls st M = some r → jx_Ev (fun n => jx_ex tx sw (Dn n) (Jn n) nx xs ls st M) r
  | [], ls, st, M, h => hJ _ _ _ _ h
  | x :: xs, ls, st, M, h => ev_1 hD hJ (fun ls st M h => ev_ex hD hJ xs ls st M h) h
end EX
section DEN
variable {tx : Nat → List Int32} {sw : Nat → Int × List Nat × Nat} {cd : Nat → Nat → jB} {nl : Nat → Nat}
theorem run_mono1 : ∀ (n j b : Nat) (ls : jL) (st : List Value) (M : jM) (r : jR), jx_run tx sw cd nl n j b ls st M = some r → jx_run tx sw cd nl (n + 1) j b ls st M = some r := by
  intro n
  induction n with
  | zero => intro j b ls st M r h; cases h
  | succ n ih =>
    intro j b ls st M r h
    obtain ⟨k, hk⟩ := ev_ex (Dn := fun _ j' as M' => jx_ck (Nat.beq (jx_en (nl j') as).length (nl j')) (jx_run tx sw cd nl (n + 1) j' 0 (jx_en (nl j') as) [] M')) (Jn := fun _ b' ls' st' M' => jx_run tx sw cd nl (n + 1) j b' (jx_mk (cd j b').2.2.2 ls') st' M')
      (fun j as M q h => ev_ck h fun h => ev_cst (ih _ _ _ _ _ _ h)) (fun b ls st M h => ev_cst (ih _ _ _ _ _ _ h)) _ ls st M h
    exact hk k (Nat.le_refl k)
theorem run_mono {n m : Nat} (hnm : n ≤ m) {j b : Nat} {ls : jL} {st : List Value} {M : jM} {r : jR} (h : jx_run tx sw cd nl n j b ls st M = some r) : jx_run tx sw cd nl m j b ls st M = some r := by
  induction hnm with
  | refl => exact h
  | step _ ih => exact run_mono1 _ _ _ _ _ _ _ ih

noncomputable def jx_lim (f : Nat → Option jR) : Option jR := @dite _ (∃ r, jx_Ev f r) (Classical.propDecidable _) (fun h => some (Classical.choose h)) (fun _ => none)
theorem lim_some {f : Nat → Option jR} {r : jR} : jx_lim f = some r ↔ jx_Ev f r := by
  unfold jx_lim
  constructor
  · intro h
    split at h
    · rename_i hx
      cases h
      exact Classical.choose_spec hx
    · cases h
  · intro h
    have hx : ∃ r, jx_Ev f r := ⟨r, h⟩
    rw [dif_pos hx]
    obtain ⟨n1, h1⟩ := Classical.choose_spec hx
    obtain ⟨n2, h2⟩ := h
    have e1 := h1 (max n1 n2) (by omega)
    have e2 := h2 (max n1 n2) (by omega)
    rw [e2] at e1
    exact e1.symm
theorem opt_ext {ρ : Type} {a b : Option ρ} (h : ∀ r, a = some r ↔ b = some r) : a = b := by
  cases a with
  | none => cases b with
    | none => rfl
    | some y => exact absurd ((h y).mpr rfl) (by simp)
  | some x => exact ((h x).mp rfl).symm
end DEN
noncomputable def jx_den (tx : Nat → List Int32) (sw : Nat → Int × List Nat × Nat) (cd : Nat → Nat → jB) (nl : Nat → Nat) (j b : Nat) (ls : jL) (st : List Value) (M : jM) : Option jR := jx_lim fun n => jx_run tx sw cd nl n j b ls st M
noncomputable def jx_D (tx : Nat → List Int32) (sw : Nat → Int × List Nat × Nat) (cd : Nat → Nat → jB) (nl : Nat → Nat) (j : Nat) (as : List Value) (M : jM) : Option jR := jx_ck (Nat.beq (jx_en (nl j) as).length (nl j)) (jx_den tx sw cd nl j 0 (jx_en (nl j) as) [] M)
section DEN2
variable {tx : Nat → List Int32} {sw : Nat → Int × List Nat × Nat} {cd : Nat → Nat → jB} {nl : Nat → Nat}
theorem den_run {j b : Nat} {ls : jL} {st : List Value} {M : jM} {r : jR} : jx_den tx sw cd nl j b ls st M = some r ↔ ∃ n, jx_run tx sw cd nl n j b ls st M = some r := by
  unfold jx_den
  rw [lim_some]
  exact ⟨fun ⟨n, h⟩ => ⟨n, h n (Nat.le_refl n)⟩, fun ⟨n, h⟩ => ⟨n, fun m hm => run_mono hm h⟩⟩
/-- A BLOCK'S EQUATION -/
theorem den_eq (j b : Nat) (ls : jL) (st : List Value) (M : jM) : jx_den tx sw cd nl j b ls st M = jx_ex tx sw (jx_D tx sw cd nl) (fun b' ls' st' M' => jx_den tx sw cd nl j b' (jx_mk (cd j b').2.2.2 ls') st' M') (cd j b).2.1 (cd j b).1 ls st M := by
  apply opt_ext
  intro r
  rw [den_run]
  constructor
  · rintro ⟨n, h⟩
    cases n with
    | zero => cases h
    | succ n =>
      obtain ⟨k, hk⟩ := ev_ex (Dn := fun _ => jx_D tx sw cd nl) (Jn := fun _ b' ls' st' M' => jx_den tx sw cd nl j b' (jx_mk (cd j b').2.2.2 ls') st' M')
        (fun j as M q h => ev_ck h fun h => ev_cst (den_run.mpr ⟨n, h⟩)) (fun b ls st M h => ev_cst (den_run.mpr ⟨n, h⟩)) _ ls st M h
      exact hk k (Nat.le_refl k)
  · intro h
    obtain ⟨k, hk⟩ := ev_ex (Dn := fun n j' as M' => jx_ck (Nat.beq (jx_en (nl j') as).length (nl j')) (jx_run tx sw cd nl n j' 0 (jx_en (nl j') as) [] M')) (Jn := fun n b' ls' st' M' => jx_run tx sw cd nl n j b' (jx_mk (cd j b').2.2.2 ls') st' M')
        (fun j as M q h => ev_ck h fun h => lim_some.mp h) (fun b ls st M h => lim_some.mp h) _ ls st M h
    exact ⟨k + 1, hk k (Nat.le_refl k)⟩
end DEN2
