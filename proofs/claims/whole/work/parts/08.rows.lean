/-! AN INSTRUCTION OF THE SMALL MACHINE, A ROW OF THE MACHINE -/
/-- what a text's constant is at the law's start: an object of String at ad, coder 0, its bytes at av; the statics that String reads -/
def jq_T (z : Nat) (U : State) (H : Heap) (ad av : Nat) (byt : List Int32) : Prop :=
  va_O "java/lang/String" ad (fun q => z ≤ q) U H ∧ va_OF "java/lang/String" "coder" "B" (.int 0) ad (fun q => z ≤ q) U H ∧ va_OF "java/lang/String" "value" "[B" (.ref av) ad (fun q => z ≤ q) U H ∧ va_T .byte av byt.length (fun j => .int (byt.getD j 0)) (fun q => z ≤ q) U H
def jq_Z (z : Nat) (U : State) (H : Heap) : Prop := va_Z "java/lang/String" "COMPACT_STRINGS" "Z" (.int 1) (fun q => z ≤ q) U H ∧ va_Zq "jdk/internal/util/Preconditions" "SIOOBE_FORMATTER" "Ljava/util/function/BiFunction;" (fun q => z ≤ q) U H
/-- what is known at the law's start -/
def jw_C (s0 : State) (D : va_G) (cI cJ cB : ClassId) (sp : Nat → Nat) (L b0 : Nat) (xs : Nat → Int32) : Prop :=
  (∀ w ∈ lw_tbl, w.before #[Value.ref b0] s0 = true) ∧ va_K D vwCl [(cI, .int), (cJ, .long), (cB, .byte)] s0 ∧ va_X (sp 1) L xs s0 s0.heap ∧ sp 1 < s0.heap.size ∧
  (∀ (i o x : Nat) (t : String), jt_sks[i]? = some (o, x, t) → vk_R (jt_on o) x t (sp (i + 2)) s0) ∧
  jq_Z s0.heap.size s0 s0.heap ∧ ∀ i, i < jt_sks.length → ∃ av, jq_T s0.heap.size s0 s0.heap (sp (i + 2)) av (jt_tx (i + 2))
/-- what a frame knows -/
def jw_F (p : Program) (s s0 : State) (m : MethodId) (meth : Method) (c : Code) (j : Nat) : Prop :=
  p.tables.exec = Jvm.exec ∧ c.code = jt_cc j ∧ c.maxLocals = jt_nl j ∧ s.vm.findClass (jt_on (jt_o j)) = some m.cls ∧ s0.WarmedH s.vm ∧ ((jt_y j).name = "<init>" → meth.name = "<init>")
def jw_W (p : Program) (l : Launch) (e : Env) (R : Room) (s s0 : State) (m : MethodId) (args : Array Value) (below : List Frame) (meth : Method) (c : Code) (Q : State → Prop) (D : va_G) (cI cJ cB : ClassId) (sp : Nat → Nat) (L : Nat) (xs : Nat → Int32) (n0 w0 nL : Nat)
    (M : jM) (ls : jL) (st : List Value) (pc : Nat) : Prop :=
  ∀ (H : Heap) (locs : List Loc) (a : Array Slot), jw_H s0.heap D cI cJ cB sp L xs M H → jw_L (jw_ad s0.heap.size sp) nL ls a → (∀ q ∈ locs, s0.heap.size ≤ q.base) →
    W p l e R s m args below meth c H locs (jm_n M - n0) (jm_w M - w0) Q (F0 m pc a (st.map (jw_v (jw_ad s0.heap.size sp))))
theorem jw_stable {s0 U : State} {b0 : Nat} (hts : ∀ w ∈ lw_tbl, w.before #[Value.ref b0] s0 = true) (hW : s0.WarmedH U.vm) (args : Array Value) : ∀ w ∈ jc_gw, w.before args U = true := by
  intro w hw
  obtain ⟨h1, h2⟩ := List.mem_filter.mp hw
  have h := hts w h1
  unfold jc_good at h2
  rcases Bool.or_eq_true_iff.mp h2 with h2 | h2
  · exact word_at hW (good_of_word h2) h
  · cases w <;> first
      | exact (va_Nw.use rfl (va_Nw.warmF hW (va_Nw.of rfl h)))
      | exact (va_Nw.use rfl (va_Nw.warmM hW (va_Nw.of rfl h)))
      | cases h2
theorem jc_good_in {w : Jvm.Cond} (h : w ∈ jc_gw) (hg : goodWord w = true) : w ∈ jc_gw ∧ ((w.onTables && w.keeps) = true ∨ ∃ ty, w = .arrayClass ty) := ⟨h, good_of_word hg⟩
section PI
variable {ρ : Type} {r : ρ}
theorem pi_some {st : List Value} {f : Int32 → List Value → Option ρ} (h : jx_pi st f = some r) : ∃ x s, st = .int x :: s ∧ f x s = some r := by
  unfold jx_pi at h
  split at h
  · exact ⟨_, _, rfl, h⟩
  · cases h
theorem pl_some {st : List Value} {f : Int64 → List Value → Option ρ} (h : jx_pl st f = some r) : ∃ x s, st = .long x :: s ∧ f x s = some r := by
  unfold jx_pl at h
  split at h
  · exact ⟨_, _, rfl, h⟩
  · cases h
theorem pr_some {st : List Value} {f : Nat → List Value → Option ρ} (h : jx_pr st f = some r) : ∃ x s, st = .ref x :: s ∧ f x s = some r := by
  unfold jx_pr at h
  split at h
  · exact ⟨_, _, rfl, h⟩
  · cases h
theorem gi_some {ls : jL} {i : Nat} {f : Int32 → Option ρ} (h : jx_gi ls i f = some r) : ∃ x, ls[i]? = some (some (.int x)) ∧ f x = some r := by
  unfold jx_gi at h
  split at h
  · rename_i x hx; exact ⟨x, hx, h⟩
  · cases h
theorem gl_some {ls : jL} {i : Nat} {f : Int64 → Option ρ} (h : jx_gl ls i f = some r) : ∃ x, ls[i]? = some (some (.long x)) ∧ f x = some r := by
  unfold jx_gl at h
  split at h
  · rename_i x hx; exact ⟨x, hx, h⟩
  · cases h
theorem gr_some {ls : jL} {i : Nat} {f : Nat → Option ρ} (h : jx_gr ls i f = some r) : ∃ x, ls[i]? = some (some (.ref x)) ∧ f x = some r := by
  unfold jx_gr at h
  split at h
  · rename_i x hx; exact ⟨x, hx, h⟩
  · cases h
theorem ck_some {b : Bool} {o : Option ρ} (h : jx_ck b o = some r) : b = true ∧ o = some r := by
  cases b
  · cases h
  · exact ⟨rfl, h⟩
theorem ite_some {c : Prop} [Decidable c] {a b : Option ρ} (h : (if c then a else b) = some r) : (c ∧ a = some r) ∨ (¬ c ∧ b = some r) := by
  by_cases hc : c
  · rw [if_pos hc] at h; exact Or.inl ⟨hc, h⟩
  · rw [if_neg hc] at h; exact Or.inr ⟨hc, h⟩
theorem if_yes {c : Prop} [Decidable c] {a : Option ρ} (h : (if c then a else none) = some r) : c ∧ a = some r := by
  rcases ite_some h with q | ⟨-, q⟩
  · exact q
  · cases q
theorem if_no {c : Prop} [Decidable c] {a : Option ρ} (h : (if c then none else a) = some r) : ¬ c ∧ a = some r := by
  rcases ite_some h with ⟨-, q⟩ | q
  · cases q
  · exact q
end PI
theorem blt_lt {a b : Nat} (h : Nat.blt a b = true) : a < b := Nat.lt_of_lt_of_le (Nat.lt_succ_self a) (Nat.le_of_ble_eq_true h)
section JS
variable {p : Program} {l : Launch} {e : Env} {R : Room} {s s0 : State} {m : MethodId} {args : Array Value} {below : List Frame} {meth : Method} {c : Code} {Q : State → Prop} {D : va_G} {cI cJ cB : ClassId} {sp : Nat → Nat} {L b0 : Nat} {xs : Nat → Int32} {n0 w0 j : Nat}
variable {M : jM} {ls : jL} {st : List Value} {pc : Nat}
theorem js_null (F : jw_F p s s0 m meth c j) (hd : decode (jt_cc j) pc = .ok (.aconst_null, 1)) (k : jw_W p l e R s s0 m args below meth c Q D cI cJ cB sp L xs n0 w0 (jt_nl j) M ls (.null :: st) (pc + 1)) : jw_W p l e R s s0 m args below meth c Q D cI cJ cB sp L xs n0 w0 (jt_nl j) M ls st pc := fun H locs a hH hL hl => lv_null F.1 F.2.1 hd (k H locs a hH hL hl)
theorem js_iconst (F : jw_F p s s0 m meth c j) {n : Int} (hd : decode (jt_cc j) pc = .ok (.iconst n, 1)) (k : jw_W p l e R s s0 m args below meth c Q D cI cJ cB sp L xs n0 w0 (jt_nl j) M ls (.int (Int32.ofInt n) :: st) (pc + 1)) : jw_W p l e R s s0 m args below meth c Q D cI cJ cB sp L xs n0 w0 (jt_nl j) M ls st pc := fun H locs a hH hL hl => lv_iconst F.1 F.2.1 hd rfl (k H locs a hH hL hl)
theorem js_bipush (F : jw_F p s s0 m meth c j) {n : Int} (hd : decode (jt_cc j) pc = .ok (.bipush n, 2)) (k : jw_W p l e R s s0 m args below meth c Q D cI cJ cB sp L xs n0 w0 (jt_nl j) M ls (.int ((Int8.ofInt n).toInt32) :: st) (pc + 2)) : jw_W p l e R s s0 m args below meth c Q D cI cJ cB sp L xs n0 w0 (jt_nl j) M ls st pc := fun H locs a hH hL hl => lv_bipush F.1 F.2.1 hd rfl (k H locs a hH hL hl)
theorem js_sipush (F : jw_F p s s0 m meth c j) {n : Int} (hd : decode (jt_cc j) pc = .ok (.sipush n, 3)) (k : jw_W p l e R s s0 m args below meth c Q D cI cJ cB sp L xs n0 w0 (jt_nl j) M ls (.int ((Int16.ofInt n).toInt32) :: st) (pc + 3)) : jw_W p l e R s s0 m args below meth c Q D cI cJ cB sp L xs n0 w0 (jt_nl j) M ls st pc := fun H locs a hH hL hl => lv_sipush F.1 F.2.1 hd rfl (k H locs a hH hL hl)
theorem js_lconst (F : jw_F p s s0 m meth c j) {n : Fin 2} (hd : decode (jt_cc j) pc = .ok (.lconst n, 1)) (k : jw_W p l e R s s0 m args below meth c Q D cI cJ cB sp L xs n0 w0 (jt_nl j) M ls (.long (Int64.ofNat n.val) :: st) (pc + 1)) : jw_W p l e R s s0 m args below meth c Q D cI cJ cB sp L xs n0 w0 (jt_nl j) M ls st pc := fun H locs a hH hL hl => lv_lconst F.1 F.2.1 hd rfl (k H locs a hH hL hl)
theorem js_ldc (F : jw_F p s s0 m meth c j) {i : Nat} {v : Int32} (hw : (Jvm.Cond.constant (jt_on (jt_o j)) i v).before args s = true) (hd : decode (jt_cc j) pc = .ok (.ldc i, 2)) (k : jw_W p l e R s s0 m args below meth c Q D cI cJ cB sp L xs n0 w0 (jt_nl j) M ls (.int v :: st) (pc + 2)) : jw_W p l e R s s0 m args below meth c Q D cI cJ cB sp L xs n0 w0 (jt_nl j) M ls st pc := fun H locs a hH hL hl => lv_ldc F.1 F.2.1 F.2.2.2.1 hw hd (k H locs a hH hL hl)
theorem js_ldcw (F : jw_F p s s0 m meth c j) {i : Nat} {v : Int32} (hw : (Jvm.Cond.constant (jt_on (jt_o j)) i v).before args s = true) (hd : decode (jt_cc j) pc = .ok (.ldc_w i, 3)) (k : jw_W p l e R s s0 m args below meth c Q D cI cJ cB sp L xs n0 w0 (jt_nl j) M ls (.int v :: st) (pc + 3)) : jw_W p l e R s s0 m args below meth c Q D cI cJ cB sp L xs n0 w0 (jt_nl j) M ls st pc := fun H locs a hH hL hl => lv_ldcw F.1 F.2.1 F.2.2.2.1 hw hd (k H locs a hH hL hl)
theorem js_ldc2 (F : jw_F p s s0 m meth c j) {i : Nat} {v : Int64} (hw : (Jvm.Cond.constantLong (jt_on (jt_o j)) i v).before args s = true) (hd : decode (jt_cc j) pc = .ok (.ldc2_w i, 3)) (k : jw_W p l e R s s0 m args below meth c Q D cI cJ cB sp L xs n0 w0 (jt_nl j) M ls (.long v :: st) (pc + 3)) : jw_W p l e R s s0 m args below meth c Q D cI cJ cB sp L xs n0 w0 (jt_nl j) M ls st pc := fun H locs a hH hL hl => lv_ldc2 F.1 F.2.1 F.2.2.2.1 hw hd (k H locs a hH hL hl)
theorem js_ldcS (F : jw_F p s s0 m meth c j) {i q : Nat} {t : String} (hZ : vk_R (jt_on (jt_o j)) i t (sp q) s) (hq : q < 100) (hd : decode (jt_cc j) pc = .ok (.ldc i, 2)) (k : jw_W p l e R s s0 m args below meth c Q D cI cJ cB sp L xs n0 w0 (jt_nl j) M ls (.ref q :: st) (pc + 2)) : jw_W p l e R s s0 m args below meth c Q D cI cJ cB sp L xs n0 w0 (jt_nl j) M ls st pc := fun H locs a hH hL hl => by
  have h := k H locs a hH hL hl
  rw [List.map_cons, show jw_v (jw_ad s0.heap.size sp) (.ref q) = .ref (sp q) by show Value.ref (jw_ad _ _ _) = _; unfold jw_ad; rw [if_pos hq]] at h
  exact va_ldcS F.1 F.2.1 F.2.2.2.1 hZ hd h
theorem js_ldcwS (F : jw_F p s s0 m meth c j) {i q : Nat} {t : String} (hZ : vk_R (jt_on (jt_o j)) i t (sp q) s) (hq : q < 100) (hd : decode (jt_cc j) pc = .ok (.ldc_w i, 3)) (k : jw_W p l e R s s0 m args below meth c Q D cI cJ cB sp L xs n0 w0 (jt_nl j) M ls (.ref q :: st) (pc + 3)) : jw_W p l e R s s0 m args below meth c Q D cI cJ cB sp L xs n0 w0 (jt_nl j) M ls st pc := fun H locs a hH hL hl => by
  have h := k H locs a hH hL hl
  rw [List.map_cons, show jw_v (jw_ad s0.heap.size sp) (.ref q) = .ref (sp q) by show Value.ref (jw_ad _ _ _) = _; unfold jw_ad; rw [if_pos hq]] at h
  intro T hT X
  obtain ⟨t, a1, b1⟩ := h T hT X
  exact ⟨t, X.ldcStringW F.1 F.2.2.2.1 (text := _) (a := sp q) hZ.1 hZ.2 (g := F0 m pc a (st.map (jw_v (jw_ad s0.heap.size sp)))) rfl (by rw [F.2.1]; exact hd) t a1, b1⟩
theorem js_iload (F : jw_F p s s0 m meth c j) {i : Nat} {x : Int32} (hg : ls[i]? = some (some (.int x))) (hd : decode (jt_cc j) pc = .ok (.iload i, 2)) (k : jw_W p l e R s s0 m args below meth c Q D cI cJ cB sp L xs n0 w0 (jt_nl j) M ls (.int x :: st) (pc + 2)) : jw_W p l e R s s0 m args below meth c Q D cI cJ cB sp L xs n0 w0 (jt_nl j) M ls st pc := fun H locs a hH hL hl => lv_iload F.1 F.2.1 hd (hL.2.2.2 _ _ hg) (k H locs a hH hL hl)
theorem js_iload_n (F : jw_F p s s0 m meth c j) {i : Fin 4} {x : Int32} (hg : ls[i.val]? = some (some (.int x))) (hd : decode (jt_cc j) pc = .ok (.iload_n i, 1)) (k : jw_W p l e R s s0 m args below meth c Q D cI cJ cB sp L xs n0 w0 (jt_nl j) M ls (.int x :: st) (pc + 1)) : jw_W p l e R s s0 m args below meth c Q D cI cJ cB sp L xs n0 w0 (jt_nl j) M ls st pc := fun H locs a hH hL hl => lv_iload_n F.1 F.2.1 hd rfl (hL.2.2.2 _ _ hg) (k H locs a hH hL hl)
theorem js_istore (F : jw_F p s s0 m meth c j) {i : Nat} {x : Int32} (hi : i < ls.length) (hd : decode (jt_cc j) pc = .ok (.istore i, 2)) (k : jw_W p l e R s s0 m args below meth c Q D cI cJ cB sp L xs n0 w0 (jt_nl j) M (jx_set1 ls i (.int x)) st (pc + 2)) : jw_W p l e R s s0 m args below meth c Q D cI cJ cB sp L xs n0 w0 (jt_nl j) M ls (.int x :: st) pc := fun H locs a hH hL hl => lv_istore F.1 F.2.1 hd (jw_has hL) (hL.1 ▸ hi) rfl (fun a2 h2 => k H locs a2 hH (jw_set1 (v := .int x) hL.1 h2) hl)
theorem js_istore_n (F : jw_F p s s0 m meth c j) {i : Fin 4} {x : Int32} (hi : i.val < ls.length) (hd : decode (jt_cc j) pc = .ok (.istore_n i, 1)) (k : jw_W p l e R s s0 m args below meth c Q D cI cJ cB sp L xs n0 w0 (jt_nl j) M (jx_set1 ls i.val (.int x)) st (pc + 1)) : jw_W p l e R s s0 m args below meth c Q D cI cJ cB sp L xs n0 w0 (jt_nl j) M ls (.int x :: st) pc := fun H locs a hH hL hl => lv_istore_n F.1 F.2.1 hd rfl (jw_has hL) (hL.1 ▸ hi) rfl (fun a2 h2 => k H locs a2 hH (jw_set1 (v := .int x) hL.1 h2) hl)
theorem js_lload (F : jw_F p s s0 m meth c j) {i : Nat} {x : Int64} (hg : ls[i]? = some (some (.long x))) (hd : decode (jt_cc j) pc = .ok (.lload i, 2)) (k : jw_W p l e R s s0 m args below meth c Q D cI cJ cB sp L xs n0 w0 (jt_nl j) M ls (.long x :: st) (pc + 2)) : jw_W p l e R s s0 m args below meth c Q D cI cJ cB sp L xs n0 w0 (jt_nl j) M ls st pc := fun H locs a hH hL hl => lv_lload F.1 F.2.1 hd (hL.2.2.2 _ _ hg) (k H locs a hH hL hl)
theorem js_lload_n (F : jw_F p s s0 m meth c j) {i : Fin 4} {x : Int64} (hg : ls[i.val]? = some (some (.long x))) (hd : decode (jt_cc j) pc = .ok (.lload_n i, 1)) (k : jw_W p l e R s s0 m args below meth c Q D cI cJ cB sp L xs n0 w0 (jt_nl j) M ls (.long x :: st) (pc + 1)) : jw_W p l e R s s0 m args below meth c Q D cI cJ cB sp L xs n0 w0 (jt_nl j) M ls st pc := fun H locs a hH hL hl => lv_lload_n F.1 F.2.1 hd rfl (hL.2.2.2 _ _ hg) (k H locs a hH hL hl)
theorem js_lstore (F : jw_F p s s0 m meth c j) {i : Nat} {x : Int64} (hi : i + 1 < ls.length) (hd : decode (jt_cc j) pc = .ok (.lstore i, 2)) (k : jw_W p l e R s s0 m args below meth c Q D cI cJ cB sp L xs n0 w0 (jt_nl j) M (jx_set2 ls i (.long x)) st (pc + 2)) : jw_W p l e R s s0 m args below meth c Q D cI cJ cB sp L xs n0 w0 (jt_nl j) M ls (.long x :: st) pc := fun H locs a hH hL hl => lv_lstore F.1 F.2.1 hd (jw_has hL) (hL.1 ▸ hi) rfl (fun a2 h2 => k H locs a2 hH (jw_set2 (v := .long x) hL.1 h2) hl)
theorem js_lstore_n (F : jw_F p s s0 m meth c j) {i : Fin 4} {x : Int64} (hi : i.val + 1 < ls.length) (hd : decode (jt_cc j) pc = .ok (.lstore_n i, 1)) (k : jw_W p l e R s s0 m args below meth c Q D cI cJ cB sp L xs n0 w0 (jt_nl j) M (jx_set2 ls i.val (.long x)) st (pc + 1)) : jw_W p l e R s s0 m args below meth c Q D cI cJ cB sp L xs n0 w0 (jt_nl j) M ls (.long x :: st) pc := fun H locs a hH hL hl => lv_lstore_n F.1 F.2.1 hd rfl (jw_has hL) (hL.1 ▸ hi) rfl (fun a2 h2 => k H locs a2 hH (jw_set2 (v := .long x) hL.1 h2) hl)
theorem js_aload (F : jw_F p s s0 m meth c j) {i : Nat} {x : Nat} (hg : ls[i]? = some (some (.ref x))) (hd : decode (jt_cc j) pc = .ok (.aload i, 2)) (k : jw_W p l e R s s0 m args below meth c Q D cI cJ cB sp L xs n0 w0 (jt_nl j) M ls (.ref x :: st) (pc + 2)) : jw_W p l e R s s0 m args below meth c Q D cI cJ cB sp L xs n0 w0 (jt_nl j) M ls st pc := fun H locs a hH hL hl => lv_aload F.1 F.2.1 hd (hL.2.2.2 _ _ hg) (k H locs a hH hL hl)
theorem js_aload_n (F : jw_F p s s0 m meth c j) {i : Fin 4} {x : Nat} (hg : ls[i.val]? = some (some (.ref x))) (hd : decode (jt_cc j) pc = .ok (.aload_n i, 1)) (k : jw_W p l e R s s0 m args below meth c Q D cI cJ cB sp L xs n0 w0 (jt_nl j) M ls (.ref x :: st) (pc + 1)) : jw_W p l e R s s0 m args below meth c Q D cI cJ cB sp L xs n0 w0 (jt_nl j) M ls st pc := fun H locs a hH hL hl => lv_aload_n F.1 F.2.1 hd rfl (hL.2.2.2 _ _ hg) (k H locs a hH hL hl)
theorem js_astore (F : jw_F p s s0 m meth c j) {i : Nat} {x : Nat} (hi : i < ls.length) (hd : decode (jt_cc j) pc = .ok (.astore i, 2)) (k : jw_W p l e R s s0 m args below meth c Q D cI cJ cB sp L xs n0 w0 (jt_nl j) M (jx_set1 ls i (.ref x)) st (pc + 2)) : jw_W p l e R s s0 m args below meth c Q D cI cJ cB sp L xs n0 w0 (jt_nl j) M ls (.ref x :: st) pc := fun H locs a hH hL hl => lv_astore F.1 F.2.1 hd (jw_has hL) (hL.1 ▸ hi) rfl (fun a2 h2 => k H locs a2 hH (jw_set1 (v := .ref x) hL.1 h2) hl)
theorem js_astore_n (F : jw_F p s s0 m meth c j) {i : Fin 4} {x : Nat} (hi : i.val < ls.length) (hd : decode (jt_cc j) pc = .ok (.astore_n i, 1)) (k : jw_W p l e R s s0 m args below meth c Q D cI cJ cB sp L xs n0 w0 (jt_nl j) M (jx_set1 ls i.val (.ref x)) st (pc + 1)) : jw_W p l e R s s0 m args below meth c Q D cI cJ cB sp L xs n0 w0 (jt_nl j) M ls (.ref x :: st) pc := fun H locs a hH hL hl => lv_astore_n F.1 F.2.1 hd rfl (jw_has hL) (hL.1 ▸ hi) rfl (fun a2 h2 => k H locs a2 hH (jw_set1 (v := .ref x) hL.1 h2) hl)
theorem js_iinc (F : jw_F p s s0 m meth c j) {i : Nat} {n : Int} {x : Int32} (hg : ls[i]? = some (some (.int x))) (hi : i < ls.length) (hd : decode (jt_cc j) pc = .ok (.iinc i n, 3)) (k : jw_W p l e R s s0 m args below meth c Q D cI cJ cB sp L xs n0 w0 (jt_nl j) M (jx_set1 ls i (.int (x + Int32.ofInt n))) st (pc + 3)) : jw_W p l e R s s0 m args below meth c Q D cI cJ cB sp L xs n0 w0 (jt_nl j) M ls st pc := fun H locs a hH hL hl => by
  have hm : (i, Value.int x) ∈ jw_al (jw_ad s0.heap.size sp) 0 ls := (jw_al_mem ls 0 _).mpr ⟨i, .int x, hg, by rw [Nat.zero_add]; rfl⟩
  obtain ⟨q, hq⟩ := List.mem_iff_getElem?.mp hm
  exact lv_iinc F.1 F.2.1 hd (jw_has hL) hq rfl (hL.1 ▸ hi) rfl (fun a2 h2 => k H locs a2 hH (jw_set1 (v := .int (x + Int32.ofInt n)) hL.1 h2) hl)
theorem js_iadd (F : jw_F p s s0 m meth c j) {x y : Int32} (hd : decode (jt_cc j) pc = .ok (.iadd, 1)) (k : jw_W p l e R s s0 m args below meth c Q D cI cJ cB sp L xs n0 w0 (jt_nl j) M ls (.int (x + y) :: st) (pc + 1)) : jw_W p l e R s s0 m args below meth c Q D cI cJ cB sp L xs n0 w0 (jt_nl j) M ls (.int y :: .int x :: st) pc := fun H locs a hH hL hl => lv_iadd F.1 F.2.1 hd  (k H locs a hH hL hl)
theorem js_isub (F : jw_F p s s0 m meth c j) {x y : Int32} (hd : decode (jt_cc j) pc = .ok (.isub, 1)) (k : jw_W p l e R s s0 m args below meth c Q D cI cJ cB sp L xs n0 w0 (jt_nl j) M ls (.int (x - y) :: st) (pc + 1)) : jw_W p l e R s s0 m args below meth c Q D cI cJ cB sp L xs n0 w0 (jt_nl j) M ls (.int y :: .int x :: st) pc := fun H locs a hH hL hl => lv_isub F.1 F.2.1 hd  (k H locs a hH hL hl)
theorem js_imul (F : jw_F p s s0 m meth c j) {x y : Int32} (hd : decode (jt_cc j) pc = .ok (.imul, 1)) (k : jw_W p l e R s s0 m args below meth c Q D cI cJ cB sp L xs n0 w0 (jt_nl j) M ls (.int (x * y) :: st) (pc + 1)) : jw_W p l e R s s0 m args below meth c Q D cI cJ cB sp L xs n0 w0 (jt_nl j) M ls (.int y :: .int x :: st) pc := fun H locs a hH hL hl => lv_imul F.1 F.2.1 hd  (k H locs a hH hL hl)
theorem js_iand (F : jw_F p s s0 m meth c j) {x y : Int32} (hd : decode (jt_cc j) pc = .ok (.iand, 1)) (k : jw_W p l e R s s0 m args below meth c Q D cI cJ cB sp L xs n0 w0 (jt_nl j) M ls (.int (x &&& y) :: st) (pc + 1)) : jw_W p l e R s s0 m args below meth c Q D cI cJ cB sp L xs n0 w0 (jt_nl j) M ls (.int y :: .int x :: st) pc := fun H locs a hH hL hl => lv_iand F.1 F.2.1 hd  (k H locs a hH hL hl)
theorem js_ior (F : jw_F p s s0 m meth c j) {x y : Int32} (hd : decode (jt_cc j) pc = .ok (.ior, 1)) (k : jw_W p l e R s s0 m args below meth c Q D cI cJ cB sp L xs n0 w0 (jt_nl j) M ls (.int (x ||| y) :: st) (pc + 1)) : jw_W p l e R s s0 m args below meth c Q D cI cJ cB sp L xs n0 w0 (jt_nl j) M ls (.int y :: .int x :: st) pc := fun H locs a hH hL hl => lv_ior F.1 F.2.1 hd  (k H locs a hH hL hl)
theorem js_ixor (F : jw_F p s s0 m meth c j) {x y : Int32} (hd : decode (jt_cc j) pc = .ok (.ixor, 1)) (k : jw_W p l e R s s0 m args below meth c Q D cI cJ cB sp L xs n0 w0 (jt_nl j) M ls (.int (x ^^^ y) :: st) (pc + 1)) : jw_W p l e R s s0 m args below meth c Q D cI cJ cB sp L xs n0 w0 (jt_nl j) M ls (.int y :: .int x :: st) pc := fun H locs a hH hL hl => lv_ixor F.1 F.2.1 hd  (k H locs a hH hL hl)
theorem js_ishl (F : jw_F p s s0 m meth c j) {x y : Int32} (hd : decode (jt_cc j) pc = .ok (.ishl, 1)) (k : jw_W p l e R s s0 m args below meth c Q D cI cJ cB sp L xs n0 w0 (jt_nl j) M ls (.int (x <<< (y &&& 31)) :: st) (pc + 1)) : jw_W p l e R s s0 m args below meth c Q D cI cJ cB sp L xs n0 w0 (jt_nl j) M ls (.int y :: .int x :: st) pc := fun H locs a hH hL hl => lv_ishl F.1 F.2.1 hd  (k H locs a hH hL hl)
theorem js_ishr (F : jw_F p s s0 m meth c j) {x y : Int32} (hd : decode (jt_cc j) pc = .ok (.ishr, 1)) (k : jw_W p l e R s s0 m args below meth c Q D cI cJ cB sp L xs n0 w0 (jt_nl j) M ls (.int (x >>> (y &&& 31)) :: st) (pc + 1)) : jw_W p l e R s s0 m args below meth c Q D cI cJ cB sp L xs n0 w0 (jt_nl j) M ls (.int y :: .int x :: st) pc := fun H locs a hH hL hl => lv_ishr F.1 F.2.1 hd  (k H locs a hH hL hl)
theorem js_iushr (F : jw_F p s s0 m meth c j) {x y : Int32} (hd : decode (jt_cc j) pc = .ok (.iushr, 1)) (k : jw_W p l e R s s0 m args below meth c Q D cI cJ cB sp L xs n0 w0 (jt_nl j) M ls (.int ((x.toUInt32 >>> (y.toUInt32 &&& Int32.toUInt32 31)).toInt32) :: st) (pc + 1)) : jw_W p l e R s s0 m args below meth c Q D cI cJ cB sp L xs n0 w0 (jt_nl j) M ls (.int y :: .int x :: st) pc := fun H locs a hH hL hl => lv_iushr F.1 F.2.1 hd rfl (k H locs a hH hL hl)
theorem js_idiv (F : jw_F p s s0 m meth c j) {x y : Int32} (hy : ¬ y = 0) (hd : decode (jt_cc j) pc = .ok (.idiv, 1)) (k : jw_W p l e R s s0 m args below meth c Q D cI cJ cB sp L xs n0 w0 (jt_nl j) M ls (.int (x / y) :: st) (pc + 1)) : jw_W p l e R s s0 m args below meth c Q D cI cJ cB sp L xs n0 w0 (jt_nl j) M ls (.int y :: .int x :: st) pc := fun H locs a hH hL hl => lv_idiv F.1 F.2.1 hd hy (k H locs a hH hL hl)
theorem js_irem (F : jw_F p s s0 m meth c j) {x y : Int32} (hy : ¬ y = 0) (hd : decode (jt_cc j) pc = .ok (.irem, 1)) (k : jw_W p l e R s s0 m args below meth c Q D cI cJ cB sp L xs n0 w0 (jt_nl j) M ls (.int (x - x / y * y) :: st) (pc + 1)) : jw_W p l e R s s0 m args below meth c Q D cI cJ cB sp L xs n0 w0 (jt_nl j) M ls (.int y :: .int x :: st) pc := fun H locs a hH hL hl => lv_irem F.1 F.2.1 hd hy (k H locs a hH hL hl)
theorem js_ladd (F : jw_F p s s0 m meth c j) {x y : Int64} (hd : decode (jt_cc j) pc = .ok (.ladd, 1)) (k : jw_W p l e R s s0 m args below meth c Q D cI cJ cB sp L xs n0 w0 (jt_nl j) M ls (.long (x + y) :: st) (pc + 1)) : jw_W p l e R s s0 m args below meth c Q D cI cJ cB sp L xs n0 w0 (jt_nl j) M ls (.long y :: .long x :: st) pc := fun H locs a hH hL hl => lv_ladd F.1 F.2.1 hd  (k H locs a hH hL hl)
theorem js_lsub (F : jw_F p s s0 m meth c j) {x y : Int64} (hd : decode (jt_cc j) pc = .ok (.lsub, 1)) (k : jw_W p l e R s s0 m args below meth c Q D cI cJ cB sp L xs n0 w0 (jt_nl j) M ls (.long (x - y) :: st) (pc + 1)) : jw_W p l e R s s0 m args below meth c Q D cI cJ cB sp L xs n0 w0 (jt_nl j) M ls (.long y :: .long x :: st) pc := fun H locs a hH hL hl => lv_lsub F.1 F.2.1 hd  (k H locs a hH hL hl)
theorem js_lmul (F : jw_F p s s0 m meth c j) {x y : Int64} (hd : decode (jt_cc j) pc = .ok (.lmul, 1)) (k : jw_W p l e R s s0 m args below meth c Q D cI cJ cB sp L xs n0 w0 (jt_nl j) M ls (.long (x * y) :: st) (pc + 1)) : jw_W p l e R s s0 m args below meth c Q D cI cJ cB sp L xs n0 w0 (jt_nl j) M ls (.long y :: .long x :: st) pc := fun H locs a hH hL hl => lv_lmul F.1 F.2.1 hd  (k H locs a hH hL hl)
theorem js_ldiv (F : jw_F p s s0 m meth c j) {x y : Int64} (hy : ¬ y = 0) (hd : decode (jt_cc j) pc = .ok (.ldiv, 1)) (k : jw_W p l e R s s0 m args below meth c Q D cI cJ cB sp L xs n0 w0 (jt_nl j) M ls (.long (x / y) :: st) (pc + 1)) : jw_W p l e R s s0 m args below meth c Q D cI cJ cB sp L xs n0 w0 (jt_nl j) M ls (.long y :: .long x :: st) pc := fun H locs a hH hL hl => lv_ldiv F.1 F.2.1 hd hy (k H locs a hH hL hl)
theorem js_lrem (F : jw_F p s s0 m meth c j) {x y : Int64} (hy : ¬ y = 0) (hd : decode (jt_cc j) pc = .ok (.lrem, 1)) (k : jw_W p l e R s s0 m args below meth c Q D cI cJ cB sp L xs n0 w0 (jt_nl j) M ls (.long (x - x / y * y) :: st) (pc + 1)) : jw_W p l e R s s0 m args below meth c Q D cI cJ cB sp L xs n0 w0 (jt_nl j) M ls (.long y :: .long x :: st) pc := fun H locs a hH hL hl => lv_lrem F.1 F.2.1 hd hy (k H locs a hH hL hl)
theorem js_lshl (F : jw_F p s s0 m meth c j) {x : Int64} {y : Int32} (hd : decode (jt_cc j) pc = .ok (.lshl, 1)) (k : jw_W p l e R s s0 m args below meth c Q D cI cJ cB sp L xs n0 w0 (jt_nl j) M ls (.long (x <<< (y.toInt64 &&& 63)) :: st) (pc + 1)) : jw_W p l e R s s0 m args below meth c Q D cI cJ cB sp L xs n0 w0 (jt_nl j) M ls (.int y :: .long x :: st) pc := fun H locs a hH hL hl => lv_lshl F.1 F.2.1 hd rfl (k H locs a hH hL hl)
theorem js_lcmp (F : jw_F p s s0 m meth c j) {x y : Int64} (hd : decode (jt_cc j) pc = .ok (.lcmp, 1)) (k : jw_W p l e R s s0 m args below meth c Q D cI cJ cB sp L xs n0 w0 (jt_nl j) M ls (.int (lg_cmp x y) :: st) (pc + 1)) : jw_W p l e R s s0 m args below meth c Q D cI cJ cB sp L xs n0 w0 (jt_nl j) M ls (.long y :: .long x :: st) pc := fun H locs a hH hL hl => W.lcmp F.1 F.2.1 hd (k H locs a hH hL hl)
theorem js_ineg (F : jw_F p s s0 m meth c j) {x : Int32} (hd : decode (jt_cc j) pc = .ok (.ineg, 1)) (k : jw_W p l e R s s0 m args below meth c Q D cI cJ cB sp L xs n0 w0 (jt_nl j) M ls (.int (-x) :: st) (pc + 1)) : jw_W p l e R s s0 m args below meth c Q D cI cJ cB sp L xs n0 w0 (jt_nl j) M ls (.int x :: st) pc := fun H locs a hH hL hl => lv_ineg F.1 F.2.1 hd (k H locs a hH hL hl)
theorem js_i2l (F : jw_F p s s0 m meth c j) {x : Int32} (hd : decode (jt_cc j) pc = .ok (.i2l, 1)) (k : jw_W p l e R s s0 m args below meth c Q D cI cJ cB sp L xs n0 w0 (jt_nl j) M ls (.long x.toInt64 :: st) (pc + 1)) : jw_W p l e R s s0 m args below meth c Q D cI cJ cB sp L xs n0 w0 (jt_nl j) M ls (.int x :: st) pc := fun H locs a hH hL hl => lv_i2l F.1 F.2.1 hd rfl (k H locs a hH hL hl)
theorem js_l2i (F : jw_F p s s0 m meth c j) {x : Int64} (hd : decode (jt_cc j) pc = .ok (.l2i, 1)) (k : jw_W p l e R s s0 m args below meth c Q D cI cJ cB sp L xs n0 w0 (jt_nl j) M ls (.int x.toInt32 :: st) (pc + 1)) : jw_W p l e R s s0 m args below meth c Q D cI cJ cB sp L xs n0 w0 (jt_nl j) M ls (.long x :: st) pc := fun H locs a hH hL hl => lv_l2i F.1 F.2.1 hd rfl (k H locs a hH hL hl)
theorem js_i2b (F : jw_F p s s0 m meth c j) {x : Int32} (hd : decode (jt_cc j) pc = .ok (.i2b, 1)) (k : jw_W p l e R s s0 m args below meth c Q D cI cJ cB sp L xs n0 w0 (jt_nl j) M ls (.int x.toInt8.toInt32 :: st) (pc + 1)) : jw_W p l e R s s0 m args below meth c Q D cI cJ cB sp L xs n0 w0 (jt_nl j) M ls (.int x :: st) pc := fun H locs a hH hL hl => lv_i2b F.1 F.2.1 hd rfl (k H locs a hH hL hl)
theorem js_dup (F : jw_F p s s0 m meth c j) {v : Value} (hv : v.category = 1) (hd : decode (jt_cc j) pc = .ok (.dup, 1)) (k : jw_W p l e R s s0 m args below meth c Q D cI cJ cB sp L xs n0 w0 (jt_nl j) M ls (v :: v :: st) (pc + 1)) : jw_W p l e R s s0 m args below meth c Q D cI cJ cB sp L xs n0 w0 (jt_nl j) M ls (v :: st) pc := fun H locs a hH hL hl => lv_dup F.1 F.2.1 hd ((jw_cat _ v).trans hv) (k H locs a hH hL hl)
theorem js_pop (F : jw_F p s s0 m meth c j) {v : Value} (hv : v.category = 1) (hd : decode (jt_cc j) pc = .ok (.pop, 1)) (k : jw_W p l e R s s0 m args below meth c Q D cI cJ cB sp L xs n0 w0 (jt_nl j) M ls st (pc + 1)) : jw_W p l e R s s0 m args below meth c Q D cI cJ cB sp L xs n0 w0 (jt_nl j) M ls (v :: st) pc := fun H locs a hH hL hl => lv_pop F.1 F.2.1 hd ((jw_cat _ v).trans hv) (k H locs a hH hL hl)
theorem js_dup2 (F : jw_F p s s0 m meth c j) {v w : Value} (hv : v.category = 1) (hw : w.category = 1) (hd : decode (jt_cc j) pc = .ok (.dup2, 1)) (k : jw_W p l e R s s0 m args below meth c Q D cI cJ cB sp L xs n0 w0 (jt_nl j) M ls (v :: w :: v :: w :: st) (pc + 1)) : jw_W p l e R s s0 m args below meth c Q D cI cJ cB sp L xs n0 w0 (jt_nl j) M ls (v :: w :: st) pc := fun H locs a hH hL hl => lv_dup2_11 F.1 F.2.1 hd ((jw_cat _ v).trans hv) ((jw_cat _ w).trans hw) (k H locs a hH hL hl)
theorem js_dup_x1 (F : jw_F p s s0 m meth c j) {v w : Value} (hv : v.category = 1) (hw : w.category = 1) (hd : decode (jt_cc j) pc = .ok (.dup_x1, 1)) (k : jw_W p l e R s s0 m args below meth c Q D cI cJ cB sp L xs n0 w0 (jt_nl j) M ls (v :: w :: v :: st) (pc + 1)) : jw_W p l e R s s0 m args below meth c Q D cI cJ cB sp L xs n0 w0 (jt_nl j) M ls (v :: w :: st) pc := fun H locs a hH hL hl => lv_dup_x1 F.1 F.2.1 hd ((jw_cat _ v).trans hv) ((jw_cat _ w).trans hw) (k H locs a hH hL hl)
theorem js_goto (F : jw_F p s s0 m meth c j) {off : Int} {t : Nat} (ht : (pc : Int) + off = (t : Int)) (hd : decode (jt_cc j) pc = .ok (.goto off, 3)) (k : jw_W p l e R s s0 m args below meth c Q D cI cJ cB sp L xs n0 w0 (jt_nl j) M ls st t) : jw_W p l e R s s0 m args below meth c Q D cI cJ cB sp L xs n0 w0 (jt_nl j) M ls st pc := fun H locs a hH hL hl => lv_goto F.1 F.2.1 hd ht (k H locs a hH hL hl)
theorem js_if_eq (F : jw_F p s s0 m meth c j) {x : Int32} {off : Int} {t : Nat} (ht : (pc : Int) + off = (t : Int)) (hd : decode (jt_cc j) pc = .ok (.ifCond .eq off, 3)) (k : x = 0 → jw_W p l e R s s0 m args below meth c Q D cI cJ cB sp L xs n0 w0 (jt_nl j) M ls st t) (k2 : ¬ x = 0 → jw_W p l e R s s0 m args below meth c Q D cI cJ cB sp L xs n0 w0 (jt_nl j) M ls st (pc + 3)) : jw_W p l e R s s0 m args below meth c Q D cI cJ cB sp L xs n0 w0 (jt_nl j) M ls (.int x :: st) pc := fun H locs a hH hL hl => lv_if_eq F.1 F.2.1 hd ht (fun q => k q H locs a hH hL hl) (fun q => k2 q H locs a hH hL hl)
theorem js_if_lt (F : jw_F p s s0 m meth c j) {x : Int32} {off : Int} {t : Nat} (ht : (pc : Int) + off = (t : Int)) (hd : decode (jt_cc j) pc = .ok (.ifCond .lt off, 3)) (k : x < 0 → jw_W p l e R s s0 m args below meth c Q D cI cJ cB sp L xs n0 w0 (jt_nl j) M ls st t) (k2 : ¬ x < 0 → jw_W p l e R s s0 m args below meth c Q D cI cJ cB sp L xs n0 w0 (jt_nl j) M ls st (pc + 3)) : jw_W p l e R s s0 m args below meth c Q D cI cJ cB sp L xs n0 w0 (jt_nl j) M ls (.int x :: st) pc := fun H locs a hH hL hl => lv_if_lt F.1 F.2.1 hd ht (fun q => k q H locs a hH hL hl) (fun q => k2 q H locs a hH hL hl)
theorem js_if_ge (F : jw_F p s s0 m meth c j) {x : Int32} {off : Int} {t : Nat} (ht : (pc : Int) + off = (t : Int)) (hd : decode (jt_cc j) pc = .ok (.ifCond .ge off, 3)) (k : 0 ≤ x → jw_W p l e R s s0 m args below meth c Q D cI cJ cB sp L xs n0 w0 (jt_nl j) M ls st t) (k2 : ¬ 0 ≤ x → jw_W p l e R s s0 m args below meth c Q D cI cJ cB sp L xs n0 w0 (jt_nl j) M ls st (pc + 3)) : jw_W p l e R s s0 m args below meth c Q D cI cJ cB sp L xs n0 w0 (jt_nl j) M ls (.int x :: st) pc := fun H locs a hH hL hl => lv_if_ge F.1 F.2.1 hd ht (fun q => k q H locs a hH hL hl) (fun q => k2 q H locs a hH hL hl)
theorem js_if_gt (F : jw_F p s s0 m meth c j) {x : Int32} {off : Int} {t : Nat} (ht : (pc : Int) + off = (t : Int)) (hd : decode (jt_cc j) pc = .ok (.ifCond .gt off, 3)) (k : 0 < x → jw_W p l e R s s0 m args below meth c Q D cI cJ cB sp L xs n0 w0 (jt_nl j) M ls st t) (k2 : ¬ 0 < x → jw_W p l e R s s0 m args below meth c Q D cI cJ cB sp L xs n0 w0 (jt_nl j) M ls st (pc + 3)) : jw_W p l e R s s0 m args below meth c Q D cI cJ cB sp L xs n0 w0 (jt_nl j) M ls (.int x :: st) pc := fun H locs a hH hL hl => lv_if_gt F.1 F.2.1 hd ht (fun q => k q H locs a hH hL hl) (fun q => k2 q H locs a hH hL hl)
theorem js_if_le (F : jw_F p s s0 m meth c j) {x : Int32} {off : Int} {t : Nat} (ht : (pc : Int) + off = (t : Int)) (hd : decode (jt_cc j) pc = .ok (.ifCond .le off, 3)) (k : x ≤ 0 → jw_W p l e R s s0 m args below meth c Q D cI cJ cB sp L xs n0 w0 (jt_nl j) M ls st t) (k2 : ¬ x ≤ 0 → jw_W p l e R s s0 m args below meth c Q D cI cJ cB sp L xs n0 w0 (jt_nl j) M ls st (pc + 3)) : jw_W p l e R s s0 m args below meth c Q D cI cJ cB sp L xs n0 w0 (jt_nl j) M ls (.int x :: st) pc := fun H locs a hH hL hl => lv_if_le F.1 F.2.1 hd ht (fun q => k q H locs a hH hL hl) (fun q => k2 q H locs a hH hL hl)
theorem js_if_ne (F : jw_F p s s0 m meth c j) {x : Int32} {off : Int} {t : Nat} (ht : (pc : Int) + off = (t : Int)) (hd : decode (jt_cc j) pc = .ok (.ifCond .ne off, 3)) (k : ¬ x = 0 → jw_W p l e R s s0 m args below meth c Q D cI cJ cB sp L xs n0 w0 (jt_nl j) M ls st t) (k2 : x = 0 → jw_W p l e R s s0 m args below meth c Q D cI cJ cB sp L xs n0 w0 (jt_nl j) M ls st (pc + 3)) : jw_W p l e R s s0 m args below meth c Q D cI cJ cB sp L xs n0 w0 (jt_nl j) M ls (.int x :: st) pc := fun H locs a hH hL hl => lv_if_ne F.1 F.2.1 hd ht (fun q => k q H locs a hH hL hl) (fun q => k2 q H locs a hH hL hl)
theorem js_icmp_eq (F : jw_F p s s0 m meth c j) {x y : Int32} {off : Int} {t : Nat} (ht : (pc : Int) + off = (t : Int)) (hd : decode (jt_cc j) pc = .ok (.if_icmp .eq off, 3)) (k : x = y → jw_W p l e R s s0 m args below meth c Q D cI cJ cB sp L xs n0 w0 (jt_nl j) M ls st t) (k2 : ¬ x = y → jw_W p l e R s s0 m args below meth c Q D cI cJ cB sp L xs n0 w0 (jt_nl j) M ls st (pc + 3)) : jw_W p l e R s s0 m args below meth c Q D cI cJ cB sp L xs n0 w0 (jt_nl j) M ls (.int y :: .int x :: st) pc := fun H locs a hH hL hl => lv_icmp_eq F.1 F.2.1 hd ht (fun q => k q H locs a hH hL hl) (fun q => k2 q H locs a hH hL hl)
theorem js_icmp_lt (F : jw_F p s s0 m meth c j) {x y : Int32} {off : Int} {t : Nat} (ht : (pc : Int) + off = (t : Int)) (hd : decode (jt_cc j) pc = .ok (.if_icmp .lt off, 3)) (k : x < y → jw_W p l e R s s0 m args below meth c Q D cI cJ cB sp L xs n0 w0 (jt_nl j) M ls st t) (k2 : ¬ x < y → jw_W p l e R s s0 m args below meth c Q D cI cJ cB sp L xs n0 w0 (jt_nl j) M ls st (pc + 3)) : jw_W p l e R s s0 m args below meth c Q D cI cJ cB sp L xs n0 w0 (jt_nl j) M ls (.int y :: .int x :: st) pc := fun H locs a hH hL hl => lv_icmp_lt F.1 F.2.1 hd ht (fun q => k q H locs a hH hL hl) (fun q => k2 q H locs a hH hL hl)
theorem js_icmp_ge (F : jw_F p s s0 m meth c j) {x y : Int32} {off : Int} {t : Nat} (ht : (pc : Int) + off = (t : Int)) (hd : decode (jt_cc j) pc = .ok (.if_icmp .ge off, 3)) (k : y ≤ x → jw_W p l e R s s0 m args below meth c Q D cI cJ cB sp L xs n0 w0 (jt_nl j) M ls st t) (k2 : ¬ y ≤ x → jw_W p l e R s s0 m args below meth c Q D cI cJ cB sp L xs n0 w0 (jt_nl j) M ls st (pc + 3)) : jw_W p l e R s s0 m args below meth c Q D cI cJ cB sp L xs n0 w0 (jt_nl j) M ls (.int y :: .int x :: st) pc := fun H locs a hH hL hl => lv_icmp_ge F.1 F.2.1 hd ht (fun q => k q H locs a hH hL hl) (fun q => k2 q H locs a hH hL hl)
theorem js_icmp_gt (F : jw_F p s s0 m meth c j) {x y : Int32} {off : Int} {t : Nat} (ht : (pc : Int) + off = (t : Int)) (hd : decode (jt_cc j) pc = .ok (.if_icmp .gt off, 3)) (k : y < x → jw_W p l e R s s0 m args below meth c Q D cI cJ cB sp L xs n0 w0 (jt_nl j) M ls st t) (k2 : ¬ y < x → jw_W p l e R s s0 m args below meth c Q D cI cJ cB sp L xs n0 w0 (jt_nl j) M ls st (pc + 3)) : jw_W p l e R s s0 m args below meth c Q D cI cJ cB sp L xs n0 w0 (jt_nl j) M ls (.int y :: .int x :: st) pc := fun H locs a hH hL hl => lv_icmp_gt F.1 F.2.1 hd ht (fun q => k q H locs a hH hL hl) (fun q => k2 q H locs a hH hL hl)
theorem js_icmp_le (F : jw_F p s s0 m meth c j) {x y : Int32} {off : Int} {t : Nat} (ht : (pc : Int) + off = (t : Int)) (hd : decode (jt_cc j) pc = .ok (.if_icmp .le off, 3)) (k : x ≤ y → jw_W p l e R s s0 m args below meth c Q D cI cJ cB sp L xs n0 w0 (jt_nl j) M ls st t) (k2 : ¬ x ≤ y → jw_W p l e R s s0 m args below meth c Q D cI cJ cB sp L xs n0 w0 (jt_nl j) M ls st (pc + 3)) : jw_W p l e R s s0 m args below meth c Q D cI cJ cB sp L xs n0 w0 (jt_nl j) M ls (.int y :: .int x :: st) pc := fun H locs a hH hL hl => lv_icmp_le F.1 F.2.1 hd ht (fun q => k q H locs a hH hL hl) (fun q => k2 q H locs a hH hL hl)
theorem js_icmp_ne (F : jw_F p s s0 m meth c j) {x y : Int32} {off : Int} {t : Nat} (ht : (pc : Int) + off = (t : Int)) (hd : decode (jt_cc j) pc = .ok (.if_icmp .ne off, 3)) (k : ¬ x = y → jw_W p l e R s s0 m args below meth c Q D cI cJ cB sp L xs n0 w0 (jt_nl j) M ls st t) (k2 : x = y → jw_W p l e R s s0 m args below meth c Q D cI cJ cB sp L xs n0 w0 (jt_nl j) M ls st (pc + 3)) : jw_W p l e R s s0 m args below meth c Q D cI cJ cB sp L xs n0 w0 (jt_nl j) M ls (.int y :: .int x :: st) pc := fun H locs a hH hL hl => lv_icmp_ne F.1 F.2.1 hd ht (fun q => k q H locs a hH hL hl) (fun q => k2 q H locs a hH hL hl)
theorem js_ifnull (F : jw_F p s s0 m meth c j) {x : Nat} {off : Int} (hd : decode (jt_cc j) pc = .ok (.ifnull off, 3)) (k : jw_W p l e R s s0 m args below meth c Q D cI cJ cB sp L xs n0 w0 (jt_nl j) M ls st (pc + 3)) : jw_W p l e R s s0 m args below meth c Q D cI cJ cB sp L xs n0 w0 (jt_nl j) M ls (.ref x :: st) pc := fun H locs a hH hL hl => lv_ifnull F.1 F.2.1 hd (k H locs a hH hL hl)
theorem js_ifnullN (F : jw_F p s s0 m meth c j) {off : Int} {t : Nat} (ht : (pc : Int) + off = (t : Int)) (hd : decode (jt_cc j) pc = .ok (.ifnull off, 3)) (k : jw_W p l e R s s0 m args below meth c Q D cI cJ cB sp L xs n0 w0 (jt_nl j) M ls st t) : jw_W p l e R s s0 m args below meth c Q D cI cJ cB sp L xs n0 w0 (jt_nl j) M ls (.null :: st) pc := fun H locs a hH hL hl => lv_ifnullN F.1 F.2.1 hd ht (k H locs a hH hL hl)
theorem js_ifnonnull (F : jw_F p s s0 m meth c j) {x : Nat} {off : Int} {t : Nat} (ht : (pc : Int) + off = (t : Int)) (hd : decode (jt_cc j) pc = .ok (.ifnonnull off, 3)) (k : jw_W p l e R s s0 m args below meth c Q D cI cJ cB sp L xs n0 w0 (jt_nl j) M ls st t) : jw_W p l e R s s0 m args below meth c Q D cI cJ cB sp L xs n0 w0 (jt_nl j) M ls (.ref x :: st) pc := fun H locs a hH hL hl => lv_ifnonnull F.1 F.2.1 hd ht (k H locs a hH hL hl)
theorem js_ifnonnullN (F : jw_F p s s0 m meth c j) {off : Int} (hd : decode (jt_cc j) pc = .ok (.ifnonnull off, 3)) (k : jw_W p l e R s s0 m args below meth c Q D cI cJ cB sp L xs n0 w0 (jt_nl j) M ls st (pc + 3)) : jw_W p l e R s s0 m args below meth c Q D cI cJ cB sp L xs n0 w0 (jt_nl j) M ls (.null :: st) pc := fun H locs a hH hL hl => lv_ifnonnullN F.1 F.2.1 hd (k H locs a hH hL hl)
theorem js_swOut (F : jw_F p s s0 m meth c j) {x : Int32} {d lo hi : Int} {offs : Array Int} {len t : Nat} (hx : x.toInt < lo ∨ hi < x.toInt) (ht : (pc : Int) + d = (t : Int)) (hd : decode (jt_cc j) pc = .ok (.tableswitch d lo hi offs, len)) (k : jw_W p l e R s s0 m args below meth c Q D cI cJ cB sp L xs n0 w0 (jt_nl j) M ls st t) : jw_W p l e R s s0 m args below meth c Q D cI cJ cB sp L xs n0 w0 (jt_nl j) M ls (.int x :: st) pc := fun H locs a hH hL hl => lv_tableOut F.1 F.2.1 hd hx ht (k H locs a hH hL hl)
theorem js_swIn (F : jw_F p s s0 m meth c j) {x : Int32} {d lo hi off : Int} {offs : Array Int} {len t : Nat} (h1 : ¬ x.toInt < lo) (h2 : ¬ hi < x.toInt) (ho : offs[(x.toInt - lo).toNat]? = some off) (ht : (pc : Int) + off = (t : Int)) (hd : decode (jt_cc j) pc = .ok (.tableswitch d lo hi offs, len)) (k : jw_W p l e R s s0 m args below meth c Q D cI cJ cB sp L xs n0 w0 (jt_nl j) M ls st t) : jw_W p l e R s s0 m args below meth c Q D cI cJ cB sp L xs n0 w0 (jt_nl j) M ls (.int x :: st) pc := fun H locs a hH hL hl => lv_tableIn F.1 F.2.1 hd h1 h2 ho ht (k H locs a hH hL hl)

theorem jw_ts (Cc : jw_C s0 D cI cJ cB sp L b0 xs) (F : jw_F p s s0 m meth c j) : ∀ w ∈ jc_gw, w.before args s = true := jw_stable Cc.1 F.2.2.2.2.1 args
theorem jw_K (Cc : jw_C s0 D cI cJ cB sp L b0 xs) (F : jw_F p s s0 m meth c j) : va_K D vwCl [(cI, .int), (cJ, .long), (cB, .byte)] s := va_K.moved F.2.2.2.2.1.alike Cc.2.1
theorem jc_cl_get {ci : Nat} (h : ci < vwCl.length) : vwCl[ci]? = some (jc_C ci, jc_T ci, jc_N ci) := by
  have : jc_cl ci = vwCl[ci] := by unfold jc_cl; rw [List.getD_eq_getElem?_getD, List.getElem?_eq_getElem h]; rfl
  rw [List.getElem?_eq_getElem h, ← this]
  rfl
theorem jc_Cl_spec {ci : Nat} (h : ci < vwCl.length) : (∀ w ∈ u_ws (jc_C ci) (jc_T ci) (jc_N ci), w ∈ jc_gw) ∧ (∀ a, a < jc_N ci → ∀ b, b < jc_N ci → a ≠ b → (jc_T ci a).2.1 ≠ (jc_T ci b).2.1) ∧ (∀ k, k < jc_N ci → parseFieldDescriptor (jc_T ci k).2.2.1 = some (jc_ty ci k)) ∧
    Jvm.Cond.instantiable (jc_C ci) (jc_N ci) ∈ jc_gw ∧ Jvm.Cond.initialized (jc_C ci) ∈ jc_gw := by
  obtain ⟨i, n, hq⟩ := jc_Cl_ok ci h
  unfold jc_Cl at hq
  simp only [Bool.and_eq_true, decide_eq_true_eq] at hq
  obtain ⟨⟨⟨⟨h1, h2⟩, h3⟩, h4⟩, h5⟩ := hq
  refine ⟨fun w hw => ?_, h2, h3, jc_w_mem h4, jc_w_mem h5⟩
  obtain ⟨k, hk, rfl⟩ := List.mem_map.mp hw
  exact jc_w_mem (List.all_eq_true.mp h1 k hk)
theorem jw_obj {H0 H : Heap} {M : jM} {a ci : Nat} (hH : jw_H H0 D cI cJ cB sp L xs M H) (hk : jm_k M a = ci + 1) (hci : ci < vwCl.length) : 100 ≤ a ∧ a < jm_n M ∧ va_at D vwCl (jw_ad H0.size sp a, .inr (ci, jw_fs (jw_ad H0.size sp) M a ci)) H := by
  have hl : vwCl.length = 13 := rfl
  obtain ⟨h1, h2, h3⟩ := jw_in hH hk (by omega) (by omega) (by omega)
  refine ⟨h1, h2, ?_⟩
  unfold jw_ent at h3
  rw [if_neg (by omega), if_neg (by omega), if_neg (by omega), hk] at h3
  exact h3
theorem jw_arr {H0 H : Heap} {M : jM} {a : Nat} (hH : jw_H H0 D cI cJ cB sp L xs M H) (hk : jm_k M a = 20 ∨ jm_k M a = 21 ∨ jm_k M a = 22) : 100 ≤ a ∧ a < jm_n M ∧ va_at D vwCl (jw_ad H0.size sp a, jw_ent (jw_ad H0.size sp) cI cJ cB M a) H := by
  rcases hk with hk | hk | hk <;> exact jw_in hH hk (by omega) (by omega) (by omega)
theorem va_P1 {D : va_G} {cl : List vw_C} {q : Nat × va_E} {H : Heap} (h : va_at D cl q H) : va_P D cl [q] H := fun k x hx => by
  match k, hx with
  | 0, hx => cases hx; exact h
theorem jw_fs_get {ad : Nat → Nat} {M : jM} {a ci k : Nat} (h : k < jc_N ci) : (jw_fs ad M a ci)[k]? = some (jw_fv ad M a ci k) := by
  unfold jw_fs
  rw [List.getElem?_map, List.getElem?_range h]
  rfl
theorem js_get (Cc : jw_C s0 D cI cJ cB sp L b0 xs) (F : jw_F p s s0 m meth c j) {a ci k i : Nat} (hka : jm_k M a = ci + 1) (hci : ci < vwCl.length) (hkN : k < jc_N ci)
    (hlink : (Cond.fieldLink (jt_on (jt_o j)) i (jc_T ci k).1 (jc_T ci k).2.1 (jc_T ci k).2.2.1).before args s = true ∨ ∃ host, (Cond.fieldLinkNest (jt_on (jt_o j)) i (jc_T ci k).1 (jc_T ci k).2.1 (jc_T ci k).2.2.1 host).before args s = true)
    (hd : decode (jt_cc j) pc = .ok (.getfield i, 3)) {v : Value} (hv : jw_fv (jw_ad s0.heap.size sp) M a ci k = jw_v (jw_ad s0.heap.size sp) v) (kk : jw_W p l e R s s0 m args below meth c Q D cI cJ cB sp L xs n0 w0 (jt_nl j) M ls (v :: st) (pc + 3)) : jw_W p l e R s s0 m args below meth c Q D cI cJ cB sp L xs n0 w0 (jt_nl j) M ls (.ref a :: st) pc := fun H locs ar hH hL hl => by
  obtain ⟨h1, h2, h3⟩ := jw_obj hH hka hci
  have hk := kk H locs ar hH hL hl
  rw [List.map_cons, ← hv] at hk
  rcases hlink with hlink | ⟨host, hlink⟩
  · exact va_get F.1 F.2.1 (jw_ts (args := args) Cc F) (jc_Cl_spec hci).1 F.2.2.2.1 (jw_K Cc F) (va_P1 h3) 0 rfl (jc_cl_get hci) k hkN hlink (fun _ h => h) (jw_fs_get hkN) hd hk
  · exact va_getN F.1 F.2.1 (jw_ts (args := args) Cc F) (jc_Cl_spec hci).1 F.2.2.2.1 (jw_K Cc F) (va_P1 h3) 0 rfl (jc_cl_get hci) k hkN hlink (fun _ h => h) (jw_fs_get hkN) hd hk
theorem jw_fs_set {ad : Nat → Nat} {M M' : jM} {a ci k : Nat} (h : k < jc_N ci) {v : Value} (hv : jw_fv ad M' a ci k = v) (ho : ∀ x, x ≠ k → jw_fv ad M' a ci x = jw_fv ad M a ci x) : jw_fs ad M' a ci = (jw_fs ad M a ci).set k v := by
  apply List.ext_getElem?
  intro x
  unfold jw_fs
  by_cases hx : x = k
  · subst hx
    rw [List.getElem?_set_self (by simpa using h), List.getElem?_map, List.getElem?_range h, ← hv]
    rfl
  · rw [List.getElem?_set_ne (Ne.symm hx), List.getElem?_map, List.getElem?_map]
    cases hq : (List.range (jc_N ci))[x]? with
    | none => rfl
    | some y =>
      have e : y = x := by
        have := List.getElem?_eq_some_iff.mp hq
        obtain ⟨h1, h2⟩ := this
        rw [List.getElem_range] at h2
        exact h2.symm
      subst e
      show some _ = some _
      rw [ho y hx]
/-- a store into a field: M' is the memory behind it -/
theorem js_put (Cc : jw_C s0 D cI cJ cB sp L b0 xs) (F : jw_F p s s0 m meth c j) {a ci k i : Nat} (hka : jm_k M a = ci + 1) (hci : ci < vwCl.length) (hkN : k < jc_N ci)
    (hlink : (Cond.fieldLink (jt_on (jt_o j)) i (jc_T ci k).1 (jc_T ci k).2.1 (jc_T ci k).2.2.1).before args s = true ∨ ((jc_T ci k).2.2.2 = false ∧ ∃ host, (Cond.fieldLinkNest (jt_on (jt_o j)) i (jc_T ci k).1 (jc_T ci k).2.1 (jc_T ci k).2.2.1 host).before args s = true))
    (hfin : (jc_T ci k).2.2.2 = false ∨ ((jc_T ci k).2.2.2 = true ∧ (jt_y j).name = "<init>" ∧ (jc_T ci k).1 = jt_on (jt_o j) ∧ (Cond.fieldLink (jt_on (jt_o j)) i (jc_T ci k).1 (jc_T ci k).2.1 (jc_T ci k).2.2.1).before args s = true))
    (hd : decode (jt_cc j) pc = .ok (.putfield i, 3)) {v : Value} {M' : jM} (hn : narrow (jc_ty ci k) (jw_v (jw_ad s0.heap.size sp) v) = jw_v (jw_ad s0.heap.size sp) v) (hfit : fits (jc_ty ci k) (jw_v (jw_ad s0.heap.size sp) v) = true)
    (en : jm_n M' = jm_n M) (ew : jm_w M' = jm_w M) (ek : jm_k M' = jm_k M) (ez : jm_z M' = jm_z M) (ei : ∀ x, x ≠ a → jm_i M' x = jm_i M x) (el : ∀ x, x ≠ a → jm_l M' x = jm_l M x) (er : ∀ x, x ≠ a → jm_r M' x = jm_r M x)
    (hv : jw_fv (jw_ad s0.heap.size sp) M' a ci k = jw_v (jw_ad s0.heap.size sp) v) (ho : ∀ x, x ≠ k → jw_fv (jw_ad s0.heap.size sp) M' a ci x = jw_fv (jw_ad s0.heap.size sp) M a ci x)
    (kk : jw_W p l e R s s0 m args below meth c Q D cI cJ cB sp L xs n0 w0 (jt_nl j) M' ls st (pc + 3)) : jw_W p l e R s s0 m args below meth c Q D cI cJ cB sp L xs n0 w0 (jt_nl j) M ls (v :: .ref a :: st) pc := fun H locs ar hH hL hl => by
  obtain ⟨h1, h2, r, hr, cell, q1, q2, q3, q4⟩ := jw_obj hH hka hci
  have hts := jw_ts (args := args) Cc F
  have hK := jw_K Cc F
  obtain ⟨hin, hnm, hty, -, -⟩ := jc_Cl_spec hci
  have hc := jc_cl_get hci
  cases hr.symm.trans hc
  have hap := va_apart (own := jt_on (jt_o j)) hts hin (jc_ty ci) hty hnm hK hc
  obtain ⟨hS, hfc, kC, hkC, hkind⟩ := hK.1 ci _ hc
  obtain ⟨cf, kf, fi, f, hi, hsl⟩ := hS k hkN
  have hlay := hts _ (hin _ (u_in_lay hkN))
  have hst := (u_facts hfc hkC (u_lays hts hin hkN) hi).1
  have hlen : k < (jw_fs (jw_ad s0.heap.size sp) M a ci).length := by unfold jw_fs; simpa using hkN
  have fin : ∀ H' : Heap, H'[jw_ad s0.heap.size sp a]? = some (cell.setSlot f.slot (jw_v (jw_ad s0.heap.size sp) v)) → H'.size = H.size → (∀ q : Nat, q ≠ jw_ad s0.heap.size sp a → H'[q]? = H[q]?) →
      W p l e R s m args below meth c H' (locs ++ [⟨jw_ad s0.heap.size sp a, f.slot⟩]) (jm_n M - n0) (jm_w M - w0) Q (F0 m (pc + 3) ar (st.map (jw_v (jw_ad s0.heap.size sp)))) := by
    intro H' e1 e2 e3
    rw [hsl] at e1 ⊢
    have hat : va_at D vwCl (jw_ad s0.heap.size sp a, jw_ent (jw_ad s0.heap.size sp) cI cJ cB M' a) H' := by
      have hl13 : vwCl.length = 13 := rfl
      have ee : jw_ent (jw_ad s0.heap.size sp) cI cJ cB M' a = .inr (ci, (jw_fs (jw_ad s0.heap.size sp) M a ci).set k (jw_v (jw_ad s0.heap.size sp) v)) := by
        unfold jw_ent
        rw [ek, hka, if_neg (by omega), if_neg (by omega), if_neg (by omega)]
        show Sum.inr (ci, jw_fs _ M' a ci) = _
        rw [jw_fs_set hkN hv ho]
      rw [ee]
      exact ⟨_, hc, t_OB.to (V := updV (vp_V (jw_fs (jw_ad s0.heap.size sp) M a ci)) k (jw_v (jw_ad s0.heap.size sp) v)) ⟨_, e1, q2, q3, t_set q4 hap hkN _⟩ (fun j _ => vp_updV_set hlen _ j)⟩
    have hH' := jw_set hH h1 en ek ez ei el er e2 e3 hat
    have hk := kk H' (locs ++ [⟨jw_ad s0.heap.size sp a, D.2 ci k⟩]) ar hH' hL (fun q hq => by
      rcases List.mem_append.mp hq with hq | hq
      · exact hl q hq
      · rw [List.mem_singleton.mp hq]
        show s0.heap.size ≤ jw_ad s0.heap.size sp a
        rw [jw_ad_hi h1]; exact Nat.le_add_right _ _)
    rw [en, ew] at hk
    exact hk
  rcases hfin with hfin | ⟨hfin, hini, hdecl, hl2⟩
  · unfold u_lay at hlay
    rw [if_neg (by rw [hfin]; decide)] at hlay
    have h6 := u_store hfc hkC hkind hlay hi (hty k hkN) hn hfit
    rcases hlink with hlink | ⟨-, host, hlink⟩
    · exact W.putK F.1 F.2.1 (f := f) ⟨F.2.2.2.1, hlink, ⟨_, _, _, hi⟩, hst⟩ (by rw [q2]; exact h6) q1 q3 (by rw [hsl]; exact k2_hasslot (q4 k hkN)) rfl rfl hd fin
    · exact va_WputK F.1 F.2.1 (f := f) F.2.2.2.1 hlink hi hst (by rw [q2]; exact h6) q1 q3 (by rw [hsl]; exact k2_hasslot (q4 k hkN)) rfl rfl hd fin
  · unfold u_lay at hlay
    rw [if_pos hfin] at hlay
    have hcf : m.cls = cf := by
      obtain ⟨_, _, c', _, _, _, -, -, hf', -, -, -, hown2, -⟩ := Cond.laysFinal_spec hlay
      have e1 : c' = cf := by have := hi.symm.trans hf'; simp at this; exact this.1.symm
      rw [hdecl] at hown2
      rw [← e1]; exact Option.some.inj (F.2.2.2.1.symm.trans hown2)
    have h6 := u_fits hfc hkC hkind (Or.inr hlay) hi (hty k hkN) hn hfit
    exact W.putFinK F.1 F.2.1 F.2.2.2.1 hl2 hi hst hcf (F.2.2.2.2.2 hini) (by rw [q2]; exact h6) q1 q3 (by rw [hsl]; exact k2_hasslot (q4 k hkN)) rfl rfl hd fin
end JS
