/-! THE SMALL MACHINE AND THE MACHINE: memory by codes against the heap; locals; what a frame knows. -/
def jw_ad (z : Nat) (sp : Nat → Nat) (c : Nat) : Nat := if c < 100 then sp c else z + (c - 100)
def jw_v (ad : Nat → Nat) : Value → Value
  | .ref c => .ref (ad c)
  | .int x => .int x
  | .long x => .long x
  | .float x => .float x
  | .double x => .double x
  | .null => .null
  | .retAddr x => .retAddr x
def jw_rf (ad : Nat → Nat) (r : Nat) : Value := if r = 0 then .null else .ref (ad r)
def jw_fv (ad : Nat → Nat) (M : jM) (c ci f : Nat) : Value := match jc_fk ci f with
  | 0 => .int (jm_i M c f)
  | 1 => .long (jm_l M c f)
  | _ => jw_rf ad (jm_r M c f)
def jw_fs (ad : Nat → Nat) (M : jM) (c ci : Nat) : List Value := (List.range (jc_N ci)).map (jw_fv ad M c ci)
def jw_ent (ad : Nat → Nat) (cI cJ cB : ClassId) (M : jM) (c : Nat) : va_E :=
  if jm_k M c = 20 then .inl (cI, jm_z M c, .inl (jm_i M c))
  else if jm_k M c = 21 then .inl (cJ, jm_z M c, .inr (.inl (jm_l M c)))
  else if jm_k M c = 22 then .inl (cB, jm_z M c, .inl (jm_i M c))
  else .inr (jm_k M c - 1, jw_fs ad M c (jm_k M c - 1))
theorem jw_cat (ad : Nat → Nat) (v : Value) : (jw_v ad v).category = v.category := by cases v <;> rfl
theorem jw_cats (ad : Nat → Nat) (st : List Value) : ((st.map (jw_v ad)).map fun v => v.category).sum = jx_cat st := by
  unfold jx_cat
  rw [List.map_map]
  congr 1
  exact List.map_congr_left fun v _ => jw_cat ad v
/-- the heap holds the memory, over the old heap H0 of z cells -/
def jw_H (H0 : Heap) (D : va_G) (cI cJ cB : ClassId) (sp : Nat → Nat) (L : Nat) (xs : Nat → Int32) (M : jM) (H : Heap) : Prop :=
  H.size = H0.size + (jm_n M - 100) ∧ 100 ≤ jm_n M ∧ (∀ q : Nat, q < H0.size → H[q]? = H0[q]?) ∧
  (∀ c, c < 100 → jm_k M c = 0 ∨ (jm_k M c = 30 ∧ c = 1 ∧ jm_z M c = L ∧ ∀ j, jm_i M c j = xs j) ∨ (jm_k M c = 40 ∧ 2 ≤ c ∧ c < 2 + jt_sks.length)) ∧
  (∀ c, 100 ≤ c → jm_k M c ≠ 0 → c < jm_n M ∧ va_at D vwCl (jw_ad H0.size sp c, jw_ent (jw_ad H0.size sp) cI cJ cB M c) H)
section WH
variable {H0 H : Heap} {D : va_G} {cI cJ cB : ClassId} {sp : Nat → Nat} {L : Nat} {xs : Nat → Int32} {M : jM}
theorem jw_in (h : jw_H H0 D cI cJ cB sp L xs M H) {c kd : Nat} (hk : jm_k M c = kd) (h0 : kd ≠ 0) (h1 : kd ≠ 30) (h2 : kd ≠ 40) : 100 ≤ c ∧ c < jm_n M ∧ va_at D vwCl (jw_ad H0.size sp c, jw_ent (jw_ad H0.size sp) cI cJ cB M c) H := by
  obtain ⟨-, -, -, hl, hh⟩ := h
  rcases Nat.lt_or_ge c 100 with q | q
  · exfalso
    rcases hl c q with a | ⟨a, -⟩ | ⟨a, -⟩ <;> omega
  · obtain ⟨a, b⟩ := hh c q (by omega)
    exact ⟨q, a, b⟩
theorem jw_ad_hi {z c : Nat} (h : 100 ≤ c) : jw_ad z sp c = z + (c - 100) := by unfold jw_ad; rw [if_neg (by omega)]
theorem jw_ad_inj {z c c' : Nat} (h : 100 ≤ c) (h' : 100 ≤ c') (e : jw_ad z sp c = jw_ad z sp c') : c = c' := by
  rw [jw_ad_hi h, jw_ad_hi h'] at e; omega
theorem jw_ent_eq {ad : Nat → Nat} {M' : jM} {c : Nat} (hk : jm_k M' c = jm_k M c) (hz : jm_z M' c = jm_z M c) (hi : jm_i M' c = jm_i M c) (hl : jm_l M' c = jm_l M c) (hr : jm_r M' c = jm_r M c) : jw_ent ad cI cJ cB M' c = jw_ent ad cI cJ cB M c := by
  unfold jw_ent jw_fs jw_fv
  rw [hk, hz, hi, hl, hr]
/-- one cell written -/
theorem jw_set {M' : jM} {H1 : Heap} (h : jw_H H0 D cI cJ cB sp L xs M H) {c : Nat} (hc : 100 ≤ c) (en : jm_n M' = jm_n M) (ek : jm_k M' = jm_k M) (ez : jm_z M' = jm_z M)
    (ei : ∀ x, x ≠ c → jm_i M' x = jm_i M x) (el : ∀ x, x ≠ c → jm_l M' x = jm_l M x) (er : ∀ x, x ≠ c → jm_r M' x = jm_r M x)
    (hs : H1.size = H.size) (ho : ∀ q : Nat, q ≠ jw_ad H0.size sp c → H1[q]? = H[q]?) (hat : va_at D vwCl (jw_ad H0.size sp c, jw_ent (jw_ad H0.size sp) cI cJ cB M' c) H1) : jw_H H0 D cI cJ cB sp L xs M' H1 := by
  obtain ⟨h1, h2, h3, h4, h5⟩ := h
  refine ⟨by rw [hs, en]; exact h1, by rw [en]; exact h2, fun q hq => ?_, fun x hx => ?_, fun x hx hk => ?_⟩
  · rw [ho q (by rw [jw_ad_hi hc]; omega)]; exact h3 q hq
  · rw [ek, ez, ei x (by omega)]; exact h4 x hx
  · rw [en]
    rw [ek] at hk
    obtain ⟨a, b⟩ := h5 x hx hk
    refine ⟨a, ?_⟩
    by_cases hxc : x = c
    · subst hxc; exact hat
    · rw [jw_ent_eq (by rw [ek]) (by rw [ez]) (ei x hxc) (el x hxc) (er x hxc)]
      exact b.kept (ho _ fun e => hxc (jw_ad_inj hx hc e))
/-- one cell more -/
theorem jw_push {M' : jM} {H1 : Heap} (h : jw_H H0 D cI cJ cB sp L xs M H) (en : jm_n M' = jm_n M + 1) (hs : H1.size = H.size + 1) (ho : ∀ q : Nat, q < H.size → H1[q]? = H[q]?)
    (ek : ∀ x, x ≠ jm_n M → jm_k M' x = jm_k M x) (ez : ∀ x, x ≠ jm_n M → jm_z M' x = jm_z M x) (ei : ∀ x, x ≠ jm_n M → jm_i M' x = jm_i M x) (el : ∀ x, x ≠ jm_n M → jm_l M' x = jm_l M x) (er : ∀ x, x ≠ jm_n M → jm_r M' x = jm_r M x)
    (hat : va_at D vwCl (H.size, jw_ent (jw_ad H0.size sp) cI cJ cB M' (jm_n M)) H1) : jw_H H0 D cI cJ cB sp L xs M' H1 ∧ jw_ad H0.size sp (jm_n M) = H.size := by
  obtain ⟨h1, h2, h3, h4, h5⟩ := h
  have ea : jw_ad H0.size sp (jm_n M) = H.size := by rw [jw_ad_hi h2, h1]
  refine ⟨⟨by rw [hs, en, h1]; omega, by omega, fun q hq => ?_, fun x hx => ?_, fun x hx hk => ?_⟩, ea⟩
  · rw [ho q (by omega)]; exact h3 q hq
  · have hne : x ≠ jm_n M := by omega
    rw [ek x hne, ez x hne, ei x hne]; exact h4 x hx
  · by_cases hxc : x = jm_n M
    · subst hxc
      exact ⟨by omega, by rw [ea]; exact hat⟩
    · rw [ek x hxc] at hk
      obtain ⟨a, b⟩ := h5 x hx hk
      refine ⟨by omega, ?_⟩
      rw [jw_ent_eq (ek x hxc) (ez x hxc) (ei x hxc) (el x hxc) (er x hxc)]
      exact b.kept (ho _ (by show jw_ad H0.size sp x < H.size; rw [jw_ad_hi hx]; omega))
end WH
/-! Locals -/
def jw_L (ad : Nat → Nat) (nL : Nat) (ls : jL) (a : Array Slot) : Prop := ls.length = nL ∧ a.size = nL ∧ lv_wf a ∧ ∀ (i : Nat) (v : Value), ls[i]? = some (some v) → a[i]? = some (.val (jw_v ad v))
def jw_al (ad : Nat → Nat) : Nat → jL → List (Nat × Value)
  | _, [] => []
  | k, none :: r => jw_al ad (k + 1) r
  | k, some v :: r => (k, jw_v ad v) :: jw_al ad (k + 1) r
theorem jw_al_mem {ad : Nat → Nat} : ∀ (ls : jL) (k : Nat) (q : Nat × Value), q ∈ jw_al ad k ls ↔ ∃ (i : Nat) (v : Value), ls[i]? = some (some v) ∧ q = (k + i, jw_v ad v) := by
  intro ls
  induction ls with
  | nil => intro k q; simp [jw_al]
  | cons x r ih =>
    intro k q
    have hrest : (∃ (i : Nat) (v : Value), r[i]? = some (some v) ∧ q = (k + 1 + i, jw_v ad v)) ↔ ∃ (i : Nat) (v : Value), (x :: r)[i + 1]? = some (some v) ∧ q = (k + (i + 1), jw_v ad v) := by
      constructor
      · rintro ⟨i, v, h1, h2⟩; exact ⟨i, v, by simpa using h1, by rw [h2]; congr 1; omega⟩
      · rintro ⟨i, v, h1, h2⟩; exact ⟨i, v, by simpa using h1, by rw [h2]; congr 1; omega⟩
    cases x with
    | none =>
      show q ∈ jw_al ad (k + 1) r ↔ _
      rw [ih (k + 1) q, hrest]
      constructor
      · rintro ⟨i, v, h1, h2⟩; exact ⟨i + 1, v, h1, h2⟩
      · rintro ⟨i, v, h1, h2⟩
        cases i with
        | zero => simp at h1
        | succ i => exact ⟨i, v, h1, h2⟩
    | some w =>
      show q ∈ (k, jw_v ad w) :: jw_al ad (k + 1) r ↔ _
      rw [List.mem_cons, ih (k + 1) q, hrest]
      constructor
      · rintro (h | ⟨i, v, h1, h2⟩)
        · exact ⟨0, w, rfl, h⟩
        · exact ⟨i + 1, v, h1, h2⟩
      · rintro ⟨i, v, h1, h2⟩
        cases i with
        | zero =>
          have e : w = v := by simpa using h1
          subst e
          exact Or.inl h2
        | succ i => exact Or.inr ⟨i, v, h1, h2⟩
theorem jw_has {ad : Nat → Nat} {nL : Nat} {ls : jL} {a : Array Slot} (h : jw_L ad nL ls a) : lv_has a nL (jw_al ad 0 ls) := by
  refine ⟨h.2.1, h.2.2.1, fun q hq => ?_⟩
  obtain ⟨i, v, h1, rfl⟩ := (jw_al_mem ls 0 q).mp hq
  rw [Nat.zero_add]
  exact h.2.2.2 i v h1
theorem jx_kill_len (ls : jL) (i : Nat) : (jx_kill ls i).length = ls.length := by
  unfold jx_kill
  split
  · rfl
  · split <;> simp
theorem jx_kill_get {ls : jL} {i j : Nat} {v : Value} (h : (jx_kill ls i)[j]? = some (some v)) : ls[j]? = some (some v) ∧ ¬ (j + 1 = i ∧ v.category = 2) := by
  unfold jx_kill at h
  split at h
  · exact ⟨h, fun q => by omega⟩
  · rename_i k
    have hset : ∀ w, (ls.set k none)[j]? = some (some v) → ls[k]? = some (some w) → ls[j]? = some (some v) ∧ ¬ (j + 1 = k + 1 ∧ v.category = 2) := by
      intro w h1 _
      by_cases hjk : k = j
      · subst hjk
        rw [List.getElem?_set] at h1
        simp at h1
      · rw [List.getElem?_set_ne hjk] at h1
        exact ⟨h1, fun q => hjk (by omega)⟩
    split at h
    · rename_i x hx; exact hset _ h hx
    · rename_i x hx; exact hset _ h hx
    · rename_i n1 n2
      refine ⟨h, fun q => ?_⟩
      have e : j = k := by omega
      subst e
      cases v with
      | long x => exact n1 x h
      | double x => exact n2 x h
      | _ => exact absurd q.2 (by simp [Value.category])
theorem jw_set1 {ad : Nat → Nat} {nL i : Nat} {ls : jL} {a : Array Slot} {v : Value} (hlen : ls.length = nL) (h : lv_has a nL ((i, jw_v ad v) :: (jw_al ad 0 ls).filter (fun q => !(q.1 == i) && !(q.1 + 1 == i && q.2.category == 2)))) : jw_L ad nL (jx_set1 ls i v) a := by
  refine ⟨by unfold jx_set1; rw [List.length_set, jx_kill_len]; exact hlen, h.1, h.2.1, fun j w hw => ?_⟩
  unfold jx_set1 at hw
  by_cases hij : i = j
  · subst hij
    rw [List.getElem?_set] at hw
    simp at hw
    rw [← hw.2]
    exact h.2.2 _ List.mem_cons_self
  · rw [List.getElem?_set_ne hij] at hw
    obtain ⟨h1, h2⟩ := jx_kill_get hw
    refine h.2.2 (j, jw_v ad w) (List.mem_cons_of_mem _ (List.mem_filter.mpr ⟨(jw_al_mem ls 0 _).mpr ⟨j, w, h1, by rw [Nat.zero_add]⟩, ?_⟩))
    have c1 : (j == i) = false := by simp; omega
    have c2 : (j + 1 == i && (jw_v ad w).category == 2) = false := by
      rw [jw_cat]
      by_cases q : j + 1 = i
      · have : ¬ w.category = 2 := fun z => h2 ⟨q, z⟩
        simp [this]
      · simp [q]
    simp only [c1, c2]
    rfl
theorem jw_set2 {ad : Nat → Nat} {nL i : Nat} {ls : jL} {a : Array Slot} {v : Value} (hlen : ls.length = nL) (h : lv_has a nL ((i, jw_v ad v) :: (jw_al ad 0 ls).filter (fun q => !(q.1 == i) && (!(q.1 == i + 1) && !(q.1 + 1 == i && q.2.category == 2))))) : jw_L ad nL (jx_set2 ls i v) a := by
  refine ⟨by unfold jx_set2; rw [List.length_set, List.length_set, jx_kill_len]; exact hlen, h.1, h.2.1, fun j w hw => ?_⟩
  unfold jx_set2 at hw
  have hj1 : i + 1 ≠ j := by
    intro e
    subst e
    rw [List.getElem?_set] at hw
    simp at hw
  rw [List.getElem?_set_ne hj1] at hw
  by_cases hij : i = j
  · subst hij
    rw [List.getElem?_set] at hw
    simp at hw
    rw [← hw.2]
    exact h.2.2 _ List.mem_cons_self
  · rw [List.getElem?_set_ne hij] at hw
    obtain ⟨h1, h2⟩ := jx_kill_get hw
    refine h.2.2 (j, jw_v ad w) (List.mem_cons_of_mem _ (List.mem_filter.mpr ⟨(jw_al_mem ls 0 _).mpr ⟨j, w, h1, by rw [Nat.zero_add]⟩, ?_⟩))
    have c1 : (j == i) = false := by simp; omega
    have c3 : (j == i + 1) = false := by simp; omega
    have c2 : (j + 1 == i && (jw_v ad w).category == 2) = false := by
      rw [jw_cat]
      by_cases q : j + 1 = i
      · have : ¬ w.category = 2 := fun z => h2 ⟨q, z⟩
        simp [this]
      · simp [q]
    simp only [c1, c2, c3]
    rfl
theorem jx_mk_get : ∀ (ms : List Bool) (ls : jL) (j : Nat) (v : Value), (jx_mk ms ls)[j]? = some (some v) → ls[j]? = some (some v) := by
  have hn : ∀ (ls : jL) (j : Nat) (v : Value), (ls.map fun _ => (none : Option Value))[j]? = some (some v) → False := by
    intro ls j v h
    rw [List.getElem?_map] at h
    cases hq : ls[j]? <;> rw [hq] at h <;> simp at h
  intro ms
  induction ms with
  | nil =>
    intro ls j v h
    exact (hn ls j v (by cases ls <;> exact h)).elim
  | cons b bs ih =>
    intro ls j v h
    cases ls with
    | nil => simp [jx_mk] at h
    | cons x r =>
      cases j with
      | zero =>
        cases b
        · simp [jx_mk] at h
        · simpa [jx_mk] using h
      | succ j =>
        have h1 : (jx_mk bs r)[j]? = some (some v) := by simpa [jx_mk] using h
        simpa using ih r j v h1
theorem jx_mk_len : ∀ (ms : List Bool) (ls : jL), (jx_mk ms ls).length = ls.length := by
  intro ms
  induction ms with
  | nil => intro ls; cases ls <;> simp [jx_mk]
  | cons b bs ih => intro ls; cases ls <;> simp [jx_mk, ih]
theorem jw_mask {ad : Nat → Nat} {nL : Nat} {ls : jL} {a : Array Slot} (h : jw_L ad nL ls a) (ms : List Bool) : jw_L ad nL (jx_mk ms ls) a :=
  ⟨by rw [jx_mk_len]; exact h.1, h.2.1, h.2.2.1, fun i v hv => h.2.2.2 i v (jx_mk_get ms ls i v hv)⟩
/-- the arguments, as locals -/
theorem jx_en1_get {ad : Nat → Nat} : ∀ (as : List Value) (k i : Nat) (v : Value), (jx_en1 as)[i]? = some (some v) → (k + i, jw_v ad v) ∈ lv_args k (as.map (jw_v ad)) := by
  intro as
  induction as with
  | nil => intro k i v h; simp [jx_en1] at h
  | cons a r ih =>
    have h1 : ∀ (k i : Nat) (v : Value), a.category ≠ 2 → (some a :: jx_en1 r)[i]? = some (some v) → (k + i, jw_v ad v) ∈ lv_args k ((a :: r).map (jw_v ad)) := by
      intro k i v hc h
      show _ ∈ (k, jw_v ad a) :: lv_args (if (jw_v ad a).category = 2 then k + 2 else k + 1) (r.map (jw_v ad))
      rw [jw_cat, if_neg hc]
      cases i with
      | zero =>
        have e : a = v := by simpa using h
        subst e
        exact List.mem_cons_self
      | succ i =>
        have q := ih (k + 1) i v (by simpa using h)
        rw [show k + 1 + i = k + (i + 1) by omega] at q
        exact List.mem_cons_of_mem _ q
    have h2 : ∀ (k i : Nat) (v : Value), a.category = 2 → (some a :: none :: jx_en1 r)[i]? = some (some v) → (k + i, jw_v ad v) ∈ lv_args k ((a :: r).map (jw_v ad)) := by
      intro k i v hc h
      show _ ∈ (k, jw_v ad a) :: lv_args (if (jw_v ad a).category = 2 then k + 2 else k + 1) (r.map (jw_v ad))
      rw [jw_cat, if_pos hc]
      match i, h with
      | 0, h =>
        have e : a = v := by simpa using h
        subst e
        exact List.mem_cons_self
      | 1, h => simp at h
      | i + 2, h =>
        have q := ih (k + 2) i v (by simpa using h)
        rw [show k + 2 + i = k + (i + 2) by omega] at q
        exact List.mem_cons_of_mem _ q
    intro k i v h
    cases a with
    | long x => exact h2 k i v rfl h
    | double x => exact h2 k i v rfl h
    | int x => exact h1 k i v (by simp [Value.category]) h
    | float x => exact h1 k i v (by simp [Value.category]) h
    | null => exact h1 k i v (by simp [Value.category]) h
    | ref x => exact h1 k i v (by simp [Value.category]) h
    | retAddr x => exact h1 k i v (by simp [Value.category]) h
theorem jx_en1_len {ad : Nat → Nat} : ∀ (as : List Value), (lg_sl (as.map (jw_v ad))).length = (jx_en1 as).length := by
  intro as
  induction as with
  | nil => rfl
  | cons a r ih =>
    have e : lg_sl ((a :: r).map (jw_v ad)) = (if (jw_v ad a).category = 2 then [.val (jw_v ad a), .second] else [.val (jw_v ad a)]) ++ lg_sl (r.map (jw_v ad)) := rfl
    rw [e, List.length_append, ih, jw_cat]
    cases a <;> simp [jx_en1, Value.category] <;> omega
theorem jw_entry {ad : Nat → Nat} {nL : Nat} {as : List Value} (h : (jx_en nL as).length = nL) : jw_L ad nL (jx_en nL as) ((lg_sl (as.map (jw_v ad)) ++ List.replicate (nL - (lg_sl (as.map (jw_v ad))).length) Slot.unset).toArray) := by
  have hle : (lg_sl (as.map (jw_v ad))).length ≤ nL := by
    rw [jx_en1_len]
    unfold jx_en jx_pad at h
    rw [List.length_append] at h
    omega
  obtain ⟨h1, h2, h3⟩ := lv_entry (as.map (jw_v ad)) hle
  refine ⟨h, h1, h2, fun i v hv => ?_⟩
  have hv1 : (jx_en1 as)[i]? = some (some v) := by
    unfold jx_en jx_pad at hv
    by_cases hi : i < (jx_en1 as).length
    · rw [List.getElem?_append_left hi] at hv; exact hv
    · rw [List.getElem?_append_right (by omega), List.getElem?_replicate] at hv
      split at hv <;> simp at hv
  have q := h3 _ (jx_en1_get (ad := ad) as 0 i v hv1)
  rw [Nat.zero_add] at q
  exact q
