/-! THE CLAIM OUT OF ONE WALK OF THE LAW'S BODY. Your part is whole_start (and what it stands on); all else here is the same for every law, but numbers. -/
def R_law : String := "UmbrellaFlightLaw"
def lw_P (b : Addr) (xs : List Int32) (args : Array Value) (s : State) : Prop := args = #[.ref b] ∧ s.IntsAt b xs ∧ xs.length ≤ 3072 ∧ (Jvm.Cond.and given_1 narrow_1).before args s = true
def lw_Q (_ : Array Value) (s : State) (o : Outcome) (t : State) : Prop := o = .returned (some (.int 1)) ∧ Framed s o t [] 601024 7293034
def lw_Z (below : List Frame) (a : Array Value) (s : State) : State → Prop := fun t => ∃ o, t.status = .running ∧ Ended t below o ∧ lw_Q a s o t
/-- the law's own end, with 1 on the stack, nothing written that was there before, its room as the claim has it -/
theorem lw_ret {p : Program} {l : Launch} {e : Env} {s : State} {m : MethodId} {below : List Frame} {meth : Method} {c : Code} {b : Nat} (hx : p.tables.exec = Jvm.exec) (hb : c.code = code) (hr : meth.sig.returnType = ret) (hlocks : meth.locks = false) {pc : Nat} {H : Heap} {ls : Array Slot} (hdg : decode code pc = .ok (.ireturn, 1)) : W p l e room_1 s m #[Value.ref b] below meth c H [] 601024 7293034 (lw_Z below #[Value.ref b] s) (F0 m pc ls [.int 1]) := by
  intro T hT X
  obtain ⟨fs, hret, hrun, hended, hW, hframe⟩ := X.leave (v := some (.int 1)) (hlocks := hlocks) (fun h => by rw [hr] at h; cases h)
  have hmeth' : T.vm.method? m = some meth := X.method'
  refine ⟨T.setFrames fs, ?_, .returned (some (.int 1)), hrun, hended, rfl, ⟨_, rfl⟩, hW, hframe⟩
  jvm_step X.here [X.here.top, hx, hb, hdg, hmeth', hr, ret, narrow_b1]
  (try refine ⟨rfl, ?_⟩); (try refine ⟨rfl, ?_⟩)
  first | (intro acts; rw [hret _ acts rfl rfl rfl]) | rw [hret _ _ rfl rfl rfl]
  exact Steps.refl _
/-- what holds at the law's entry: the machine, the code, the tables' words (any of lw_tbl by 'hts w (by decide +kernel)'), the script of L ints xs at the cell b, what the Statement gives of the start (any of its parts by flat_of_before) -/
def lw_At (p : Program) (s : State) (m : MethodId) (meth : Method) (c : Code) (b L : Nat) (xs : Nat → Int32) : Prop :=
  p.tables.exec = Jvm.exec ∧ c.code = code ∧ meth.sig.returnType = ret ∧ c.maxLocals = 7 ∧ s.vm.findClass R_law = some m.cls ∧ (∀ w ∈ lw_tbl, w.before #[Value.ref b] s = true) ∧ va_X b L xs s s.heap ∧ b < s.heap.size ∧ meth.locks = false ∧ (Jvm.Cond.and given_1 narrow_1).before #[Value.ref b] s = true
/-! FROM A PURE ANSWER TO THE LAW's END -/
def jz_M0 (L : Nat) (xs : Nat → Int32) : jM := (fun a k => if a = 1 then xs k else 0, fun _ _ => 0, fun _ _ => 0, fun a => if a = 1 then 30 else if 2 ≤ a ∧ a < 2 + jt_sks.length then 40 else 0, fun a => if a = 1 then L else 0, 100, 0)
def jz_sk (i : Nat) : Term := Term.string (jt_on (jt_sks.getD i (0, 0, "")).1) (jt_sks.getD i (0, 0, "")).2.1
def jz_v (i : Nat) : Term := .field (jz_sk i) "java/lang/String" "value" "[B"
def jz_cs (i : Nat) : List Cond := [.exactly (jz_sk i) "java/lang/String", .eq (.field (jz_sk i) "java/lang/String" "coder" "B") (.int 0), .arrayOf (jz_v i) .byte, .eq (.length (jz_v i)) (.int (Int32.ofNat (jt_tx (i + 2)).length))] ++ (List.range (jt_tx (i + 2)).length).map fun j => .eq (.elem (jz_v i) (.int (Int32.ofNat j))) (.int ((jt_tx (i + 2)).getD j 0))
def jz_f (w : Cond) : Bool := match w with
  | .eq (.string _ _) (.string _ _) => false
  | _ => true
theorem jz_flat : ((flatC (Jvm.Cond.and given_1 narrow_1)).drop 24).filter jz_f = (List.range jt_sks.length).flatMap jz_cs := by decide +kernel
theorem jz_in {i : Nat} (hi : i < jt_sks.length) {w : Cond} (hw : w ∈ jz_cs i) : w ∈ flatC (Jvm.Cond.and given_1 narrow_1) := by
  have h : w ∈ (List.range jt_sks.length).flatMap jz_cs := List.mem_flatMap.mpr ⟨i, List.mem_range.mpr hi, hw⟩
  rw [← jz_flat] at h
  exact List.mem_of_mem_drop (List.mem_filter.mp h).1
theorem jz_refs : ∀ q ∈ jt_sks, Cond.stringRef (jt_on q.1) q.2.1 q.2.2 ∈ lw_tbl := by decide +kernel
theorem jz_text {s : State} {b : Nat} (hn : ∀ c ∈ flatC (Jvm.Cond.and given_1 narrow_1), c.before #[Value.ref b] s = true) {i : Nat} (hi : i < jt_sks.length) : ∃ a, (jz_sk i).eval #[Value.ref b] s none [] s = some (.ref a) ∧ ∃ av, jq_T s.heap.size s s.heap a av (jt_tx (i + 2)) := by
  have hA : ∀ a : Nat, a < s.heap.size → ¬ (fun q => s.heap.size ≤ q) a := fun a h => Nat.not_le.mpr h
  have h1 : (Cond.exactly (jz_sk i) "java/lang/String").before #[Value.ref b] s = true := hn _ (jz_in hi (List.mem_append_left _ List.mem_cons_self))
  have h2 : (Cond.eq (.field (jz_sk i) "java/lang/String" "coder" "B") (.int 0)).before #[Value.ref b] s = true := hn _ (jz_in hi (List.mem_append_left _ (List.mem_cons_of_mem _ List.mem_cons_self)))
  have h3 : (Cond.arrayOf (jz_v i) .byte).before #[Value.ref b] s = true := hn _ (jz_in hi (List.mem_append_left _ (List.mem_cons_of_mem _ (List.mem_cons_of_mem _ List.mem_cons_self))))
  have h4 : (Cond.eq (.length (jz_v i)) (.int (Int32.ofNat (jt_tx (i + 2)).length))).before #[Value.ref b] s = true := hn _ (jz_in hi (List.mem_append_left _ (List.mem_cons_of_mem _ (List.mem_cons_of_mem _ (List.mem_cons_of_mem _ List.mem_cons_self)))))
  have h5 : ∀ j, j < (jt_tx (i + 2)).length → (Cond.eq (.elem (jz_v i) (.int (Int32.ofNat j))) (.int ((jt_tx (i + 2)).getD j 0))).before #[Value.ref b] s = true := fun j hj => hn _ (jz_in hi (List.mem_append_right _ (List.mem_map.mpr ⟨j, List.mem_range.mpr hj, rfl⟩)))
  obtain ⟨a, c, cA, kA, q1, q2, q3, q4, q5, q6, -⟩ := Cond.exactly_spec (args := #[Value.ref b]) (first := s) (o := none) (s := s) (idx := []) (t := jz_sk i) (cls := "java/lang/String") h1
  obtain ⟨t, ht, hT⟩ := va_Tof (f := fun j => .int ((jt_tx (i + 2)).getD j 0)) (A := fun q => s.heap.size ≤ q) (jq_txs_ok (i + 2)).2 h3 (va_eqt h4) (fun j hj => va_eqt (h5 j hj)) hA
  exact ⟨a, q1, t, ⟨cA, q3, q5, by rw [q6]; exact q2, hA a (Array.getElem?_eq_some_iff.mp q3).1⟩, vk_OFof q1 (va_eqt h2) hA, vk_OFof q1 ht hA, hT⟩
theorem jz_K {s : State} {args : Array Value} (hts : ∀ w ∈ jc_gw, w.before args s = true) : ∃ (D : va_G) (cI cJ cB : ClassId), va_K D vwCl [(cI, .int), (cJ, .long), (cB, .byte)] s := by
  have h0 : ∀ ci : Nat, ∃ q : ClassId × (Nat → Nat), ci < vwCl.length → u_Kn s (jc_C ci) (jc_T ci) (jc_N ci) q.1 q.2 := by
    intro ci
    by_cases h : ci < vwCl.length
    · obtain ⟨h1, -, -, h4, -⟩ := jc_Cl_spec h
      obtain ⟨c, f, hk⟩ := u_known (T := jc_T ci) (N := jc_N ci) hts h1 (hts _ h4)
      exact ⟨(c, f), fun _ => hk⟩
    · exact ⟨(0, fun _ => 0), fun z => absurd z h⟩
  obtain ⟨g, hg⟩ := Classical.axiomOfChoice h0
  obtain ⟨cI, kI, pI, i1, i2, i3⟩ := Cond.arrayClass_spec (hts _ jc_arrI)
  obtain ⟨cJ, kJ, pJ, j1, j2, j3⟩ := Cond.arrayClass_spec (hts _ jc_arrJ)
  obtain ⟨cB, kB, pB, b1, b2, b3⟩ := Cond.arrayClass_spec (hts _ jc_arrB)
  refine ⟨(fun c => (g c).1, fun c => (g c).2), cI, cJ, cB, fun c q hq => ?_, fun k q hk => ?_⟩
  · have hlt : c < vwCl.length := (List.getElem?_eq_some_iff.mp hq).1
    rw [jc_cl_get hlt] at hq
    obtain rfl := Option.some.inj hq
    exact hg c hlt
  · match k, hk with
    | 0, hk => obtain rfl := Option.some.inj hk; exact ⟨fun n z => ⟨(fun k h => by cases h), kI, i2, pI, i3⟩, i1⟩
    | 1, hk => obtain rfl := Option.some.inj hk; exact ⟨fun n z => ⟨(fun k h => by cases h), kJ, j2, pJ, j3⟩, j1⟩
    | 2, hk => obtain rfl := Option.some.inj hk; exact ⟨fun n z => ⟨(fun k h => by cases h), kB, b2, pB, b3⟩, b1⟩
theorem jz_lC : Cond.laysStatic "java/lang/String" "COMPACT_STRINGS" "Z" ∈ lw_tbl := jc_t_mem (i := 1206) (by decide +kernel)
theorem jz_lF : Cond.laysStatic "jdk/internal/util/Preconditions" "SIOOBE_FORMATTER" "Ljava/util/function/BiFunction;" ∈ lw_tbl := jc_t_mem (i := 1223) (by decide +kernel)
theorem jz_lU : Cond.laysStatic Bundle.tN "UNASSIGNED_STACK" Bundle.steD ∈ lw_tbl := jc_t_mem (i := 6073) (by decide +kernel)
theorem jz_lN : Cond.laysStatic Bundle.tN "SUPPRESSED_SENTINEL" Bundle.listD ∈ lw_tbl := jc_t_mem (i := 6075) (by decide +kernel)
theorem jz_iT : Cond.initialized Bundle.tN ∈ lw_tbl := jc_t_mem (i := 1021) (by decide +kernel)
theorem jz_n4 : Cond.eq (.static "java/lang/String" "COMPACT_STRINGS" "Z") (.int 1) ∈ flatC (Jvm.Cond.and given_1 narrow_1) := List.mem_of_getElem? (i := 4) (by decide +kernel)
theorem jz_n5 : Cond.isRef (.static "jdk/internal/util/Preconditions" "SIOOBE_FORMATTER" "Ljava/util/function/BiFunction;") ∈ flatC (Jvm.Cond.and given_1 narrow_1) := List.mem_of_getElem? (i := 5) (by decide +kernel)
theorem jz_n9 : Cond.isRef (.static Bundle.tN "UNASSIGNED_STACK" Bundle.steD) ∈ flatC (Jvm.Cond.and given_1 narrow_1) := List.mem_of_getElem? (i := 9) (by decide +kernel)
theorem jz_n10 : Cond.isRef (.static Bundle.tN "SUPPRESSED_SENTINEL" Bundle.listD) ∈ flatC (Jvm.Cond.and given_1 narrow_1) := List.mem_of_getElem? (i := 10) (by decide +kernel)
theorem jz_C {p : Program} {s : State} {m : MethodId} {meth : Method} {c : Code} {b L : Nat} {xs : Nat → Int32} (C0 : lw_At p s m meth c b L xs) : ∃ (D : va_G) (cI cJ cB : ClassId) (sp : Nat → Nat), sp 1 = b ∧ jw_C s D cI cJ cB sp L b xs ∧ jl_Z s := by
  obtain ⟨-, -, -, -, -, hts, hX, hbl, -, hgv⟩ := C0
  have hA : ∀ a : Nat, a < s.heap.size → ¬ (fun q => s.heap.size ≤ q) a := fun a h => Nat.not_le.mpr h
  have hn := flat_of_before _ hgv
  obtain ⟨D, cI, cJ, cB, hK⟩ := jz_K (args := #[Value.ref b]) (fun w hw => hts w (List.mem_filter.mp hw).1)
  have h0 : ∀ i : Nat, ∃ a : Nat, i < jt_sks.length → (jz_sk i).eval #[Value.ref b] s none [] s = some (.ref a) ∧ ∃ av, jq_T s.heap.size s s.heap a av (jt_tx (i + 2)) := by
    intro i
    by_cases hi : i < jt_sks.length
    · obtain ⟨a, h⟩ := jz_text hn hi
      exact ⟨a, fun _ => h⟩
    · exact ⟨0, fun h => absurd h hi⟩
  obtain ⟨ad, had⟩ := Classical.axiomOfChoice h0
  refine ⟨D, cI, cJ, cB, fun q => if q = 1 then b else ad (q - 2), rfl, ⟨hts, hK, hX, hbl, fun i o x t hq => ?_, ⟨va_Zof (hts _ jz_lC) (hts _ (List.mem_filter.mp jq_iStr).1) (va_eqi (hn _ jz_n4)) hA, va_Zqof (hts _ jz_lF) (hts _ (List.mem_filter.mp jq_iPre).1) (hn _ jz_n5) hA⟩, fun i hi => ?_⟩, vx_Zqof (hts _ jz_lU) (hts _ jz_iT) (hn _ jz_n9) hA, vx_Zqof (hts _ jz_lN) (hts _ jz_iT) (hn _ jz_n10) hA⟩
  · have hi : i < jt_sks.length := (List.getElem?_eq_some_iff.mp hq).1
    have e : jt_sks.getD i (0, 0, "") = (o, x, t) := by rw [List.getD_eq_getElem?_getD, hq]; rfl
    have h := (had i hi).1
    unfold jz_sk at h
    rw [e] at h
    show vk_R (jt_on o) x t (if i + 2 = 1 then b else ad (i + 2 - 2)) s
    rw [if_neg (by omega), Nat.add_sub_cancel]
    exact vk_R.of (hts _ (jz_refs _ (List.mem_of_getElem? hq))) h
  · obtain ⟨av, h⟩ := (had i hi).2
    refine ⟨av, ?_⟩
    show jq_T _ s s.heap (if i + 2 = 1 then b else ad (i + 2 - 2)) av _
    rw [if_neg (by omega), Nat.add_sub_cancel]
    exact h
theorem jz_H0 {H0 : Heap} {D : va_G} {cI cJ cB : ClassId} {sp : Nat → Nat} {L : Nat} {xs : Nat → Int32} : jw_H H0 D cI cJ cB sp L xs (jz_M0 L xs) H0 := by
  refine ⟨?_, Nat.le_refl _, fun _ _ => rfl, fun c hc => ?_, fun c hc hk => ?_⟩
  · show H0.size = H0.size + (100 - 100)
    omega
  · show (if c = 1 then 30 else if 2 ≤ c ∧ c < 2 + jt_sks.length then 40 else 0) = 0 ∨ ((if c = 1 then 30 else if 2 ≤ c ∧ c < 2 + jt_sks.length then 40 else 0) = 30 ∧ c = 1 ∧ (if c = 1 then L else 0) = L ∧ ∀ j, (if c = 1 then xs j else 0) = xs j) ∨ ((if c = 1 then 30 else if 2 ≤ c ∧ c < 2 + jt_sks.length then 40 else 0) = 40 ∧ 2 ≤ c ∧ c < 2 + jt_sks.length)
    by_cases h1 : c = 1
    · subst h1
      exact Or.inr (Or.inl ⟨rfl, rfl, rfl, fun _ => rfl⟩)
    · rw [if_neg h1]
      by_cases h2 : 2 ≤ c ∧ c < 2 + jt_sks.length
      · rw [if_pos h2]; exact Or.inr (Or.inr ⟨rfl, h2⟩)
      · rw [if_neg h2]; exact Or.inl rfl
  · exfalso
    apply hk
    show (if c = 1 then 30 else if 2 ≤ c ∧ c < 2 + jt_sks.length then 40 else 0) = 0
    have hl : jt_sks.length = 57 := rfl
    rw [if_neg (by omega), if_neg (by omega)]
theorem whole_of_pure {p : Program} {e : Env} {s : State} {m : MethodId} {below : List Frame} {meth : Method} {c : Code} (l : Launch) (hflags : l.flags = flags0) {b L : Nat} {xs : Nat → Int32} (C0 : lw_At p s m meth c b L xs) {M' : jM}
    (h1 : jx_D jt_tx jt_sw jt_cd jt_nl jt_law [.ref 1] (jz_M0 L xs) = some (some (.int 1), M')) (h2 : jm_n M' - 100 ≤ 601024) (h3 : jm_w M' ≤ 7293034) : W p l e room_1 s m #[Value.ref b] below meth c s.heap [] 0 0 (lw_Z below #[Value.ref b] s) (entryFrame m ([Value.ref b] : List Value).toArray 7) := by
  obtain ⟨D, cI, cJ, cB, sp, hsp, Cc, hZ⟩ := jz_C C0
  obtain ⟨hx, hb, hret, hml, hown, hts, hX, hbl, hlocks, hgv⟩ := C0
  have hfl : l.stackTraces = false := by
    unfold Launch.stackTraces
    rw [hflags]
    rfl
  have F : jw_F p s s m meth c jt_law := ⟨hx, hb, hml, hown, State.WarmedH.refl s, fun h => absurd h (by decide)⟩
  obtain ⟨hlen, hq⟩ := ck_some h1
  obtain ⟨n, hq⟩ := den_run.mp hq
  have hlen := beq_n hlen
  have hJ := jc_J_ok jt_law (Nat.lt_succ_self _)
  have key := jw_blocks (p := p) (l := l) (e := e) (R := room_1) (args := #[Value.ref b]) (below := below) (r := (some (.int 1), M')) (n0 := 100) (w0 := 0) (Q := lw_Z below #[Value.ref b] s) Cc F (Nat.le_refl _) (jc_rk_ge (Nat.le_refl _)) (by decide) (by decide) h2 h3 n (jw_meths Cc n)
    (fun n _ M ls st pc i o a pp q hj hlink hd hka hko hcat hq hn hw hRc hRs hor => fun H locs ar hH hL hl => by
      have hts' := jw_ts (args := #[Value.ref b]) Cc F
      have main : ∀ (r : Int32) (M2 : jM), jl_ok q o r M2 → jm_n M2 = jm_n q.2 → jm_w M2 = jm_w q.2 → (jw_W p l e room_1 s s m #[Value.ref b] below meth c (lw_Z below #[Value.ref b] s) D cI cJ cB sp L xs 100 0 (jt_nl jt_law) M2 ls (.int r :: st) (pc + 3)) → W p l e room_1 s m #[Value.ref b] below meth c H locs (jm_n M - 100) (jm_w M - 0) (lw_Z below #[Value.ref b] s) (F0 m pc ar ((Value.ref o :: .int pp :: .ref a :: st).map (jw_v (jw_ad s.heap.size sp)))) := by
        intro r M2 hok en ew kk
        have hle := le_run _ _ _ _ _ _ _ (ck_some hq).2
        have l1 : jm_n M ≤ jm_n q.2 := hle.1
        have l2 : jm_w M ≤ jm_w q.2 := hle.2
        refine jl_run (z := s.heap.size) (rest := st.map (jw_v (jw_ad s.heap.size sp))) (vx_runSX (hh := [(0, 9, 12, 13)]) (As := ([.ref a, .int pp, .ref o] : List Value).map (jw_v (jw_ad s.heap.size sp))) (js_callfix Cc F) (jl_law Cc hfl hZ hq hka hok)
          (vx_cwSW 3 hts' (goodIn_l fun w hw => by
            simp only [va_wsS, List.mem_append, List.mem_cons, List.not_mem_nil, or_false] at hw
            rcases hw with (rfl | rfl | rfl) | rfl
            · exact ⟨hlink, rfl⟩
            · exact ⟨jl_sL, rfl⟩
            · exact ⟨jl_iL, rfl⟩
            · exact ⟨jl_cL, rfl⟩) rfl rfl rfl ⟨by decide +kernel, by decide +kernel, by decide +kernel⟩ ⟨(show jt_rk jt_led + 1 + 1 ≤ room_1.frames by decide), (show 8 + (4 + 11) + (40 * jt_rk jt_led + 60) ≤ room_1.locals by decide)⟩)
          ⟨fun a U g mk h => h, fun U hU hW => ⟨rfl, by rw [hU]; exact hH, hW⟩⟩ rfl rfl hL.2.1 rfl (by rw [jw_cats]; show 2 * 0 + _ ≤ 8; omega) hd ⟨by omega, by omega⟩) hl (fun v st1 t locs1 hl1 hQ => ?_) (fun E st t locs1 ce q hl1 hX _ _ _ => hX.elim)
        obtain ⟨hout, hH2⟩ := hQ
        cases hout
        have h9 := kk t.heap locs1 ar hH2 hL hl1
        rw [en, ew] at h9
        rw [show jm_n M - 100 + (jm_n q.2 - jm_n M) = jm_n q.2 - 100 by omega, show jm_w M - 0 + (jm_w q.2 - jm_w M) = jm_w q.2 - 0 by omega]
        exact h9
      rcases hor with ⟨v, e1, e2, e3, kk⟩ | ⟨e1, kk⟩
      · exact main 0 (jm_sl q.2 o 0 v.toInt64) (Or.inl ⟨v, e1, e2, e3, rfl, rfl⟩) rfl rfl kk
      · exact main 1 q.2 (Or.inr ⟨e1, rfl, rfl⟩) rfl rfl kk)
    (fun _ hj => absurd hj (by decide))
    (fun {M ls pc v} hd _ hqe => fun H locs ar hH hL hl => by
      cases hqe
      exact va_forget hl (W.widen h2 h3 (lw_ret hx hb hret hlocks hd)))
    (fun {M' ls pc v} hd hret hqe => absurd hret (by decide))
    (fun {M' ls pc} hd hret hqe => absurd hret (by decide))
    n (Nat.le_refl _) 0 _ [] (jz_M0 L xs) hJ.1 hq (Nat.le_refl _) (Nat.le_refl _) s.heap [] _ jz_H0 (jw_entry hlen) (fun _ h => nomatch h)
  rw [lg_entry_eq]
  rw [hJ.2.1] at key
  have e1 : jw_v (jw_ad s.heap.size sp) (.ref 1) = .ref b := by
    show Value.ref (jw_ad _ _ _) = _
    unfold jw_ad
    rw [if_pos (by omega), hsp]
  rw [List.map_cons, e1] at key
  exact key
