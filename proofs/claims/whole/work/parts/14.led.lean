/-! LED: the class's own throws, the law's catches -/
def jl_Z (s0 : State) : Prop := vx_Zq Bundle.tN "UNASSIGNED_STACK" Bundle.steD (fun q => s0.heap.size ≤ q) s0 s0.heap ∧ vx_Zq Bundle.tN "SUPPRESSED_SENTINEL" Bundle.listD (fun q => s0.heap.size ≤ q) s0 s0.heap
/-- a word that stays, whatever is resolved -/
def jl_k (w : Cond) : Bool := match w with
  | .declares _ => true
  | .castable _ _ => true
  | w => goodWord w
theorem jl_at_ok : ∀ w ∈ jl_wsS, jl_k w = true := by decide +kernel
theorem jl_at_in : ∀ w ∈ jl_wsS, w ∈ lw_tbl := by decide +kernel
theorem jl_at_cast : Cond.castable jl_nse jl_nse ∈ jl_wsS := by decide +kernel
theorem jl_stay {args a' : Array Value} {s0 s : State} (hW : s0.WarmedH s.vm) {w : Cond} (hk : jl_k w = true) (h : w.before args s0 = true) : w.before a' s = true := by
  have key : ∀ w : Cond, w.onTables = true → w.before args (s0.setVm s.vm) = true → w.before a' s = true := fun w h1 h2 => by
    have h3 := Cond.onTables_vm (A := args) (A' := a') (U := s0) (U' := s) s.vm w h1
    rw [h3] at h2
    exact h2
  unfold jl_k at hk
  split at hk
  · exact key _ rfl (by rw [Cond.declares_setVm hW.alike]; exact h)
  · exact key _ rfl (by rw [Cond.castable_setVm hW.alike]; exact h)
  · exact word_at hW (good_of_word hk) h
theorem jl_kw : Cond.classLink jl_uf 382 jl_nse ∈ jc_gw := jc_w_mem (i := 6046) (by decide +kernel)
theorem jl_iw : Cond.initialized jl_nse ∈ jc_gw := jc_w_mem (i := 1024) (by decide +kernel)
theorem jl_kL : Cond.classLink "UmbrellaFlightLaw" 13 jl_nse ∈ jc_gw := jc_w_mem (i := 6041) (by decide +kernel)
theorem jl_mX : Cond.methodLink "UmbrellaFlightLaw" 7 (jt_y jt_led) ∈ jc_gw := jc_w_mem (i := 6042) (by decide +kernel)
theorem jl_sL : Cond.static yL_led ∈ jc_gw := jc_w_mem (i := 6039) (by decide +kernel)
theorem jl_iL : Cond.initialized "UmbrellaFlightLaw" ∈ jc_gw := jc_w_mem (i := 1000) (by decide +kernel)
set_option maxRecDepth 100000 in
theorem jl_cL : Cond.codeWith yL_led cL_led 4 (some .int) [(0, 9, 12, 13)] ∈ jc_gw := jc_mem_of (i := 6040) rfl rfl
theorem jl_text : jt_sks[28]? = some (11, 384, "no such umbrella falls") := by decide +kernel
theorem jw_more {H0 H H1 : Heap} {D : va_G} {cI cJ cB : ClassId} {sp : Nat → Nat} {L : Nat} {xs : Nat → Int32} {M : jM} {w : Nat} (h : jw_H H0 D cI cJ cB sp L xs M H) (hs : H1.size = H.size + 1) (ho : ∀ q : Nat, q < H.size → H1[q]? = H[q]?) : jw_H H0 D cI cJ cB sp L xs (M.1, M.2.1, M.2.2.1, M.2.2.2.1, M.2.2.2.2.1, jm_n M + 1, w) H1 := by
  obtain ⟨h1, h2, h3, h4, h5⟩ := h
  refine ⟨?_, ?_, fun q hq => ?_, fun c hc => h4 c hc, fun c hc hk => ?_⟩
  · show H1.size = H0.size + (jm_n M + 1 - 100)
    omega
  · show 100 ≤ jm_n M + 1
    omega
  · rw [ho q (by omega)]; exact h3 q hq
  · obtain ⟨a, b⟩ := h5 c hc hk
    refine ⟨Nat.lt_succ_of_lt a, b.kept (ho _ ?_)⟩
    show jw_ad H0.size sp c < H.size
    rw [jw_ad_hi hc]
    omega
section LED
variable {p : Program} {l : Launch} {e : Env} {R : Room} {s s0 : State} {m : MethodId} {args : Array Value} {below : List Frame} {meth : Method} {c : Code} {Q : State → Prop} {D : va_G} {cI cJ cB : ClassId} {sp : Nat → Nat} {L b0 : Nat} {xs : Nat → Int32} {n0 w0 j : Nat}
def jl_Qc (s0 : State) (D : va_G) (cI cJ cB : ClassId) (sp : Nat → Nat) (L : Nat) (xs : Nat → Int32) (q : jR) : Array Value → State → Outcome → State → Prop := fun a st o t => (∃ v, q.1 = some (.int v)) ∧ jw_Qc s0 D cI cJ cB sp L xs q a st o t
def jl_XC (s0 : State) (D : va_G) (cI cJ cB : ClassId) (sp : Nat → Nat) (L : Nat) (xs : Nat → Int32) (q : jR) : String → State → State → Prop := fun E _ t => E = jl_nse ∧ q.1 = some .null ∧ jw_H s0.heap D cI cJ cB sp L xs q.2 t.heap
theorem jl_led (Cc : jw_C s0 D cI cJ cB sp L b0 xs) (hfl : l.stackTraces = false) (hZ : jl_Z s0) {n : Nat} {as : List Value} {M : jM} {q : jR} (hq : jx_ck (Nat.beq (jx_en (jt_nl jt_led) as).length (jt_nl jt_led)) (jx_run jt_tx jt_sw jt_cd jt_nl n jt_led 0 (jx_en (jt_nl jt_led) as) [] M) = some q) :
    vx_Met l (jt_y jt_led) [Cond.code (jt_y jt_led) (jt_cc jt_led) (jt_nl jt_led) (jt_ret jt_led)] (jw_rm jt_led M q) (jw_Pc s0 D cI cJ cB sp L xs as M) (jl_Qc s0 D cI cJ cB sp L xs q) (jl_XC s0 D cI cJ cB sp L xs q) (jm_n q.2 - jm_n M) (jm_w q.2 - jm_w M) (fun a => s0.heap.size ≤ a) := by
  obtain ⟨hlen, hq⟩ := ck_some hq
  have hlen := beq_n hlen
  have hlt : jt_led < jt_law := by decide
  obtain ⟨-, -, -, hon, -⟩ := jc_M_spec hlt
  refine vx_ofW (cc := jt_cc jt_led) (maxL := jt_nl jt_led) (ret := jt_ret jt_led) (jc_plain hlt) rfl ?_
  intro p e s m args below meth c s₁ B hml ht hP
  obtain ⟨rfl, hH, hW0⟩ := hP
  have F : jw_F p s s0 m meth c jt_led := ⟨B.exec, B.bytes, hml, by rw [hon]; exact findClass_of_methodNamed B.named, hW0, fun h => (name_of_methodNamed B.named B.method).1.trans h⟩
  have hJ := jc_J_ok jt_led (Nat.lt_succ_of_lt hlt)
  have hlocks := B.notSynchronized
  have hr := B.returns
  have hgw := jw_stable Cc.1 hW0 (as.map (jw_v (jw_ad s0.heap.size sp))).toArray
  have hS0 : va_S (fun q => s0.heap.size ≤ q) s0.heap s.heap [] := jw_S hH (fun _ h => nomatch h)
  have key := jw_blocks (p := p) (l := l) (e := e) (R := jw_rm jt_led M q) (args := (as.map (jw_v (jw_ad s0.heap.size sp))).toArray) (below := below) (r := q) (n0 := jm_n M) (w0 := jm_w M)
    (Q := vx_MQ below (jl_Qc s0 D cI cJ cB sp L xs q) (jl_XC s0 D cI cJ cB sp L xs q) (as.map (jw_v (jw_ad s0.heap.size sp))).toArray s (jm_n q.2 - jm_n M) (jm_w q.2 - jm_w M) (fun a => s0.heap.size ≤ a)) Cc F (Nat.le_of_lt hlt) (jc_rk_ge (Nat.le_of_lt hlt)) (Nat.le_refl _) (Nat.le_refl _) (Nat.le_refl _) (Nat.le_refl _) n (jw_meths Cc n)
    (fun n _ _ _ _ _ _ _ _ _ _ hz => absurd hz (Nat.ne_of_lt hlt))
    (fun {M' ls st pc i} hd _ hpc hst hn hw hr0 => fun H locs ar hH' hL hl => by
      have hr0 := Option.some.inj hr0
      subst hr0
      subst hpc
      have hS : va_S (fun q => s0.heap.size ≤ q) s.heap H locs := ⟨by rw [hH.1, hH'.1]; show _ + (jm_n M - 100) ≤ _ + (jm_n M' - 100); omega, fun q h1 h2 => by
        have h2 : q < s0.heap.size := Nat.not_le.mp h2
        rw [hH'.2.2.1 q h2, hH.2.2.1 q h2], hl⟩
      have hcat : ((st.map (jw_v (jw_ad s0.heap.size sp))).map fun v => v.category).sum = 0 := by rw [jw_cats]; exact hst
      refine jl_makeSW F.1 F.2.1 hfl (text := "no such umbrella falls") (sa := sp 30) F.2.2.2.1 (hgw _ jl_kw) (hgw _ jl_iw) (vk_R.warm hW0 (Cc.2.2.2.2.1 28 11 384 _ jl_text)) (fun w hw => jl_stay hW0 (jl_at_ok w hw) (Cc.1 w (jl_at_in w hw)))
        ((vx_Zq.moved hW0.alike hZ.1).kept hS0.2.1) ((vx_Zq.moved hW0.alike hZ.2).kept hS0.2.1) hS (hL.2.1.trans hml.symm)
        (by decide +kernel) (by decide +kernel) (by decide +kernel) (by decide +kernel) ?_ ?_ ?_ ?_ (fun H1 ce h1 h2 h3 h4 h5 => ?_)
      · show 2 + 3 < jt_rk jt_led
        decide
      · rw [hcat]
        show 0 + (13 * (2 + 1) + 43) ≤ 40 * jt_rk jt_led
        decide
      · show jm_n M' - jm_n M + 1 ≤ jm_n M' + 1 - jm_n M
        omega
      · show jm_w M' - jm_w M + 6 ≤ jm_w M' + 6 - jm_w M
        omega
      · refine vx_athrow F.1 F.2.1 (show decode (jt_cc jt_led) (jt_pc jt_led (jt_nb jt_led - 1) + 10) = _ by decide +kernel) (vx_out (fun x hx => (ht x hx).elim) hlocks h3 h4 h5 (fun t h9 _ => ⟨rfl, rfl, by rw [h9]; exact jw_more hH' h1 h2⟩) hl ?_ ?_)
        · show jm_n M' - jm_n M + 1 ≤ jm_n M' + 1 - jm_n M
          omega
        · show jm_w M' - jm_w M + 6 ≤ jm_w M' + 6 - jm_w M
          omega)
    (fun {M' ls pc v} hd hret hqe => fun H locs ar hH hL hl => by
      subst hqe
      refine vx_ret ?_
      rcases hret with hret | ⟨hret, hv⟩
      · exact W.iret F.1 F.2.1 (hr.trans hret) (fun t ht _ => ⟨⟨_, rfl⟩, rfl, by rw [ht]; exact hH⟩) hl hd hlocks
      · exact W.zret F.1 F.2.1 (hr.trans hret) (by rcases hv with rfl | rfl <;> rfl) (fun t ht _ => ⟨⟨_, rfl⟩, rfl, by rw [ht]; exact hH⟩) hl hd hlocks)
    (fun {M' ls pc v} hd hret hqe => absurd hret (by decide))
    (fun {M' ls pc} hd hret hqe => absurd hret (by decide))
    n (Nat.le_refl _) 0 _ [] M hJ.1 hq (Nat.le_refl _) (Nat.le_refl _) s.heap [] _ hH (jw_entry hlen) (fun _ h => nomatch h)
  rw [lg_entry_eq]
  rw [hJ.2.1, Nat.sub_self, Nat.sub_self] at key
  exact key
/-- a call that returns or throws -/
theorem jl_run {H : Heap} {locs : List Loc} {cells slots z mc ms pc : Nat} {ar : Array Slot} {st0 rest : List Value} {Qa : State → Outcome → State → Prop} {XC : String → State → State → Prop}
    (hrun : vx_Run p l e R s m args below meth c H locs cells slots mc ms (F0 m pc ar st0) rest Qa XC (fun a => z ≤ a)) (hl : ∀ q ∈ locs, z ≤ q.base)
    (kk : ∀ (v : Option Value) (st t : State) (locs1 : List Loc), (∀ q ∈ locs1, z ≤ q.base) → Qa st (.returned v) t → W p l e R s m args below meth c t.heap locs1 (cells + mc) (slots + ms) Q (F0 m (pc + 3) ar (v.toList ++ rest)))
    (kx : ∀ (E : String) (st t : State) (locs1 : List Loc) (ce : Cell) (q : Nat), (∀ q ∈ locs1, z ≤ q.base) → XC E st t → t.heap[q]? = some ce → ce.vm = .none → s.vm.findClass E = some ce.cls → vx_W p l e R s m args below meth c t.heap locs1 (cells + mc) (slots + ms) Q (F0 m pc ar rest) q) : W p l e R s m args below meth c H locs cells slots Q (F0 m pc ar st0) := by
  intro T hT X
  rcases hrun T hT X with ⟨v, st₀, t, T', L', h0, X', hL', e1, e2, hq, stp⟩ | ⟨q, st₀, t, T', L', E, ce, h0, X', hL', e1, e2, hq, hce, hcv, hcl, stp⟩
  · obtain ⟨t2, a1, b1⟩ := kk v st₀ t (locs ++ L') (fun q hq => (List.mem_append.mp hq).elim (hl q) (hL' q)) hq T' e1 X'
    exact ⟨t2, stp t2 a1, b1⟩
  · obtain ⟨t2, a1, b1⟩ := kx E st₀ t (locs ++ L') ce q (fun q hq => (List.mem_append.mp hq).elim (hl q) (hL' q)) hq hce hcv hcl T' e1 X'
    exact ⟨t2, stp.trans a1, b1⟩
/-- what the law's led answers, and the memory behind it -/
def jl_ok (q : jR) (o : Nat) (r : Int32) (M2 : jM) : Prop := (∃ v, q.1 = some (.int v) ∧ jm_z q.2 o ≠ 0 ∧ jm_k q.2 o = 21 ∧ r = 0 ∧ M2 = jm_sl q.2 o 0 v.toInt64) ∨ (q.1 = some .null ∧ r = 1 ∧ M2 = q.2)
theorem jl_law (Cc : jw_C s0 D cI cJ cB sp L b0 xs) (hfl : l.stackTraces = false) (hZ : jl_Z s0) {n a o : Nat} {pp : Int32} {M : jM} {q : jR} (hq : jx_ck (Nat.beq (jx_en (jt_nl jt_led) [.ref a, .int pp]).length (jt_nl jt_led)) (jx_run jt_tx jt_sw jt_cd jt_nl n jt_led 0 (jx_en (jt_nl jt_led) [.ref a, .int pp]) [] M) = some q)
    (hka : jm_k M a = 11) {r : Int32} {M2 : jM} (hr : jl_ok q o r M2) :
    vx_Met l yL_led [Cond.codeWith yL_led cL_led 4 (some .int) [(0, 9, 12, 13)]] { frames := jt_rk jt_led + 1, cells := jm_n q.2 - jm_n M, slots := jm_w q.2 - jm_w M, locals := 40 * jt_rk jt_led + 60 } (jw_Pc s0 D cI cJ cB sp L xs [.ref a, .int pp, .ref o] M) (jw_Qc s0 D cI cJ cB sp L xs (some (.int r), M2)) (fun _ _ _ => False) (jm_n q.2 - jm_n M) (jm_w q.2 - jm_w M) (fun a => s0.heap.size ≤ a) := by
  refine vx_ofWH (cc := cL_led) (maxL := 4) (ret := some .int) (hh := [(0, 9, 12, 13)]) (by decide +kernel) rfl ?_
  intro p e s m args below meth c s₁ B hml hP
  obtain ⟨rfl, hH, hW0⟩ := hP
  have hlocks := B.notSynchronized
  have hret := B.returns
  have hgw := jw_stable Cc.1 hW0 (([.ref a, .int pp, .ref o] : List Value).map (jw_v (jw_ad s0.heap.size sp))).toArray
  have hown : s.vm.findClass "UmbrellaFlightLaw" = some m.cls := findClass_of_methodNamed B.named
  have htab : c.exceptionTable.toList = tableOf [(0, 9, 12, 13)] := vx_table (x := yL_led) B (hgw _ jl_cL)
  have hlt : jt_led < jt_law := by decide
  obtain ⟨g1, g2, g3, hon, g5⟩ := jc_M_spec hlt
  obtain ⟨h1, h2, h3⟩ := jw_obj hH hka (ci := 10) (by decide)
  have hK : va_K D vwCl [(cI, .int), (cJ, .long), (cB, .byte)] s := va_K.moved hW0.alike Cc.2.1
  have hrecv := va_recv hK (va_P1 h3) (jc_cl_get (ci := 10) (by decide)) (q0 := 0) rfl
  have fix : CallFix p m c cL_led 4 s (([.ref a, .int pp, .ref o] : List Value).map (jw_v (jw_ad s0.heap.size sp))).toArray jc_gw "UmbrellaFlightLaw" := ⟨B.exec, B.bytes, hml, hown, hgw⟩
  have cw : CallW { frames := jt_rk jt_led + 1, cells := jm_n q.2 - jm_n M, slots := jm_w q.2 - jm_w M, locals := 40 * jt_rk jt_led + 60 } s (([.ref a, .int pp, .ref o] : List Value).map (jw_v (jw_ad s0.heap.size sp))).toArray "UmbrellaFlightLaw" (jt_y jt_led).cls 7 (jt_y jt_led) (jt_cc jt_led) (jt_nl jt_led) (jt_ret jt_led) [Cond.code (jt_y jt_led) (jt_cc jt_led) (jt_nl jt_led) (jt_ret jt_led)] (jw_rm jt_led M q) (jm_n q.2 - jm_n M) (jm_w q.2 - jm_w M) 1 := by
    rcases g5 with ⟨g5, -⟩ | ⟨-, g5, g6, g7⟩
    · exact absurd g5 (by decide)
    · refine cwV 1 hgw (goodIn_l fun w hw => by
        simp only [wsV, List.mem_append, List.mem_cons, List.not_mem_nil, or_false] at hw
        rcases hw with (rfl | rfl | rfl | rfl) | rfl
        · exact ⟨jl_mX, rfl⟩
        · exact ⟨g5, rfl⟩
        · exact ⟨g6 (by decide), rfl⟩
        · exact ⟨g1, rfl⟩
        · exact ⟨jc_code_good hlt, rfl⟩) rfl rfl rfl ⟨rfl, g3.1, g3.2, by decide +kernel⟩ ⟨Nat.le_refl _, ?_⟩
      show 8 + (jt_nl jt_led + 11) + 40 * jt_rk jt_led ≤ 40 * jt_rk jt_led + 60
      have : jt_nl jt_led ≤ 21 := g2
      omega
  have hp : PreV s s.heap (jt_y jt_led).cls (jw_ad s0.heap.size sp a) (jw_Pc s0 D cI cJ cB sp L xs [.ref a, .int pp] M) [.int pp] := ⟨fun a U g mk h => h, hrecv, fun U hU hW => ⟨rfl, by rw [hU]; exact hH, State.WarmedH.trans hW0 hW⟩⟩
  have hE := lv_entry (n := 4) (([.ref a, .int pp, .ref o] : List Value).map (jw_v (jw_ad s0.heap.size sp))) (by show 3 ≤ 4; omega)
  rw [lg_entry_eq]
  refine lv_aload_n B.exec B.bytes (k := 2) (i := 2) (x := jw_ad s0.heap.size sp o) (by decide +kernel) rfl rfl ?_
  refine lv_iconst B.exec B.bytes (n := 0) (v := 0) (by decide +kernel) (by decide) ?_
  refine lv_aload_n B.exec B.bytes (k := 0) (i := 0) (x := jw_ad s0.heap.size sp a) (by decide +kernel) rfl rfl ?_
  refine lv_iload_n B.exec B.bytes (k := 1) (i := 1) (x := pp) (by decide +kernel) rfl rfl ?_
  refine jl_run (z := s0.heap.size) (rest := [.int 0, .ref (jw_ad s0.heap.size sp o)]) (vx_runV (As := [.int pp]) fix (jl_led Cc hfl hZ hq) cw hp rfl rfl rfl rfl (show 2 * 0 + 2 ≤ 8 by decide) (show decode cL_led 4 = .ok (.invokevirtual 7, 3) by decide +kernel) ⟨by rw [Nat.zero_add]; exact Nat.le_refl _, by rw [Nat.zero_add]; exact Nat.le_refl _⟩) (fun _ h => nomatch h) (fun v st t locs1 hl1 hQ => ?_) (fun E st t locs1 ce q9 hl1 hX hce hcv hcl => ?_)
  · obtain ⟨⟨v9, hv9⟩, hout, hH1⟩ := hQ
    rcases hr with ⟨v1, hv1, hz, hk, rfl, rfl⟩ | ⟨hv1, -, -⟩
    · rw [hv1] at hout
      cases hout
      refine lv_i2l B.exec B.bytes (by decide +kernel) rfl ?_
      obtain ⟨o1, o3⟩ := jw_arrJ hH1 hk
      refine W.last (Q := _) B.exec B.bytes o3 ((hK.2 1 _ rfl).1 _ (fun j => .long (jm_l q.2 o j))) (fun q => by cases q) (by show ¬ ((0 : Int32) < 0 ∨ (arrV _ _ _).slots.size ≤ _); rw [arrV_size]; intro hh; rcases hh with hh | hh; exact absurd hh (by decide); exact hz (Nat.le_zero.mp hh)) rfl rfl (show decode cL_led 8 = .ok (.lastore, 1) by decide +kernel) fun H1 e1 z1 o1' => ?_
      have hH2 : jw_H s0.heap D cI cJ cB sp L xs (jm_sl q.2 o 0 v1.toInt64) H1 := jw_set hH1 o1 rfl rfl rfl (fun _ _ => rfl) (fun y hy => jm_up_ne _ _ _ hy) (fun _ _ => rfl) z1 o1' (by
        have ee : jw_ent (jw_ad s0.heap.size sp) cI cJ cB (jm_sl q.2 o 0 v1.toInt64) o = .inl (cJ, jm_z q.2 o, .inr (.inl (jm_l (jm_sl q.2 o 0 v1.toInt64) o))) := by
          unfold jw_ent
          rw [if_neg (by show ¬ jm_k q.2 o = 20; omega)]
          exact if_pos hk
        rw [ee]
        show H1[_]? = some (vp_cell _ _)
        rw [e1]
        exact congrArg some (jw_store_l _ _ _ _ _ _ (fun y => jm_up_self _ _ _ _ _)))
      refine lv_goto (pc := 9) B.exec B.bytes (off := 6) (tgt := 15) (by decide +kernel) (by decide) ?_
      refine lv_iconst B.exec B.bytes (n := 0) (v := 0) (by decide +kernel) (by decide) ?_
      rw [Nat.zero_add, Nat.zero_add]
      exact vx_ret (W.iret B.exec B.bytes hret (fun t ht _ => ⟨rfl, by rw [ht]; exact hH2⟩) (fun q hq => (List.mem_append.mp hq).elim (hl1 q) (fun hq => by
        rw [List.mem_singleton.mp hq]
        show s0.heap.size ≤ jw_ad s0.heap.size sp o
        rw [jw_ad_hi o1]; exact Nat.le_add_right _ _)) (by decide +kernel) hlocks)
    · rw [hv1] at hv9; cases hv9
  · obtain ⟨rfl, hv, hH1⟩ := hX
    rcases hr with ⟨v1, hv1, -⟩ | ⟨hv1, rfl, rfl⟩
    · rw [hv1] at hv; cases hv
    · refine vx_catch (own := "UmbrellaFlightLaw") (name := jl_nse) hown [] ⟨0, 9, 12, 13⟩ [] htab (fun _ h => nomatch h) (by decide) (by decide) (hgw _ jl_kL) (jl_stay hW0 (jl_at_ok _ jl_at_cast) (Cc.1 _ (jl_at_in _ jl_at_cast))) hce hcv hcl ?_
      refine lv_astore_n B.exec B.bytes (k := 3) (i := 3) (nL := 4) (lv := []) (by decide +kernel) rfl ⟨hE.1, hE.2.1, fun _ h => nomatch h⟩ (by decide) rfl (fun a2 h2 => ?_)
      refine lv_iconst B.exec B.bytes (n := 1) (v := 1) (by decide +kernel) (by decide) ?_
      rw [Nat.zero_add, Nat.zero_add]
      exact vx_ret (W.iret B.exec B.bytes hret (fun t ht _ => ⟨rfl, by rw [ht]; exact hH1⟩) hl1 (by decide +kernel) hlocks)
end LED
