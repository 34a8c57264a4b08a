/-! SOUNDNESS: a method -/
/-- what led throws: one cell, six slots -/
def jc_thr (x : jX) : Bool := match x.1 with
  | .new _ => Nat.beq x.2.2.2.2.1 0 || (Nat.beq x.2.2.1 1 && Nat.beq x.2.2.2.1 6)
  | _ => true
theorem jc_thr_ok : ((List.range (jt_nb jt_led)).all fun b => (jt_cd jt_led b).1.all jc_thr) = true := by decide +kernel
theorem jc_thr_all {j b : Nat} (hj : j = jt_led) (hb : b < jt_nb j) {x : jX} (hx : x ∈ (jt_cd j b).1) : jc_thr x = true := by
  subst hj
  exact List.all_eq_true.mp (List.all_eq_true.mp jc_thr_ok b (List.mem_range.mpr hb)) x hx
theorem jc_thr_use {cc : ByteArray} {pc len i : Nat} {x : jX} {M : jM} {r : jR} (hd : decode cc pc = .ok (x.1, len)) (hd' : decode cc pc = .ok (.new i, 3)) (h : jc_thr x = true) (hne : x.2.2.2.2.1 ≠ 0)
    (hr : some (some Value.null, (M.1, M.2.1, M.2.2.1, M.2.2.2.1, M.2.2.2.2.1, jm_n M + x.2.2.1, jm_w M + x.2.2.2.1)) = some r) : some (some Value.null, (M.1, M.2.1, M.2.2.1, M.2.2.2.1, M.2.2.2.2.1, jm_n M + 1, jm_w M + 6)) = some r := by
  obtain ⟨i', v, a1, a2, a3, a4⟩ := x
  dsimp only at hd hne hr
  rw [hd] at hd'
  have e := Except.ok.inj hd'
  have e1 : i' = .new i := congrArg Prod.fst e
  subst e1
  have h10 : (Nat.beq a3 0 || (Nat.beq a1 1 && Nat.beq a2 6)) = true := h
  rcases bor h10 with z | z
  · exact absurd (beq_n z) hne
  · obtain ⟨z1, z2⟩ := band z
    obtain rfl := beq_n z1
    obtain rfl := beq_n z2
    exact hr
section MET
variable {p : Program} {l : Launch} {e : Env} {R : Room} {s s0 : State} {m : MethodId} {args : Array Value} {below : List Frame} {meth : Method} {c : Code} {Q : State → Prop} {D : va_G} {cI cJ cB : ClassId} {sp : Nat → Nat} {L b0 : Nat} {xs : Nat → Int32} {n0 w0 j : Nat}
variable {M : jM} {ls : jL} {st : List Value} {pc : Nat} {r : jR} {Dn : Nat → List Value → jM → Option jR} {Jn : Nat → jL → List Value → jM → Option jR} {k : jL → List Value → jM → Option jR}
theorem jw_ex (Cc : jw_C s0 D cI cJ cB sp L b0 xs) (F : jw_F p s s0 m meth c j) {nx : Nat} (hrk : 10 ≤ jt_rk j) (hRf : jt_rk j ≤ R.frames) (hRl : 40 * jt_rk j ≤ R.locals) (hRc : jm_n r.2 - n0 ≤ R.cells) (hRs : jm_w r.2 - w0 ≤ R.slots)
    (hD : ∀ jj as M q, Dn jj as M = some q → jx_le M q ∧ (jj < jt_law → jj ≠ jt_led → jw_Met l s0 D cI cJ cB sp L xs jj as M q))
    (hJle : ∀ b ls st M, Jn b ls st M = some r → jx_le M r) (hJ : ∀ b ls st M, b < jt_nb j → Jn b ls st M = some r → n0 ≤ jm_n M → w0 ≤ jm_w M → jw_W p l e R s s0 m args below meth c Q D cI cJ cB sp L xs n0 w0 (jt_nl j) M ls st (jt_pc j b))
    (hled : ∀ (M : jM) (ls : jL) (st : List Value) (pc i : Nat) (o a : Nat) (pp : Int32) (q : jR), j = jt_law → Cond.methodLink (jt_on (jt_o j)) i yL_led ∈ jc_gw → decode (jt_cc j) pc = .ok (.invokestatic i, 3) → jm_k M a = 11 → jm_k M o = 21 → jx_cat st ≤ 8 → Dn jt_led [.ref a, .int pp] M = some q →
      n0 ≤ jm_n M → w0 ≤ jm_w M → jm_n q.2 - n0 ≤ R.cells → jm_w q.2 - w0 ≤ R.slots →
      ((∃ v, q.1 = some (.int v) ∧ jm_z q.2 o ≠ 0 ∧ jm_k q.2 o = 21 ∧ jw_W p l e R s s0 m args below meth c Q D cI cJ cB sp L xs n0 w0 (jt_nl j) (jm_sl q.2 o 0 v.toInt64) ls (.int 0 :: st) (pc + 3)) ∨ (q.1 = some .null ∧ jw_W p l e R s s0 m args below meth c Q D cI cJ cB sp L xs n0 w0 (jt_nl j) q.2 ls (.int 1 :: st) (pc + 3))) → jw_W p l e R s s0 m args below meth c Q D cI cJ cB sp L xs n0 w0 (jt_nl j) M ls (.ref o :: .int pp :: .ref a :: st) pc)
    (hthr : ∀ {M : jM} {ls : jL} {st : List Value} {pc i : Nat}, decode (jt_cc j) pc = .ok (.new i, 3) → j = jt_led → pc = jt_pc jt_led (jt_nb jt_led - 1) → jx_cat st = 0 → n0 ≤ jm_n M → w0 ≤ jm_w M → some (some Value.null, (M.1, M.2.1, M.2.2.1, M.2.2.2.1, M.2.2.2.2.1, jm_n M + 1, jm_w M + 6)) = some r → jw_W p l e R s s0 m args below meth c Q D cI cJ cB sp L xs n0 w0 (jt_nl j) M ls st pc)
    (hreti : ∀ {M : jM} {ls : jL} {pc : Nat} {v : Int32}, decode (jt_cc j) pc = .ok (.ireturn, 1) → (jt_ret j = some .int ∨ (jt_ret j = some .boolean ∧ (v = 0 ∨ v = 1))) → r = (some (.int v), M) → jw_W p l e R s s0 m args below meth c Q D cI cJ cB sp L xs n0 w0 (jt_nl j) M ls [.int v] pc)
    (hretl : ∀ {M : jM} {ls : jL} {pc : Nat} {v : Int64}, decode (jt_cc j) pc = .ok (.lreturn, 1) → jt_ret j = some .long → r = (some (.long v), M) → jw_W p l e R s s0 m args below meth c Q D cI cJ cB sp L xs n0 w0 (jt_nl j) M ls [.long v] pc)
    (hretv : ∀ {M : jM} {ls : jL} {pc : Nat}, decode (jt_cc j) pc = .ok (.return_, 1) → jt_ret j = none → r = (none, M) → jw_W p l e R s s0 m args below meth c Q D cI cJ cB sp L xs n0 w0 (jt_nl j) M ls [] pc) :
    ∀ (il : List jX) (pc : Nat) (ls : jL) (st : List Value) (M : jM), jc_L j pc il nx = true → (j = jt_led → ∀ x ∈ il, jc_thr x = true) → jx_ex jt_tx jt_sw Dn Jn nx il ls st M = some r → n0 ≤ jm_n M → w0 ≤ jm_w M → jw_W p l e R s s0 m args below meth c Q D cI cJ cB sp L xs n0 w0 (jt_nl j) M ls st pc := by
  intro il
  induction il with
  | nil =>
    intro pc ls st M hc hP h hn hw
    obtain ⟨h1, h2⟩ := band hc
    obtain rfl := beq_n h2
    exact hJ _ _ _ _ (blt_lt h1) h hn hw
  | cons x il ih =>
    intro pc ls st M hc hP h hn hw
    unfold jc_L at hc
    split at hc
    · rename_i i len hd
      obtain ⟨hc, h3⟩ := band hc
      obtain ⟨h1, h2⟩ := band hc
      rw [of_decide_eq_true h1] at hd
      refine jw_1 Cc F hd h2 h hrk hn hw hRf hRl hRc hRs hD (fun ls st M h => le_ex (fun j as M q h => (hD _ _ _ _ h).1) hJle il ls st M h) hJ (fun he ls st M hk hn hw => ?_) hled (fun {i'} hd' hj hp hne hst hr => hthr hd' hj hp hst hn hw (jc_thr_use hd hd' (hP hj x List.mem_cons_self) hne hr)) hreti hretl hretv
      refine ih (pc + len) ls st M ?_ (fun hj y hy => hP hj y (List.mem_cons_of_mem _ hy)) hk hn hw
      rcases bor h3 with z | z
      · rw [he] at z; cases z
      · exact z
    · cases hc
/-- blocks, by steps -/
theorem jw_blocks (Cc : jw_C s0 D cI cJ cB sp L b0 xs) (F : jw_F p s s0 m meth c j) (hj : j ≤ jt_law) (hrk : 10 ≤ jt_rk j) (hRf : jt_rk j ≤ R.frames) (hRl : 40 * jt_rk j ≤ R.locals) (hRc : jm_n r.2 - n0 ≤ R.cells) (hRs : jm_w r.2 - w0 ≤ R.slots) (N : Nat)
    (hD : ∀ n, n < N → ∀ jj as M q, jx_ck (Nat.beq (jx_en (jt_nl jj) as).length (jt_nl jj)) (jx_run jt_tx jt_sw jt_cd jt_nl n jj 0 (jx_en (jt_nl jj) as) [] M) = some q → jj < jt_law → jj ≠ jt_led → jw_Met l s0 D cI cJ cB sp L xs jj as M q)
    (hled : ∀ n, n < N → ∀ (M : jM) (ls : jL) (st : List Value) (pc i : Nat) (o a : Nat) (pp : Int32) (q : jR), j = jt_law → Cond.methodLink (jt_on (jt_o j)) i yL_led ∈ jc_gw → decode (jt_cc j) pc = .ok (.invokestatic i, 3) → jm_k M a = 11 → jm_k M o = 21 → jx_cat st ≤ 8 → jx_ck (Nat.beq (jx_en (jt_nl jt_led) [.ref a, .int pp]).length (jt_nl jt_led)) (jx_run jt_tx jt_sw jt_cd jt_nl n jt_led 0 (jx_en (jt_nl jt_led) [.ref a, .int pp]) [] M) = some q →
      n0 ≤ jm_n M → w0 ≤ jm_w M → jm_n q.2 - n0 ≤ R.cells → jm_w q.2 - w0 ≤ R.slots →
      ((∃ v, q.1 = some (.int v) ∧ jm_z q.2 o ≠ 0 ∧ jm_k q.2 o = 21 ∧ jw_W p l e R s s0 m args below meth c Q D cI cJ cB sp L xs n0 w0 (jt_nl j) (jm_sl q.2 o 0 v.toInt64) ls (.int 0 :: st) (pc + 3)) ∨ (q.1 = some .null ∧ jw_W p l e R s s0 m args below meth c Q D cI cJ cB sp L xs n0 w0 (jt_nl j) q.2 ls (.int 1 :: st) (pc + 3))) → jw_W p l e R s s0 m args below meth c Q D cI cJ cB sp L xs n0 w0 (jt_nl j) M ls (.ref o :: .int pp :: .ref a :: st) pc)
    (hthr : ∀ {M : jM} {ls : jL} {st : List Value} {pc i : Nat}, decode (jt_cc j) pc = .ok (.new i, 3) → j = jt_led → pc = jt_pc jt_led (jt_nb jt_led - 1) → jx_cat st = 0 → n0 ≤ jm_n M → w0 ≤ jm_w M → some (some Value.null, (M.1, M.2.1, M.2.2.1, M.2.2.2.1, M.2.2.2.2.1, jm_n M + 1, jm_w M + 6)) = some r → jw_W p l e R s s0 m args below meth c Q D cI cJ cB sp L xs n0 w0 (jt_nl j) M ls st pc)
    (hreti : ∀ {M : jM} {ls : jL} {pc : Nat} {v : Int32}, decode (jt_cc j) pc = .ok (.ireturn, 1) → (jt_ret j = some .int ∨ (jt_ret j = some .boolean ∧ (v = 0 ∨ v = 1))) → r = (some (.int v), M) → jw_W p l e R s s0 m args below meth c Q D cI cJ cB sp L xs n0 w0 (jt_nl j) M ls [.int v] pc)
    (hretl : ∀ {M : jM} {ls : jL} {pc : Nat} {v : Int64}, decode (jt_cc j) pc = .ok (.lreturn, 1) → jt_ret j = some .long → r = (some (.long v), M) → jw_W p l e R s s0 m args below meth c Q D cI cJ cB sp L xs n0 w0 (jt_nl j) M ls [.long v] pc)
    (hretv : ∀ {M : jM} {ls : jL} {pc : Nat}, decode (jt_cc j) pc = .ok (.return_, 1) → jt_ret j = none → r = (none, M) → jw_W p l e R s s0 m args below meth c Q D cI cJ cB sp L xs n0 w0 (jt_nl j) M ls [] pc) :
    ∀ n, n ≤ N → ∀ (b : Nat) (ls : jL) (st : List Value) (M : jM), b < jt_nb j → jx_run jt_tx jt_sw jt_cd jt_nl n j b ls st M = some r → n0 ≤ jm_n M → w0 ≤ jm_w M → jw_W p l e R s s0 m args below meth c Q D cI cJ cB sp L xs n0 w0 (jt_nl j) M ls st (jt_pc j b) := by
  intro n
  induction n with
  | zero => intro _ b ls st M _ h; cases h
  | succ n ih =>
    intro hN b ls st M hb h hn hw
    have hblk := (jc_J_ok j (Nat.lt_succ_of_le hj)).2.2 b hb
    refine jw_ex Cc F hrk hRf hRl hRc hRs (Dn := fun j' as M' => jx_ck (Nat.beq (jx_en (jt_nl j') as).length (jt_nl j')) (jx_run jt_tx jt_sw jt_cd jt_nl n j' 0 (jx_en (jt_nl j') as) [] M')) (Jn := fun b' ls' st' M' => jx_run jt_tx jt_sw jt_cd jt_nl n j b' (jx_mk (jt_cd j b').2.2.2 ls') st' M')
      (fun jj as M q hq => ⟨le_run _ _ _ _ _ _ _ (ck_some hq).2, hD n (by omega) jj as M q hq⟩) (fun b ls st M h => le_run _ _ _ _ _ _ _ h) (fun b ls st M hb h hn hw => ?_) (hled n (by omega)) hthr hreti hretl hretv _ _ ls st M (band hblk).1 (fun hj x hx => jc_thr_all hj hb hx) h hn hw
    exact fun H locs a hH hL hl => ih (by omega) b _ st M hb h hn hw H locs a hH (jw_mask hL _) hl
end MET
theorem jc_rk_ok : jt_rks.all (fun k => Nat.ble 10 k) = true := by decide +kernel
theorem jc_rk_len : jt_rks.length = jt_law + 1 := by decide +kernel
theorem jc_rk_ge {j : Nat} (h : j ≤ jt_law) : 10 ≤ jt_rk j := by
  have hlt : j < jt_rks.length := by rw [jc_rk_len]; omega
  unfold jt_rk
  rw [List.getD_eq_getElem?_getD, List.getElem?_eq_getElem hlt]
  exact Nat.le_of_ble_eq_true (List.all_eq_true.mp jc_rk_ok _ (List.getElem_mem hlt))
theorem jc_plain_ok : (jt_ys.take jt_law).all (fun y => plainName y.cls) = true := by decide +kernel
theorem jc_ys_len : jt_ys.length = jt_law + 1 := by decide +kernel
theorem jc_plain {j : Nat} (h : j < jt_law) : plainName (jt_y j).cls = true := by
  have hlt : j < jt_ys.length := by rw [jc_ys_len]; omega
  unfold jt_y
  rw [List.getD_eq_getElem?_getD, List.getElem?_eq_getElem hlt]
  exact List.all_eq_true.mp jc_plain_ok _ (List.mem_of_getElem? (i := j) (by rw [List.getElem?_take, if_pos h, List.getElem?_eq_getElem hlt]; rfl))
/-- EVERY METHOD, but led and the law -/
theorem jw_meths {l : Launch} {s0 : State} {D : va_G} {cI cJ cB : ClassId} {sp : Nat → Nat} {L b0 : Nat} {xs : Nat → Int32} (Cc : jw_C s0 D cI cJ cB sp L b0 xs) : ∀ (N n : Nat), n < N → ∀ (jj : Nat) (as : List Value) (M : jM) (q : jR),
    jx_ck (Nat.beq (jx_en (jt_nl jj) as).length (jt_nl jj)) (jx_run jt_tx jt_sw jt_cd jt_nl n jj 0 (jx_en (jt_nl jj) as) [] M) = some q → jj < jt_law → jj ≠ jt_led → jw_Met l s0 D cI cJ cB sp L xs jj as M q := by
  intro N
  induction N with
  | zero => intro n hn; omega
  | succ N ih =>
    intro n hn jj as M q hq hjj hled
    obtain ⟨hlen, hq⟩ := ck_some hq
    have hlen := beq_n hlen
    obtain ⟨-, -, -, hon, -⟩ := jc_M_spec hjj
    refine Met.ofW (cc := jt_cc jj) (maxL := jt_nl jj) (ret := jt_ret jj) (jc_plain hjj) rfl ?_
    intro p e s m args below meth c s₁ B hml hP
    obtain ⟨rfl, hH, hW0⟩ := hP
    have F : jw_F p s s0 m meth c jj := ⟨B.exec, B.bytes, hml, by rw [hon]; exact findClass_of_methodNamed B.named, hW0, fun h => (name_of_methodNamed B.named B.method).1.trans h⟩
    have hJ := jc_J_ok jj (Nat.lt_succ_of_lt hjj)
    have hle := le_run _ _ _ _ _ _ _ hq
    have hlocks := B.notSynchronized
    have hr := B.returns
    have key := jw_blocks (p := p) (l := l) (e := e) (R := jw_rm jj M q) (args := (as.map (jw_v (jw_ad s0.heap.size sp))).toArray) (below := below) (r := q) (n0 := jm_n M) (w0 := jm_w M)
      (Q := MQ below (jw_Qc s0 D cI cJ cB sp L xs q) (as.map (jw_v (jw_ad s0.heap.size sp))).toArray s (jm_n q.2 - jm_n M) (jm_w q.2 - jm_w M) (fun a => s0.heap.size ≤ a)) Cc F (Nat.le_of_lt hjj) (jc_rk_ge (Nat.le_of_lt hjj)) (Nat.le_refl _) (Nat.le_refl _) (Nat.le_refl _) (Nat.le_refl _) N ih
      (fun n _ _ _ _ _ _ _ _ _ _ hz => absurd hz (Nat.ne_of_lt hjj)) (fun _ hz => absurd hz hled)
      (fun {M' ls pc v} hd hret hqe => fun H locs ar hH hL hl => by
        subst hqe
        rcases hret with hret | ⟨hret, hv⟩
        · exact W.iret F.1 F.2.1 (hr.trans hret) (fun t ht _ => ⟨rfl, by rw [ht]; exact hH⟩) hl hd hlocks
        · exact W.zret F.1 F.2.1 (hr.trans hret) (by rcases hv with rfl | rfl <;> rfl) (fun t ht _ => ⟨rfl, by rw [ht]; exact hH⟩) hl hd hlocks)
      (fun {M' ls pc v} hd hret hqe => fun H locs ar hH hL hl => by
        subst hqe
        exact W.lret F.1 F.2.1 (hr.trans hret) (fun t ht _ => ⟨rfl, by rw [ht]; exact hH⟩) hl hd hlocks)
      (fun {M' ls pc} hd hret hqe => fun H locs ar hH hL hl => by
        subst hqe
        exact W.vret F.1 F.2.1 (hr.trans hret) (fun t ht _ => ⟨rfl, by rw [ht]; exact hH⟩) hl hd hlocks)
      n (by omega) 0 _ [] M hJ.1 hq (Nat.le_refl _) (Nat.le_refl _) s.heap [] _ hH (jw_entry hlen) (fun _ h => nomatch h)
    rw [lg_entry_eq]
    rw [hJ.2.1, Nat.sub_self, Nat.sub_self] at key
    exact key
