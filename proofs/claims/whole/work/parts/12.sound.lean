/-! SOUNDNESS: an instruction, a block, a method -/
section SND
variable {p : Program} {l : Launch} {e : Env} {R : Room} {s s0 : State} {m : MethodId} {args : Array Value} {below : List Frame} {meth : Method} {c : Code} {Q : State → Prop} {D : va_G} {cI cJ cB : ClassId} {sp : Nat → Nat} {L b0 : Nat} {xs : Nat → Int32} {n0 w0 j : Nat}
variable {M : jM} {ls : jL} {st : List Value} {pc : Nat} {r : jR} {Dn : Nat → List Value → jM → Option jR} {Jn : Nat → jL → List Value → jM → Option jR} {k : jL → List Value → jM → Option jR}
set_option maxHeartbeats 4000000 in
theorem jw_call0 (Cc : jw_C s0 D cI cJ cB sp L b0 xs) (F : jw_F p s s0 m meth c j) {i : Nat} {x : jX} (hd : decode (jt_cc j) pc = .ok (.invokevirtual i, 3)) (hX : jc_call j 0 i x = true) (h : jx_call jt_tx Dn x ls st M k = some r) (hrk : 10 ≤ jt_rk j) (hn : n0 ≤ jm_n M) (hw : w0 ≤ jm_w M) (hRf : jt_rk j ≤ R.frames) (hRl : 40 * jt_rk j ≤ R.locals) (hRc : jm_n r.2 - n0 ≤ R.cells) (hRs : jm_w r.2 - w0 ≤ R.slots)
    (hD : ∀ jj as M q, Dn jj as M = some q → jx_le M q ∧ (jj < jt_law → jj ≠ jt_led → jw_Met l s0 D cI cJ cB sp L xs jj as M q))
    (hkle : ∀ ls st M, k ls st M = some r → jx_le M r) (hk : ∀ ls st M, k ls st M = some r → n0 ≤ jm_n M → w0 ≤ jm_w M → jw_W p l e R s s0 m args below meth c Q D cI cJ cB sp L xs n0 w0 (jt_nl j) M ls st (pc + 3)) : jw_W p l e R s s0 m args below meth c Q D cI cJ cB sp L xs n0 w0 (jt_nl j) M ls st pc := by
  obtain ⟨ii, v, a1, a2, a3, a4⟩ := x
  have hgen : ∀ q : jR, a2 ≤ st.length → jx_cat (st.drop a2) ≤ 8 → (a4 = 0 ∨ ∃ c a t, a4 = c + 1 ∧ (st.take a2).reverse = .ref a :: t ∧ jm_k M a = c + 1) → Dn a1 (st.take a2).reverse M = some q → k ls (q.1.toList ++ st.drop a2) q.2 = some r →
      (match jc_find (jt_o j) i with
    | some (_, tag, a, _, _) => (Nat.beq tag 3 || Nat.beq tag 4) && decide (jt_y a = jt_y a1) && Nat.blt a1 jt_law && Nat.blt (jt_rk a1) (jt_rk j) && Nat.beq a2 (jt_na a1) && !(Nat.beq a1 jt_led) &&
      (match (0 : Nat) with
        | 0 => jc_inst a1 && Nat.blt 0 a4 && Nat.blt 0 a2 && decide (jc_C (a4 - 1) = (jt_y a1).cls) && Nat.ble a4 vwCl.length && decide ((jt_y a1).name ≠ "<init>")
        | 1 => jc_inst a1 && Nat.blt 0 a4 && Nat.blt 0 a2 && decide ((jt_y a1).name = "<init>") && decide (jt_ret a1 = none)
        | _ => !jc_inst a1 && Nat.beq a4 0)
    | none => false) = true → jw_W p l e R s s0 m args below meth c Q D cI cJ cB sp L xs n0 w0 (jt_nl j) M ls st pc := by
    intro q hlen hcat hrc hDq hkq hm
    split at hm
    · rename_i i' tag ja jb jw hf
      obtain ⟨hm, hmm⟩ := band hm
      obtain ⟨hm, m6⟩ := band hm
      obtain ⟨hm, m5⟩ := band hm
      obtain ⟨hm, m4⟩ := band hm
      obtain ⟨hm, m3⟩ := band hm
      obtain ⟨m1, m2⟩ := band hm
      have ey : jt_y ja = jt_y a1 := of_decide_eq_true m2
      have hna : a2 = jt_na a1 := beq_n m5
      have hne : a1 ≠ jt_led := fun z => by rw [z] at m6; simp at m6
      obtain ⟨d1, d2⟩ := hD _ _ _ _ hDq
      have d2 := d2 (blt_lt m3) hne
      have hle := hkle _ _ _ hkq
      have hkk := hk _ _ _ hkq (Nat.le_trans hn d1.1) (Nat.le_trans hw d1.2)
      obtain ⟨rfl, hs⟩ := jc_find_spec hf
      have hlink : Cond.methodLink (jt_on (jt_o j)) i' (jt_y a1) ∈ jc_gw ∨ ∃ host, Cond.methodLinkNest (jt_on (jt_o j)) i' (jt_y a1) host ∈ jc_gw := by
        rw [← ey]
        rcases bor m1 with z | z
        · obtain rfl := beq_n z
          rcases hs with ⟨y, -⟩ | hs
          · cases y
          · exact Or.inl hs
        · obtain rfl := beq_n z
          rcases hs with ⟨y, -⟩ | hs
          · cases y
          · exact Or.inr ⟨_, hs⟩
      have est := jx_stk hlen
      have hlen2 : (st.take a2).reverse.length = a2 := by rw [List.length_reverse, List.length_take]; omega
      obtain ⟨hmm, n6⟩ := band hmm
      obtain ⟨hmm, n5⟩ := band hmm
      obtain ⟨hmm, n4⟩ := band hmm
      obtain ⟨hmm, n3⟩ := band hmm
      obtain ⟨n1, n2⟩ := band hmm
      have hp4 := blt_lt n2
      rcases hrc with z | ⟨cc, a, t, z1, z2, z3⟩
      · omega
      have hcc : a4 - 1 = cc := by omega
      have e4 : jc_C (a4 - 1) = (jt_y a1).cls := of_decide_eq_true n4
      rw [hcc] at e4
      have hcl : cc < vwCl.length := by have := Nat.le_of_ble_eq_true n5; omega
      rw [z2] at est hlen2 d2
      rw [← est, List.reverse_cons, List.append_assoc]
      have hl1 : t.length + 1 = jt_na a1 := by rw [← hna]; exact hlen2
      rcases hlink with hlink | ⟨host, hlink⟩
      · exact js_callV Cc F (blt_lt m3) n1 (of_decide_eq_true n6) hcl e4 z3 hl1 hlink d2 (blt_lt m4) hRf hRl hn hw d1.1 d1.2 (Nat.le_trans (Nat.sub_le_sub_right hle.1 _) hRc) (Nat.le_trans (Nat.sub_le_sub_right hle.2 _) hRs) hcat hd hkk
      · exact js_callVN Cc F (blt_lt m3) n1 (of_decide_eq_true n6) hcl e4 z3 hl1 hlink d2 (blt_lt m4) hRf hRl hn hw d1.1 d1.2 (Nat.le_trans (Nat.sub_le_sub_right hle.1 _) hRc) (Nat.le_trans (Nat.sub_le_sub_right hle.2 _) hRs) hcat hd hkk
    · cases hm
  unfold jx_call at h
  unfold jc_call at hX
  dsimp only at h hX
  split at h
  · skip
    obtain ⟨z1, h0⟩ := ck_some h
    clear h
    have h := h0
    clear h0
    obtain ⟨z2, h0⟩ := ck_some h
    clear h
    have h := h0
    clear h0
    obtain ⟨h, z3⟩ := rc_some h
    obtain ⟨M', h1, h2⟩ := rv_some h
    exact hgen _ (Nat.le_of_ble_eq_true z1) (Nat.le_of_ble_eq_true z2) z3 h1 h2 hX
  · skip
    obtain ⟨z1, h0⟩ := ck_some h
    clear h
    have h := h0
    clear h0
    obtain ⟨z2, h0⟩ := ck_some h
    clear h
    have h := h0
    clear h0
    obtain ⟨h, z3⟩ := rc_some h
    obtain ⟨x, M', h1, h2⟩ := ri_some h
    exact hgen _ (Nat.le_of_ble_eq_true z1) (Nat.le_of_ble_eq_true z2) z3 h1 h2 hX
  · skip
    obtain ⟨z1, h0⟩ := ck_some h
    clear h
    have h := h0
    clear h0
    obtain ⟨z2, h0⟩ := ck_some h
    clear h
    have h := h0
    clear h0
    obtain ⟨h, z3⟩ := rc_some h
    obtain ⟨x, M', h1, h2⟩ := rl_some h
    exact hgen _ (Nat.le_of_ble_eq_true z1) (Nat.le_of_ble_eq_true z2) z3 h1 h2 hX
  · exact absurd (beq_n (band hX).1) (by decide)
  · exact absurd (beq_n (band hX).1) (by decide)
  · exact absurd (beq_n (band hX).1) (by decide)
  · exact absurd (beq_n (band hX).1) (by decide)
  · obtain ⟨-, hX⟩ := band hX
    split at hX
    · rename_i i' ja jb jw hf
      obtain ⟨rfl, hs⟩ := jc_find_spec hf
      rcases hs with ⟨z, -⟩ | hs
      · cases z
      obtain ⟨x, s', hq0, h0⟩ := pr_some h
      clear h
      subst hq0
      have h := h0
      clear h0
      obtain ⟨z2, h0⟩ := ck_some h
      clear h
      have h := h0
      clear h0
      obtain ⟨hka, h0⟩ := if_yes h
      clear h
      have h := h0
      clear h0
      have hle := hkle _ _ _ h
      exact js_strlen Cc F hrk hs hka (Nat.le_of_ble_eq_true z2) hRf hRl (Nat.le_trans (Nat.sub_le_sub_right hle.1 _) hRc) (Nat.le_trans (Nat.sub_le_sub_right hle.2 _) hRs) hd (hk _ _ _ h hn hw)
    · cases hX
  · obtain ⟨-, hX⟩ := band hX
    split at hX
    · rename_i i' ja jb jw hf
      obtain ⟨rfl, hs⟩ := jc_find_spec hf
      rcases hs with ⟨z, -⟩ | hs
      · cases z
      obtain ⟨y, s', hq0, h0⟩ := pi_some h
      clear h
      subst hq0
      have h := h0
      clear h0
      obtain ⟨x, s', hq0, h0⟩ := pr_some h
      clear h
      subst hq0
      have h := h0
      clear h0
      obtain ⟨z2, h0⟩ := ck_some h
      clear h
      have h := h0
      clear h0
      obtain ⟨hka, h0⟩ := if_yes h
      clear h
      have h := h0
      clear h0
      obtain ⟨hi, h0⟩ := if_no h
      clear h
      have h := h0
      clear h0
      have hle := hkle _ _ _ h
      exact js_charAt Cc F hrk hs hka hi (Nat.le_of_ble_eq_true z2) hRf hRl (Nat.le_trans (Nat.sub_le_sub_right hle.1 _) hRc) (Nat.le_trans (Nat.sub_le_sub_right hle.2 _) hRs) hd (hk _ _ _ h hn hw)
    · cases hX
  · exact absurd (beq_n (band (band (band (band hX).1).1).1).1) (by decide)
  · cases h

set_option maxHeartbeats 4000000 in
theorem jw_call1 (Cc : jw_C s0 D cI cJ cB sp L b0 xs) (F : jw_F p s s0 m meth c j) {i : Nat} {x : jX} (hd : decode (jt_cc j) pc = .ok (.invokespecial i, 3)) (hX : jc_call j 1 i x = true) (h : jx_call jt_tx Dn x ls st M k = some r) (hrk : 10 ≤ jt_rk j) (hn : n0 ≤ jm_n M) (hw : w0 ≤ jm_w M) (hRf : jt_rk j ≤ R.frames) (hRl : 40 * jt_rk j ≤ R.locals) (hRc : jm_n r.2 - n0 ≤ R.cells) (hRs : jm_w r.2 - w0 ≤ R.slots)
    (hD : ∀ jj as M q, Dn jj as M = some q → jx_le M q ∧ (jj < jt_law → jj ≠ jt_led → jw_Met l s0 D cI cJ cB sp L xs jj as M q))
    (hkle : ∀ ls st M, k ls st M = some r → jx_le M r) (hk : ∀ ls st M, k ls st M = some r → n0 ≤ jm_n M → w0 ≤ jm_w M → jw_W p l e R s s0 m args below meth c Q D cI cJ cB sp L xs n0 w0 (jt_nl j) M ls st (pc + 3)) : jw_W p l e R s s0 m args below meth c Q D cI cJ cB sp L xs n0 w0 (jt_nl j) M ls st pc := by
  obtain ⟨ii, v, a1, a2, a3, a4⟩ := x
  have hgen : ∀ q : jR, a2 ≤ st.length → jx_cat (st.drop a2) ≤ 8 → (a4 = 0 ∨ ∃ c a t, a4 = c + 1 ∧ (st.take a2).reverse = .ref a :: t ∧ jm_k M a = c + 1) → Dn a1 (st.take a2).reverse M = some q → k ls (q.1.toList ++ st.drop a2) q.2 = some r →
      (match jc_find (jt_o j) i with
    | some (_, tag, a, _, _) => (Nat.beq tag 3 || Nat.beq tag 4) && decide (jt_y a = jt_y a1) && Nat.blt a1 jt_law && Nat.blt (jt_rk a1) (jt_rk j) && Nat.beq a2 (jt_na a1) && !(Nat.beq a1 jt_led) &&
      (match (1 : Nat) with
        | 0 => jc_inst a1 && Nat.blt 0 a4 && Nat.blt 0 a2 && decide (jc_C (a4 - 1) = (jt_y a1).cls) && Nat.ble a4 vwCl.length && decide ((jt_y a1).name ≠ "<init>")
        | 1 => jc_inst a1 && Nat.blt 0 a4 && Nat.blt 0 a2 && decide ((jt_y a1).name = "<init>") && decide (jt_ret a1 = none)
        | _ => !jc_inst a1 && Nat.beq a4 0)
    | none => false) = true → jw_W p l e R s s0 m args below meth c Q D cI cJ cB sp L xs n0 w0 (jt_nl j) M ls st pc := by
    intro q hlen hcat hrc hDq hkq hm
    split at hm
    · rename_i i' tag ja jb jw hf
      obtain ⟨hm, hmm⟩ := band hm
      obtain ⟨hm, m6⟩ := band hm
      obtain ⟨hm, m5⟩ := band hm
      obtain ⟨hm, m4⟩ := band hm
      obtain ⟨hm, m3⟩ := band hm
      obtain ⟨m1, m2⟩ := band hm
      have ey : jt_y ja = jt_y a1 := of_decide_eq_true m2
      have hna : a2 = jt_na a1 := beq_n m5
      have hne : a1 ≠ jt_led := fun z => by rw [z] at m6; simp at m6
      obtain ⟨d1, d2⟩ := hD _ _ _ _ hDq
      have d2 := d2 (blt_lt m3) hne
      have hle := hkle _ _ _ hkq
      have hkk := hk _ _ _ hkq (Nat.le_trans hn d1.1) (Nat.le_trans hw d1.2)
      obtain ⟨rfl, hs⟩ := jc_find_spec hf
      have hlink : Cond.methodLink (jt_on (jt_o j)) i' (jt_y a1) ∈ jc_gw ∨ ∃ host, Cond.methodLinkNest (jt_on (jt_o j)) i' (jt_y a1) host ∈ jc_gw := by
        rw [← ey]
        rcases bor m1 with z | z
        · obtain rfl := beq_n z
          rcases hs with ⟨y, -⟩ | hs
          · cases y
          · exact Or.inl hs
        · obtain rfl := beq_n z
          rcases hs with ⟨y, -⟩ | hs
          · cases y
          · exact Or.inr ⟨_, hs⟩
      have est := jx_stk hlen
      have hlen2 : (st.take a2).reverse.length = a2 := by rw [List.length_reverse, List.length_take]; omega
      obtain ⟨hmm, n5⟩ := band hmm
      obtain ⟨hmm, n4⟩ := band hmm
      obtain ⟨hmm, n3⟩ := band hmm
      obtain ⟨n1, n2⟩ := band hmm
      have hp4 := blt_lt n2
      rcases hrc with z | ⟨cc, a, t, z1, z2, z3⟩
      · omega
      rw [z2] at est hlen2 d2
      rw [← est, List.reverse_cons, List.append_assoc]
      have hl1 : t.length + 1 = jt_na a1 := by rw [← hna]; exact hlen2
      exact js_callI Cc F (blt_lt m3) n1 (of_decide_eq_true n4) (of_decide_eq_true n5) hl1 hlink d2 (blt_lt m4) hRf hRl hn hw d1.1 d1.2 (Nat.le_trans (Nat.sub_le_sub_right hle.1 _) hRc) (Nat.le_trans (Nat.sub_le_sub_right hle.2 _) hRs) hcat hd hkk
    · cases hm
  unfold jx_call at h
  unfold jc_call at hX
  dsimp only at h hX
  split at h
  · skip
    obtain ⟨z1, h0⟩ := ck_some h
    clear h
    have h := h0
    clear h0
    obtain ⟨z2, h0⟩ := ck_some h
    clear h
    have h := h0
    clear h0
    obtain ⟨h, z3⟩ := rc_some h
    obtain ⟨M', h1, h2⟩ := rv_some h
    exact hgen _ (Nat.le_of_ble_eq_true z1) (Nat.le_of_ble_eq_true z2) z3 h1 h2 hX
  · skip
    obtain ⟨z1, h0⟩ := ck_some h
    clear h
    have h := h0
    clear h0
    obtain ⟨z2, h0⟩ := ck_some h
    clear h
    have h := h0
    clear h0
    obtain ⟨h, z3⟩ := rc_some h
    obtain ⟨x, M', h1, h2⟩ := ri_some h
    exact hgen _ (Nat.le_of_ble_eq_true z1) (Nat.le_of_ble_eq_true z2) z3 h1 h2 hX
  · skip
    obtain ⟨z1, h0⟩ := ck_some h
    clear h
    have h := h0
    clear h0
    obtain ⟨z2, h0⟩ := ck_some h
    clear h
    have h := h0
    clear h0
    obtain ⟨h, z3⟩ := rc_some h
    obtain ⟨x, M', h1, h2⟩ := rl_some h
    exact hgen _ (Nat.le_of_ble_eq_true z1) (Nat.le_of_ble_eq_true z2) z3 h1 h2 hX
  · obtain ⟨-, hX⟩ := band hX
    split at hX
    · rename_i i' ja jb jw hf
      obtain ⟨rfl, hs⟩ := jc_find_spec hf
      rcases hs with ⟨z, -⟩ | hs
      · cases z
      obtain ⟨x, s', hq0, h0⟩ := pr_some h
      clear h
      subst hq0
      have h := h0
      clear h0
      obtain ⟨z2, h0⟩ := ck_some h
      clear h
      have h := h0
      clear h0
      exact js_objInit Cc F hrk hs (Nat.le_of_ble_eq_true z2) hRf hRl hd (hk _ _ _ h hn hw)
    · cases hX
  · exact absurd (beq_n (band hX).1) (by decide)
  · exact absurd (beq_n (band hX).1) (by decide)
  · exact absurd (beq_n (band hX).1) (by decide)
  · exact absurd (beq_n (band hX).1) (by decide)
  · exact absurd (beq_n (band hX).1) (by decide)
  · exact absurd (beq_n (band (band (band (band hX).1).1).1).1) (by decide)
  · cases h

set_option maxHeartbeats 4000000 in
theorem jw_call2 (Cc : jw_C s0 D cI cJ cB sp L b0 xs) (F : jw_F p s s0 m meth c j) {i : Nat} {x : jX} (hd : decode (jt_cc j) pc = .ok (.invokestatic i, 3)) (hX : jc_call j 2 i x = true) (h : jx_call jt_tx Dn x ls st M k = some r) (hrk : 10 ≤ jt_rk j) (hn : n0 ≤ jm_n M) (hw : w0 ≤ jm_w M) (hRf : jt_rk j ≤ R.frames) (hRl : 40 * jt_rk j ≤ R.locals) (hRc : jm_n r.2 - n0 ≤ R.cells) (hRs : jm_w r.2 - w0 ≤ R.slots)
    (hD : ∀ jj as M q, Dn jj as M = some q → jx_le M q ∧ (jj < jt_law → jj ≠ jt_led → jw_Met l s0 D cI cJ cB sp L xs jj as M q))
    (hkle : ∀ ls st M, k ls st M = some r → jx_le M r) (hk : ∀ ls st M, k ls st M = some r → n0 ≤ jm_n M → w0 ≤ jm_w M → jw_W p l e R s s0 m args below meth c Q D cI cJ cB sp L xs n0 w0 (jt_nl j) M ls st (pc + 3))
    (hled : ∀ (M : jM) (ls : jL) (st : List Value) (pc i : Nat) (o a : Nat) (pp : Int32) (q : jR), j = jt_law → Cond.methodLink (jt_on (jt_o j)) i yL_led ∈ jc_gw → decode (jt_cc j) pc = .ok (.invokestatic i, 3) → jm_k M a = 11 → jm_k M o = 21 → jx_cat st ≤ 8 → Dn jt_led [.ref a, .int pp] M = some q →
      n0 ≤ jm_n M → w0 ≤ jm_w M → jm_n q.2 - n0 ≤ R.cells → jm_w q.2 - w0 ≤ R.slots →
      ((∃ v, q.1 = some (.int v) ∧ jm_z q.2 o ≠ 0 ∧ jm_k q.2 o = 21 ∧ jw_W p l e R s s0 m args below meth c Q D cI cJ cB sp L xs n0 w0 (jt_nl j) (jm_sl q.2 o 0 v.toInt64) ls (.int 0 :: st) (pc + 3)) ∨ (q.1 = some .null ∧ jw_W p l e R s s0 m args below meth c Q D cI cJ cB sp L xs n0 w0 (jt_nl j) q.2 ls (.int 1 :: st) (pc + 3))) → jw_W p l e R s s0 m args below meth c Q D cI cJ cB sp L xs n0 w0 (jt_nl j) M ls (.ref o :: .int pp :: .ref a :: st) pc) : jw_W p l e R s s0 m args below meth c Q D cI cJ cB sp L xs n0 w0 (jt_nl j) M ls st pc := by
  obtain ⟨ii, v, a1, a2, a3, a4⟩ := x
  have hgen : ∀ q : jR, a2 ≤ st.length → jx_cat (st.drop a2) ≤ 8 → (a4 = 0 ∨ ∃ c a t, a4 = c + 1 ∧ (st.take a2).reverse = .ref a :: t ∧ jm_k M a = c + 1) → Dn a1 (st.take a2).reverse M = some q → k ls (q.1.toList ++ st.drop a2) q.2 = some r →
      (match jc_find (jt_o j) i with
    | some (_, tag, a, _, _) => (Nat.beq tag 3 || Nat.beq tag 4) && decide (jt_y a = jt_y a1) && Nat.blt a1 jt_law && Nat.blt (jt_rk a1) (jt_rk j) && Nat.beq a2 (jt_na a1) && !(Nat.beq a1 jt_led) &&
      (match (2 : Nat) with
        | 0 => jc_inst a1 && Nat.blt 0 a4 && Nat.blt 0 a2 && decide (jc_C (a4 - 1) = (jt_y a1).cls) && Nat.ble a4 vwCl.length && decide ((jt_y a1).name ≠ "<init>")
        | 1 => jc_inst a1 && Nat.blt 0 a4 && Nat.blt 0 a2 && decide ((jt_y a1).name = "<init>") && decide (jt_ret a1 = none)
        | _ => !jc_inst a1 && Nat.beq a4 0)
    | none => false) = true → jw_W p l e R s s0 m args below meth c Q D cI cJ cB sp L xs n0 w0 (jt_nl j) M ls st pc := by
    intro q hlen hcat hrc hDq hkq hm
    split at hm
    · rename_i i' tag ja jb jw hf
      obtain ⟨hm, hmm⟩ := band hm
      obtain ⟨hm, m6⟩ := band hm
      obtain ⟨hm, m5⟩ := band hm
      obtain ⟨hm, m4⟩ := band hm
      obtain ⟨hm, m3⟩ := band hm
      obtain ⟨m1, m2⟩ := band hm
      have ey : jt_y ja = jt_y a1 := of_decide_eq_true m2
      have hna : a2 = jt_na a1 := beq_n m5
      have hne : a1 ≠ jt_led := fun z => by rw [z] at m6; simp at m6
      obtain ⟨d1, d2⟩ := hD _ _ _ _ hDq
      have d2 := d2 (blt_lt m3) hne
      have hle := hkle _ _ _ hkq
      have hkk := hk _ _ _ hkq (Nat.le_trans hn d1.1) (Nat.le_trans hw d1.2)
      obtain ⟨rfl, hs⟩ := jc_find_spec hf
      have hlink : Cond.methodLink (jt_on (jt_o j)) i' (jt_y a1) ∈ jc_gw ∨ ∃ host, Cond.methodLinkNest (jt_on (jt_o j)) i' (jt_y a1) host ∈ jc_gw := by
        rw [← ey]
        rcases bor m1 with z | z
        · obtain rfl := beq_n z
          rcases hs with ⟨y, -⟩ | hs
          · cases y
          · exact Or.inl hs
        · obtain rfl := beq_n z
          rcases hs with ⟨y, -⟩ | hs
          · cases y
          · exact Or.inr ⟨_, hs⟩
      have est := jx_stk hlen
      have hlen2 : (st.take a2).reverse.length = a2 := by rw [List.length_reverse, List.length_take]; omega
      obtain ⟨n1, n2⟩ := band hmm
      rw [← est]
      have hl1 : (st.take a2).reverse.length = jt_na a1 := by rw [← hna]; exact hlen2
      have n1' : jc_inst a1 = false := by simpa using n1
      exact js_callS Cc F (blt_lt m3) n1' hl1 hlink d2 (blt_lt m4) hRf hRl hn hw d1.1 d1.2 (Nat.le_trans (Nat.sub_le_sub_right hle.1 _) hRc) (Nat.le_trans (Nat.sub_le_sub_right hle.2 _) hRs) hcat hd hkk
    · cases hm
  unfold jx_call at h
  unfold jc_call at hX
  dsimp only at h hX
  split at h
  · skip
    obtain ⟨z1, h0⟩ := ck_some h
    clear h
    have h := h0
    clear h0
    obtain ⟨z2, h0⟩ := ck_some h
    clear h
    have h := h0
    clear h0
    obtain ⟨h, z3⟩ := rc_some h
    obtain ⟨M', h1, h2⟩ := rv_some h
    exact hgen _ (Nat.le_of_ble_eq_true z1) (Nat.le_of_ble_eq_true z2) z3 h1 h2 hX
  · skip
    obtain ⟨z1, h0⟩ := ck_some h
    clear h
    have h := h0
    clear h0
    obtain ⟨z2, h0⟩ := ck_some h
    clear h
    have h := h0
    clear h0
    obtain ⟨h, z3⟩ := rc_some h
    obtain ⟨x, M', h1, h2⟩ := ri_some h
    exact hgen _ (Nat.le_of_ble_eq_true z1) (Nat.le_of_ble_eq_true z2) z3 h1 h2 hX
  · skip
    obtain ⟨z1, h0⟩ := ck_some h
    clear h
    have h := h0
    clear h0
    obtain ⟨z2, h0⟩ := ck_some h
    clear h
    have h := h0
    clear h0
    obtain ⟨h, z3⟩ := rc_some h
    obtain ⟨x, M', h1, h2⟩ := rl_some h
    exact hgen _ (Nat.le_of_ble_eq_true z1) (Nat.le_of_ble_eq_true z2) z3 h1 h2 hX
  · exact absurd (beq_n (band hX).1) (by decide)
  · obtain ⟨-, hX⟩ := band hX
    split at hX
    · rename_i i' ja jb jw hf
      obtain ⟨rfl, hs⟩ := jc_find_spec hf
      rcases hs with ⟨z, -⟩ | hs
      · cases z
      obtain ⟨y, s', hq0, h0⟩ := pi_some h
      clear h
      subst hq0
      have h := h0
      clear h0
      obtain ⟨x, s', hq0, h0⟩ := pi_some h
      clear h
      subst hq0
      have h := h0
      clear h0
      obtain ⟨z2, h0⟩ := ck_some h
      clear h
      have h := h0
      clear h0
      have hle := hkle _ _ _ h
      exact js_mmax Cc F hrk hs (Nat.le_of_ble_eq_true z2) hRf hRl (Nat.le_trans (Nat.sub_le_sub_right hle.1 _) hRc) (Nat.le_trans (Nat.sub_le_sub_right hle.2 _) hRs) hd (hk _ _ _ h hn hw)
    · cases hX
  · obtain ⟨-, hX⟩ := band hX
    split at hX
    · rename_i i' ja jb jw hf
      obtain ⟨rfl, hs⟩ := jc_find_spec hf
      rcases hs with ⟨z, -⟩ | hs
      · cases z
      obtain ⟨y, s', hq0, h0⟩ := pi_some h
      clear h
      subst hq0
      have h := h0
      clear h0
      obtain ⟨x, s', hq0, h0⟩ := pi_some h
      clear h
      subst hq0
      have h := h0
      clear h0
      obtain ⟨z2, h0⟩ := ck_some h
      clear h
      have h := h0
      clear h0
      have hle := hkle _ _ _ h
      exact js_mmin Cc F hrk hs (Nat.le_of_ble_eq_true z2) hRf hRl (Nat.le_trans (Nat.sub_le_sub_right hle.1 _) hRc) (Nat.le_trans (Nat.sub_le_sub_right hle.2 _) hRs) hd (hk _ _ _ h hn hw)
    · cases hX
  · obtain ⟨-, hX⟩ := band hX
    split at hX
    · rename_i i' ja jb jw hf
      obtain ⟨rfl, hs⟩ := jc_find_spec hf
      rcases hs with ⟨z, -⟩ | hs
      · cases z
      obtain ⟨y, s', hq0, h0⟩ := pl_some h
      clear h
      subst hq0
      have h := h0
      clear h0
      obtain ⟨x, s', hq0, h0⟩ := pl_some h
      clear h
      subst hq0
      have h := h0
      clear h0
      obtain ⟨z2, h0⟩ := ck_some h
      clear h
      have h := h0
      clear h0
      have hle := hkle _ _ _ h
      exact js_mmaxl Cc F hrk hs (Nat.le_of_ble_eq_true z2) hRf hRl (Nat.le_trans (Nat.sub_le_sub_right hle.1 _) hRc) (Nat.le_trans (Nat.sub_le_sub_right hle.2 _) hRs) hd (hk _ _ _ h hn hw)
    · cases hX
  · exact absurd (beq_n (band hX).1) (by decide)
  · exact absurd (beq_n (band hX).1) (by decide)
  · obtain ⟨hX, w5⟩ := band hX
    obtain ⟨hX, w4⟩ := band hX
    obtain ⟨hX, w3⟩ := band hX
    obtain ⟨w1, w2⟩ := band hX
    obtain rfl : a1 = jt_led := beq_n w3
    obtain rfl : a4 = 11 := beq_n w4
    have ej : j = jt_law := beq_n w2
    split at w5
    · rename_i i' ja jb jw hf
      obtain ⟨rfl, hs⟩ := jc_find_spec hf
      rcases hs with ⟨z, -⟩ | hs
      · cases z
      obtain ⟨o, s', hq0, h0⟩ := pr_some h
      clear h
      subst hq0
      have h := h0
      clear h0
      obtain ⟨pp, s', hq0, h0⟩ := pi_some h
      clear h
      subst hq0
      have h := h0
      clear h0
      obtain ⟨a, s', hq0, h0⟩ := pr_some h
      clear h
      subst hq0
      have h := h0
      clear h0
      obtain ⟨z2, h0⟩ := ck_some h
      clear h
      have h := h0
      clear h0
      obtain ⟨hka, h0⟩ := if_yes h
      clear h
      have h := h0
      clear h0
      obtain ⟨hko, h0⟩ := if_yes h
      clear h
      have h := h0
      clear h0
      rcases rt_some h with ⟨v', M', h1, h2⟩ | ⟨M', h1, h2⟩
      · obtain ⟨y1, h2⟩ := if_no h2
        obtain ⟨y2, h2⟩ := if_yes h2
        have hle := hkle _ _ _ h2
        have d1 := (hD _ _ _ _ h1).1
        have e1 : jm_n M' ≤ jm_n r.2 := hle.1
        have e2 : jm_w M' ≤ jm_w r.2 := hle.2
        exact hled _ _ _ _ _ _ _ _ _ ej hs hd hka hko (Nat.le_of_ble_eq_true z2) h1 hn hw (by show jm_n M' - n0 ≤ _; omega) (by show jm_w M' - w0 ≤ _; omega) (Or.inl ⟨v', rfl, y1, y2, hk _ _ _ h2 (Nat.le_trans hn d1.1) (Nat.le_trans hw d1.2)⟩)
      · have hle := hkle _ _ _ h2
        have d1 := (hD _ _ _ _ h1).1
        have e1 : jm_n M' ≤ jm_n r.2 := hle.1
        have e2 : jm_w M' ≤ jm_w r.2 := hle.2
        exact hled _ _ _ _ _ _ _ _ _ ej hs hd hka hko (Nat.le_of_ble_eq_true z2) h1 hn hw (by show jm_n M' - n0 ≤ _; omega) (by show jm_w M' - w0 ≤ _; omega) (Or.inr ⟨rfl, hk _ _ _ h2 (Nat.le_trans hn d1.1) (Nat.le_trans hw d1.2)⟩)
    · cases w5
  · cases h
set_option maxHeartbeats 8000000 in
theorem jw_1 (Cc : jw_C s0 D cI cJ cB sp L b0 xs) (F : jw_F p s s0 m meth c j) {len : Nat} {x : jX} (hd : decode (jt_cc j) pc = .ok (x.1, len)) (hX : jc_X j pc len x = true) (h : jx_1 jt_tx jt_sw Dn Jn x ls st M k = some r) (hrk : 10 ≤ jt_rk j) (hn : n0 ≤ jm_n M) (hw : w0 ≤ jm_w M) (hRf : jt_rk j ≤ R.frames) (hRl : 40 * jt_rk j ≤ R.locals) (hRc : jm_n r.2 - n0 ≤ R.cells) (hRs : jm_w r.2 - w0 ≤ R.slots)
    (hD : ∀ jj as M q, Dn jj as M = some q → jx_le M q ∧ (jj < jt_law → jj ≠ jt_led → jw_Met l s0 D cI cJ cB sp L xs jj as M q))
    (hkle : ∀ ls st M, k ls st M = some r → jx_le M r) (hJ : ∀ b ls st M, b < jt_nb j → Jn b ls st M = some r → n0 ≤ jm_n M → w0 ≤ jm_w M → jw_W p l e R s s0 m args below meth c Q D cI cJ cB sp L xs n0 w0 (jt_nl j) M ls st (jt_pc j b))
    (hk : jc_end x = false → ∀ ls st M, k ls st M = some r → n0 ≤ jm_n M → w0 ≤ jm_w M → jw_W p l e R s s0 m args below meth c Q D cI cJ cB sp L xs n0 w0 (jt_nl j) M ls st (pc + len))
    (hled : ∀ (M : jM) (ls : jL) (st : List Value) (pc i : Nat) (o a : Nat) (pp : Int32) (q : jR), j = jt_law → Cond.methodLink (jt_on (jt_o j)) i yL_led ∈ jc_gw → decode (jt_cc j) pc = .ok (.invokestatic i, 3) → jm_k M a = 11 → jm_k M o = 21 → jx_cat st ≤ 8 → Dn jt_led [.ref a, .int pp] M = some q →
      n0 ≤ jm_n M → w0 ≤ jm_w M → jm_n q.2 - n0 ≤ R.cells → jm_w q.2 - w0 ≤ R.slots →
      ((∃ v, q.1 = some (.int v) ∧ jm_z q.2 o ≠ 0 ∧ jm_k q.2 o = 21 ∧ jw_W p l e R s s0 m args below meth c Q D cI cJ cB sp L xs n0 w0 (jt_nl j) (jm_sl q.2 o 0 v.toInt64) ls (.int 0 :: st) (pc + 3)) ∨ (q.1 = some .null ∧ jw_W p l e R s s0 m args below meth c Q D cI cJ cB sp L xs n0 w0 (jt_nl j) q.2 ls (.int 1 :: st) (pc + 3))) → jw_W p l e R s s0 m args below meth c Q D cI cJ cB sp L xs n0 w0 (jt_nl j) M ls (.ref o :: .int pp :: .ref a :: st) pc)
    (hthr : ∀ {i : Nat}, decode (jt_cc j) pc = .ok (.new i, 3) → j = jt_led → pc = jt_pc jt_led (jt_nb jt_led - 1) → x.2.2.2.2.1 ≠ 0 → jx_cat st = 0 → some (some Value.null, (M.1, M.2.1, M.2.2.1, M.2.2.2.1, M.2.2.2.2.1, jm_n M + x.2.2.1, jm_w M + x.2.2.2.1)) = some r → jw_W p l e R s s0 m args below meth c Q D cI cJ cB sp L xs n0 w0 (jt_nl j) M ls st pc)
    (hreti : ∀ {v : Int32}, decode (jt_cc j) pc = .ok (.ireturn, 1) → (jt_ret j = some .int ∨ (jt_ret j = some .boolean ∧ (v = 0 ∨ v = 1))) → r = (some (.int v), M) → jw_W p l e R s s0 m args below meth c Q D cI cJ cB sp L xs n0 w0 (jt_nl j) M ls [.int v] pc)
    (hretl : ∀ {v : Int64}, decode (jt_cc j) pc = .ok (.lreturn, 1) → jt_ret j = some .long → r = (some (.long v), M) → jw_W p l e R s s0 m args below meth c Q D cI cJ cB sp L xs n0 w0 (jt_nl j) M ls [.long v] pc)
    (hretv : decode (jt_cc j) pc = .ok (.return_, 1) → jt_ret j = none → r = (none, M) → jw_W p l e R s s0 m args below meth c Q D cI cJ cB sp L xs n0 w0 (jt_nl j) M ls [] pc) : jw_W p l e R s s0 m args below meth c Q D cI cJ cB sp L xs n0 w0 (jt_nl j) M ls st pc := by
  obtain ⟨i, v, a1, a2, a3, a4⟩ := x
  unfold jx_1 at h
  dsimp only at h hd
  split at h
  · obtain rfl : len = 1 := beq_n hX
    exact js_null F hd (hk rfl _ _ _ h hn hw)
  · obtain ⟨q1, q2⟩ := band hX
    obtain rfl : len = 1 := beq_n q1
    have ev : v = _ := of_decide_eq_true q2
    rw [ev] at h
    exact js_iconst F hd (hk rfl _ _ _ h hn hw)
  · obtain ⟨q1, q2⟩ := band hX
    obtain rfl : len = 1 := beq_n q1
    have ev : v = _ := of_decide_eq_true q2
    rw [ev] at h
    exact js_lconst F hd (hk rfl _ _ _ h hn hw)
  · obtain ⟨q1, q2⟩ := band hX
    obtain rfl : len = 2 := beq_n q1
    have ev : v = _ := of_decide_eq_true q2
    rw [ev] at h
    exact js_bipush F hd (hk rfl _ _ _ h hn hw)
  · obtain ⟨q1, q2⟩ := band hX
    obtain rfl : len = 3 := beq_n q1
    have ev : v = _ := of_decide_eq_true q2
    rw [ev] at h
    exact js_sipush F hd (hk rfl _ _ _ h hn hw)
  · obtain ⟨q1, q2⟩ := band hX
    obtain rfl : len = 2 := beq_n q1
    rcases jc_cst_spec q2 with ⟨x, rfl, hc⟩ | ⟨x, t, rfl, hc1, hc2, hc3⟩
    · exact js_ldc F (jw_ts Cc F _ hc) hd (hk rfl _ _ _ h hn hw)
    · have hs := Cc.2.2.2.2.1 (x - 2) _ _ _ hc3
      rw [Nat.sub_add_cancel hc1] at hs
      have hl57 : jt_sks.length ≤ 98 := by decide
      have hx100 : x < 100 := by
        have h1 : x - 2 < jt_sks.length := hc2
        omega
      exact js_ldcS F (vk_R.warm F.2.2.2.2.1 hs) hx100 hd (hk rfl _ _ _ h hn hw)
  · obtain ⟨q1, q2⟩ := band hX
    obtain rfl : len = 3 := beq_n q1
    rcases jc_cst_spec q2 with ⟨x, rfl, hc⟩ | ⟨x, t, rfl, hc1, hc2, hc3⟩
    · exact js_ldcw F (jw_ts Cc F _ hc) hd (hk rfl _ _ _ h hn hw)
    · have hs := Cc.2.2.2.2.1 (x - 2) _ _ _ hc3
      rw [Nat.sub_add_cancel hc1] at hs
      have hl57 : jt_sks.length ≤ 98 := by decide
      have hx100 : x < 100 := by
        have h1 : x - 2 < jt_sks.length := hc2
        omega
      exact js_ldcwS F (vk_R.warm F.2.2.2.2.1 hs) hx100 hd (hk rfl _ _ _ h hn hw)
  · obtain ⟨q1, q2⟩ := band hX
    obtain rfl : len = 3 := beq_n q1
    obtain ⟨x, rfl, hc⟩ := jc_cst2_spec q2
    exact js_ldc2 F (jw_ts Cc F _ hc) hd (hk rfl _ _ _ h hn hw)
  · obtain rfl : len = 2 := beq_n hX
    obtain ⟨x, hg, h0⟩ := gi_some h
    clear h
    have h := h0
    clear h0
    exact js_iload F hg hd (hk rfl _ _ _ h hn hw)
  · obtain rfl : len = 1 := beq_n hX
    obtain ⟨x, hg, h0⟩ := gi_some h
    clear h
    have h := h0
    clear h0
    exact js_iload_n F hg hd (hk rfl _ _ _ h hn hw)
  · obtain rfl : len = 2 := beq_n hX
    obtain ⟨x, hg, h0⟩ := gl_some h
    clear h
    have h := h0
    clear h0
    exact js_lload F hg hd (hk rfl _ _ _ h hn hw)
  · obtain rfl : len = 1 := beq_n hX
    obtain ⟨x, hg, h0⟩ := gl_some h
    clear h
    have h := h0
    clear h0
    exact js_lload_n F hg hd (hk rfl _ _ _ h hn hw)
  · obtain rfl : len = 2 := beq_n hX
    obtain ⟨x, hg, h0⟩ := gr_some h
    clear h
    have h := h0
    clear h0
    exact js_aload F hg hd (hk rfl _ _ _ h hn hw)
  · obtain rfl : len = 1 := beq_n hX
    obtain ⟨x, hg, h0⟩ := gr_some h
    clear h
    have h := h0
    clear h0
    exact js_aload_n F hg hd (hk rfl _ _ _ h hn hw)
  · obtain rfl : len = 2 := beq_n hX
    obtain ⟨x, s', hq0, h0⟩ := pi_some h
    clear h
    subst hq0
    have h := h0
    clear h0
    obtain ⟨hlt, h0⟩ := ck_some h
    clear h
    have h := h0
    clear h0
    exact js_istore F (blt_lt hlt) hd (hk rfl _ _ _ h hn hw)
  · obtain rfl : len = 1 := beq_n hX
    obtain ⟨x, s', hq0, h0⟩ := pi_some h
    clear h
    subst hq0
    have h := h0
    clear h0
    obtain ⟨hlt, h0⟩ := ck_some h
    clear h
    have h := h0
    clear h0
    exact js_istore_n F (blt_lt hlt) hd (hk rfl _ _ _ h hn hw)
  · obtain rfl : len = 2 := beq_n hX
    obtain ⟨x, s', hq0, h0⟩ := pl_some h
    clear h
    subst hq0
    have h := h0
    clear h0
    obtain ⟨hlt, h0⟩ := ck_some h
    clear h
    have h := h0
    clear h0
    exact js_lstore F (blt_lt hlt) hd (hk rfl _ _ _ h hn hw)
  · obtain rfl : len = 1 := beq_n hX
    obtain ⟨x, s', hq0, h0⟩ := pl_some h
    clear h
    subst hq0
    have h := h0
    clear h0
    obtain ⟨hlt, h0⟩ := ck_some h
    clear h
    have h := h0
    clear h0
    exact js_lstore_n F (blt_lt hlt) hd (hk rfl _ _ _ h hn hw)
  · obtain rfl : len = 2 := beq_n hX
    obtain ⟨x, s', hq0, h0⟩ := pr_some h
    clear h
    subst hq0
    have h := h0
    clear h0
    obtain ⟨hlt, h0⟩ := ck_some h
    clear h
    have h := h0
    clear h0
    exact js_astore F (blt_lt hlt) hd (hk rfl _ _ _ h hn hw)
  · obtain rfl : len = 1 := beq_n hX
    obtain ⟨x, s', hq0, h0⟩ := pr_some h
    clear h
    subst hq0
    have h := h0
    clear h0
    obtain ⟨hlt, h0⟩ := ck_some h
    clear h
    have h := h0
    clear h0
    exact js_astore_n F (blt_lt hlt) hd (hk rfl _ _ _ h hn hw)
  · obtain ⟨q1, q2⟩ := band hX
    obtain rfl : len = 3 := beq_n q1
    have ev : v = _ := of_decide_eq_true q2
    rw [ev] at h
    obtain ⟨x, hg, h0⟩ := gi_some h
    clear h
    have h := h0
    clear h0
    obtain ⟨hlt, h0⟩ := ck_some h
    clear h
    have h := h0
    clear h0
    exact js_iinc F hg (blt_lt hlt) hd (hk rfl _ _ _ h hn hw)
  · obtain rfl : len = 1 := beq_n hX
    obtain ⟨y, s', hq0, h0⟩ := pi_some h
    clear h
    subst hq0
    have h := h0
    clear h0
    obtain ⟨x, s', hq0, h0⟩ := pi_some h
    clear h
    subst hq0
    have h := h0
    clear h0
    exact js_iadd F hd (hk rfl _ _ _ h hn hw)
  · obtain rfl : len = 1 := beq_n hX
    obtain ⟨y, s', hq0, h0⟩ := pi_some h
    clear h
    subst hq0
    have h := h0
    clear h0
    obtain ⟨x, s', hq0, h0⟩ := pi_some h
    clear h
    subst hq0
    have h := h0
    clear h0
    exact js_isub F hd (hk rfl _ _ _ h hn hw)
  · obtain rfl : len = 1 := beq_n hX
    obtain ⟨y, s', hq0, h0⟩ := pi_some h
    clear h
    subst hq0
    have h := h0
    clear h0
    obtain ⟨x, s', hq0, h0⟩ := pi_some h
    clear h
    subst hq0
    have h := h0
    clear h0
    exact js_imul F hd (hk rfl _ _ _ h hn hw)
  · obtain rfl : len = 1 := beq_n hX
    obtain ⟨y, s', hq0, h0⟩ := pi_some h
    clear h
    subst hq0
    have h := h0
    clear h0
    obtain ⟨x, s', hq0, h0⟩ := pi_some h
    clear h
    subst hq0
    have h := h0
    clear h0
    obtain ⟨hy, h0⟩ := if_no h
    clear h
    have h := h0
    clear h0
    exact js_idiv F hy hd (hk rfl _ _ _ h hn hw)
  · obtain rfl : len = 1 := beq_n hX
    obtain ⟨y, s', hq0, h0⟩ := pi_some h
    clear h
    subst hq0
    have h := h0
    clear h0
    obtain ⟨x, s', hq0, h0⟩ := pi_some h
    clear h
    subst hq0
    have h := h0
    clear h0
    obtain ⟨hy, h0⟩ := if_no h
    clear h
    have h := h0
    clear h0
    exact js_irem F hy hd (hk rfl _ _ _ h hn hw)
  · obtain rfl : len = 1 := beq_n hX
    obtain ⟨x, s', hq0, h0⟩ := pi_some h
    clear h
    subst hq0
    have h := h0
    clear h0
    exact js_ineg F hd (hk rfl _ _ _ h hn hw)
  · obtain rfl : len = 1 := beq_n hX
    obtain ⟨y, s', hq0, h0⟩ := pi_some h
    clear h
    subst hq0
    have h := h0
    clear h0
    obtain ⟨x, s', hq0, h0⟩ := pi_some h
    clear h
    subst hq0
    have h := h0
    clear h0
    exact js_iand F hd (hk rfl _ _ _ h hn hw)
  · obtain rfl : len = 1 := beq_n hX
    obtain ⟨y, s', hq0, h0⟩ := pi_some h
    clear h
    subst hq0
    have h := h0
    clear h0
    obtain ⟨x, s', hq0, h0⟩ := pi_some h
    clear h
    subst hq0
    have h := h0
    clear h0
    exact js_ior F hd (hk rfl _ _ _ h hn hw)
  · obtain rfl : len = 1 := beq_n hX
    obtain ⟨y, s', hq0, h0⟩ := pi_some h
    clear h
    subst hq0
    have h := h0
    clear h0
    obtain ⟨x, s', hq0, h0⟩ := pi_some h
    clear h
    subst hq0
    have h := h0
    clear h0
    exact js_ixor F hd (hk rfl _ _ _ h hn hw)
  · obtain rfl : len = 1 := beq_n hX
    obtain ⟨y, s', hq0, h0⟩ := pi_some h
    clear h
    subst hq0
    have h := h0
    clear h0
    obtain ⟨x, s', hq0, h0⟩ := pi_some h
    clear h
    subst hq0
    have h := h0
    clear h0
    exact js_ishl F hd (hk rfl _ _ _ h hn hw)
  · obtain rfl : len = 1 := beq_n hX
    obtain ⟨y, s', hq0, h0⟩ := pi_some h
    clear h
    subst hq0
    have h := h0
    clear h0
    obtain ⟨x, s', hq0, h0⟩ := pi_some h
    clear h
    subst hq0
    have h := h0
    clear h0
    exact js_ishr F hd (hk rfl _ _ _ h hn hw)
  · obtain rfl : len = 1 := beq_n hX
    obtain ⟨y, s', hq0, h0⟩ := pi_some h
    clear h
    subst hq0
    have h := h0
    clear h0
    obtain ⟨x, s', hq0, h0⟩ := pi_some h
    clear h
    subst hq0
    have h := h0
    clear h0
    exact js_iushr F hd (hk rfl _ _ _ h hn hw)
  · obtain rfl : len = 1 := beq_n hX
    obtain ⟨y, s', hq0, h0⟩ := pl_some h
    clear h
    subst hq0
    have h := h0
    clear h0
    obtain ⟨x, s', hq0, h0⟩ := pl_some h
    clear h
    subst hq0
    have h := h0
    clear h0
    exact js_ladd F hd (hk rfl _ _ _ h hn hw)
  · obtain rfl : len = 1 := beq_n hX
    obtain ⟨y, s', hq0, h0⟩ := pl_some h
    clear h
    subst hq0
    have h := h0
    clear h0
    obtain ⟨x, s', hq0, h0⟩ := pl_some h
    clear h
    subst hq0
    have h := h0
    clear h0
    exact js_lsub F hd (hk rfl _ _ _ h hn hw)
  · obtain rfl : len = 1 := beq_n hX
    obtain ⟨y, s', hq0, h0⟩ := pl_some h
    clear h
    subst hq0
    have h := h0
    clear h0
    obtain ⟨x, s', hq0, h0⟩ := pl_some h
    clear h
    subst hq0
    have h := h0
    clear h0
    exact js_lmul F hd (hk rfl _ _ _ h hn hw)
  · obtain rfl : len = 1 := beq_n hX
    obtain ⟨y, s', hq0, h0⟩ := pl_some h
    clear h
    subst hq0
    have h := h0
    clear h0
    obtain ⟨x, s', hq0, h0⟩ := pl_some h
    clear h
    subst hq0
    have h := h0
    clear h0
    obtain ⟨hy, h0⟩ := if_no h
    clear h
    have h := h0
    clear h0
    exact js_ldiv F hy hd (hk rfl _ _ _ h hn hw)
  · obtain rfl : len = 1 := beq_n hX
    obtain ⟨y, s', hq0, h0⟩ := pl_some h
    clear h
    subst hq0
    have h := h0
    clear h0
    obtain ⟨x, s', hq0, h0⟩ := pl_some h
    clear h
    subst hq0
    have h := h0
    clear h0
    obtain ⟨hy, h0⟩ := if_no h
    clear h
    have h := h0
    clear h0
    exact js_lrem F hy hd (hk rfl _ _ _ h hn hw)
  · obtain rfl : len = 1 := beq_n hX
    obtain ⟨y, s', hq0, h0⟩ := pi_some h
    clear h
    subst hq0
    have h := h0
    clear h0
    obtain ⟨x, s', hq0, h0⟩ := pl_some h
    clear h
    subst hq0
    have h := h0
    clear h0
    exact js_lshl F hd (hk rfl _ _ _ h hn hw)
  · obtain rfl : len = 1 := beq_n hX
    obtain ⟨y, s', hq0, h0⟩ := pl_some h
    clear h
    subst hq0
    have h := h0
    clear h0
    obtain ⟨x, s', hq0, h0⟩ := pl_some h
    clear h
    subst hq0
    have h := h0
    clear h0
    exact js_lcmp F hd (hk rfl _ _ _ h hn hw)
  · obtain rfl : len = 1 := beq_n hX
    obtain ⟨x, s', hq0, h0⟩ := pi_some h
    clear h
    subst hq0
    have h := h0
    clear h0
    exact js_i2l F hd (hk rfl _ _ _ h hn hw)
  · obtain rfl : len = 1 := beq_n hX
    obtain ⟨x, s', hq0, h0⟩ := pl_some h
    clear h
    subst hq0
    have h := h0
    clear h0
    exact js_l2i F hd (hk rfl _ _ _ h hn hw)
  · obtain rfl : len = 1 := beq_n hX
    obtain ⟨x, s', hq0, h0⟩ := pi_some h
    clear h
    subst hq0
    have h := h0
    clear h0
    exact js_i2b F hd (hk rfl _ _ _ h hn hw)
  · obtain rfl : len = 1 := beq_n hX
    split at h
    · skip
      obtain ⟨q, h0⟩ := ck_some h
      clear h
      have h := h0
      clear h0
      exact js_dup F (beq_n q) hd (hk rfl _ _ _ h hn hw)
    · cases h
  · obtain rfl : len = 1 := beq_n hX
    split at h
    · skip
      obtain ⟨q, h0⟩ := ck_some h
      clear h
      have h := h0
      clear h0
      exact js_pop F (beq_n q) hd (hk rfl _ _ _ h hn hw)
    · cases h
  · obtain rfl : len = 1 := beq_n hX
    split at h
    · skip
      obtain ⟨q, h0⟩ := ck_some h
      clear h
      have h := h0
      clear h0
      obtain ⟨q2, h0⟩ := ck_some h
      clear h
      have h := h0
      clear h0
      exact js_dup2 F (beq_n q) (beq_n q2) hd (hk rfl _ _ _ h hn hw)
    · cases h
  · obtain rfl : len = 1 := beq_n hX
    split at h
    · skip
      obtain ⟨q, h0⟩ := ck_some h
      clear h
      have h := h0
      clear h0
      obtain ⟨q2, h0⟩ := ck_some h
      clear h
      have h := h0
      clear h0
      exact js_dup_x1 F (beq_n q) (beq_n q2) hd (hk rfl _ _ _ h hn hw)
    · cases h
  · obtain ⟨q1, q2⟩ := band hX
    obtain rfl : len = 3 := beq_n q1
    obtain ⟨t1, t2⟩ := jc_to_spec q2
    exact js_goto F t2 hd (hJ _ _ _ _ t1 h hn hw)
  · obtain ⟨q1, q2⟩ := band hX
    obtain rfl : len = 3 := beq_n q1
    obtain ⟨t1, t2⟩ := jc_to_spec q2
    obtain ⟨x, s', hq0, h0⟩ := pi_some h
    clear h
    subst hq0
    have h := h0
    clear h0
    exact js_if_eq F t2 hd (fun z => hJ _ _ _ _ t1 (by rw [if_pos z] at h; exact h) hn hw) (fun z => hk rfl _ _ _ (by rw [if_neg z] at h; exact h) hn hw)
  · obtain ⟨q1, q2⟩ := band hX
    obtain rfl : len = 3 := beq_n q1
    obtain ⟨t1, t2⟩ := jc_to_spec q2
    obtain ⟨x, s', hq0, h0⟩ := pi_some h
    clear h
    subst hq0
    have h := h0
    clear h0
    exact js_if_ne F t2 hd (fun z => hJ _ _ _ _ t1 (by rw [if_neg z] at h; exact h) hn hw) (fun z => hk rfl _ _ _ (by rw [if_pos z] at h; exact h) hn hw)
  · obtain ⟨q1, q2⟩ := band hX
    obtain rfl : len = 3 := beq_n q1
    obtain ⟨t1, t2⟩ := jc_to_spec q2
    obtain ⟨x, s', hq0, h0⟩ := pi_some h
    clear h
    subst hq0
    have h := h0
    clear h0
    exact js_if_lt F t2 hd (fun z => hJ _ _ _ _ t1 (by rw [if_pos z] at h; exact h) hn hw) (fun z => hk rfl _ _ _ (by rw [if_neg z] at h; exact h) hn hw)
  · obtain ⟨q1, q2⟩ := band hX
    obtain rfl : len = 3 := beq_n q1
    obtain ⟨t1, t2⟩ := jc_to_spec q2
    obtain ⟨x, s', hq0, h0⟩ := pi_some h
    clear h
    subst hq0
    have h := h0
    clear h0
    exact js_if_ge F t2 hd (fun z => hJ _ _ _ _ t1 (by rw [if_pos z] at h; exact h) hn hw) (fun z => hk rfl _ _ _ (by rw [if_neg z] at h; exact h) hn hw)
  · obtain ⟨q1, q2⟩ := band hX
    obtain rfl : len = 3 := beq_n q1
    obtain ⟨t1, t2⟩ := jc_to_spec q2
    obtain ⟨x, s', hq0, h0⟩ := pi_some h
    clear h
    subst hq0
    have h := h0
    clear h0
    exact js_if_gt F t2 hd (fun z => hJ _ _ _ _ t1 (by rw [if_pos z] at h; exact h) hn hw) (fun z => hk rfl _ _ _ (by rw [if_neg z] at h; exact h) hn hw)
  · obtain ⟨q1, q2⟩ := band hX
    obtain rfl : len = 3 := beq_n q1
    obtain ⟨t1, t2⟩ := jc_to_spec q2
    obtain ⟨x, s', hq0, h0⟩ := pi_some h
    clear h
    subst hq0
    have h := h0
    clear h0
    exact js_if_le F t2 hd (fun z => hJ _ _ _ _ t1 (by rw [if_pos z] at h; exact h) hn hw) (fun z => hk rfl _ _ _ (by rw [if_neg z] at h; exact h) hn hw)
  · obtain ⟨q1, q2⟩ := band hX
    obtain rfl : len = 3 := beq_n q1
    obtain ⟨t1, t2⟩ := jc_to_spec q2
    obtain ⟨y, s', hq0, h0⟩ := pi_some h
    clear h
    subst hq0
    have h := h0
    clear h0
    obtain ⟨x, s', hq0, h0⟩ := pi_some h
    clear h
    subst hq0
    have h := h0
    clear h0
    exact js_icmp_eq F t2 hd (fun z => hJ _ _ _ _ t1 (by rw [if_pos z] at h; exact h) hn hw) (fun z => hk rfl _ _ _ (by rw [if_neg z] at h; exact h) hn hw)
  · obtain ⟨q1, q2⟩ := band hX
    obtain rfl : len = 3 := beq_n q1
    obtain ⟨t1, t2⟩ := jc_to_spec q2
    obtain ⟨y, s', hq0, h0⟩ := pi_some h
    clear h
    subst hq0
    have h := h0
    clear h0
    obtain ⟨x, s', hq0, h0⟩ := pi_some h
    clear h
    subst hq0
    have h := h0
    clear h0
    exact js_icmp_ne F t2 hd (fun z => hJ _ _ _ _ t1 (by rw [if_neg z] at h; exact h) hn hw) (fun z => hk rfl _ _ _ (by rw [if_pos z] at h; exact h) hn hw)
  · obtain ⟨q1, q2⟩ := band hX
    obtain rfl : len = 3 := beq_n q1
    obtain ⟨t1, t2⟩ := jc_to_spec q2
    obtain ⟨y, s', hq0, h0⟩ := pi_some h
    clear h
    subst hq0
    have h := h0
    clear h0
    obtain ⟨x, s', hq0, h0⟩ := pi_some h
    clear h
    subst hq0
    have h := h0
    clear h0
    exact js_icmp_lt F t2 hd (fun z => hJ _ _ _ _ t1 (by rw [if_pos z] at h; exact h) hn hw) (fun z => hk rfl _ _ _ (by rw [if_neg z] at h; exact h) hn hw)
  · obtain ⟨q1, q2⟩ := band hX
    obtain rfl : len = 3 := beq_n q1
    obtain ⟨t1, t2⟩ := jc_to_spec q2
    obtain ⟨y, s', hq0, h0⟩ := pi_some h
    clear h
    subst hq0
    have h := h0
    clear h0
    obtain ⟨x, s', hq0, h0⟩ := pi_some h
    clear h
    subst hq0
    have h := h0
    clear h0
    exact js_icmp_ge F t2 hd (fun z => hJ _ _ _ _ t1 (by rw [if_pos z] at h; exact h) hn hw) (fun z => hk rfl _ _ _ (by rw [if_neg z] at h; exact h) hn hw)
  · obtain ⟨q1, q2⟩ := band hX
    obtain rfl : len = 3 := beq_n q1
    obtain ⟨t1, t2⟩ := jc_to_spec q2
    obtain ⟨y, s', hq0, h0⟩ := pi_some h
    clear h
    subst hq0
    have h := h0
    clear h0
    obtain ⟨x, s', hq0, h0⟩ := pi_some h
    clear h
    subst hq0
    have h := h0
    clear h0
    exact js_icmp_gt F t2 hd (fun z => hJ _ _ _ _ t1 (by rw [if_pos z] at h; exact h) hn hw) (fun z => hk rfl _ _ _ (by rw [if_neg z] at h; exact h) hn hw)
  · obtain ⟨q1, q2⟩ := band hX
    obtain rfl : len = 3 := beq_n q1
    obtain ⟨t1, t2⟩ := jc_to_spec q2
    obtain ⟨y, s', hq0, h0⟩ := pi_some h
    clear h
    subst hq0
    have h := h0
    clear h0
    obtain ⟨x, s', hq0, h0⟩ := pi_some h
    clear h
    subst hq0
    have h := h0
    clear h0
    exact js_icmp_le F t2 hd (fun z => hJ _ _ _ _ t1 (by rw [if_pos z] at h; exact h) hn hw) (fun z => hk rfl _ _ _ (by rw [if_neg z] at h; exact h) hn hw)
  · obtain ⟨q1, q2⟩ := band hX
    obtain rfl : len = 3 := beq_n q1
    obtain ⟨t1, t2⟩ := jc_to_spec q2
    split at h
    · exact js_ifnullN F t2 hd (hJ _ _ _ _ t1 h hn hw)
    · exact js_ifnull F hd (hk rfl _ _ _ h hn hw)
    · cases h
  · obtain ⟨q1, q2⟩ := band hX
    obtain rfl : len = 3 := beq_n q1
    obtain ⟨t1, t2⟩ := jc_to_spec q2
    split at h
    · exact js_ifnonnullN F hd (hk rfl _ _ _ h hn hw)
    · exact js_ifnonnull F t2 hd (hJ _ _ _ _ t1 h hn hw)
    · cases h
  · rename_i dflt low high offs
    have hX' : jc_swk j pc dflt low high offs (jt_sw a1) = true := hX
    obtain ⟨e1, e2, ⟨e3, e4⟩, e5⟩ := jc_swk_spec hX'
    obtain ⟨x, s', hq0, h0⟩ := pi_some h
    clear h
    subst hq0
    have h := h0
    clear h0
    unfold jx_sw at h
    by_cases hx : x.toInt < (jt_sw a1).1 ∨ (jt_sw a1).1 + (jt_sw a1).2.1.length ≤ x.toInt
    · rw [if_pos hx] at h
      exact js_swOut F (by rw [e1] at hx; rcases hx with hx | hx; exact Or.inl hx; exact Or.inr (by omega)) e4 hd (hJ _ _ _ _ e3 h hn hw)
    · rw [if_neg hx] at h
      rw [e1] at hx h
      have hlt : (x.toInt - low).toNat < (jt_sw a1).2.1.length := by omega
      obtain ⟨o, bb, f1, f2, f3, f4⟩ := e5 _ hlt
      rw [List.getD_eq_getElem?_getD, f2] at h
      exact js_swIn F (by omega) (by omega) f1 f4 hd (hJ _ _ _ _ f3 h hn hw)
  · obtain ⟨q1, q2⟩ := band hX
    obtain rfl : len = 3 := beq_n q1
    rename_i idx
    have q3 : (match jc_find (jt_o j) idx with
      | some (_, tag, a, k', _) => (Nat.beq tag 1 || Nat.beq tag 2) && Nat.beq a a1 && Nat.beq k' a2 && Nat.blt k' (jc_N a) && Nat.blt a vwCl.length && (fun _ a k => Nat.beq a3 (jc_fk a k) || (Nat.beq a3 3 && Nat.beq (jc_fk a k) 2)) tag a k'
      | none => false) = true := q2
    obtain ⟨g1, g2, tag, g3, g4⟩ := jc_field_spec q3
    have hlink : (Cond.fieldLink (jt_on (jt_o j)) idx (jc_T a1 a2).1 (jc_T a1 a2).2.1 (jc_T a1 a2).2.2.1).before args s = true ∨ ∃ host, (Cond.fieldLinkNest (jt_on (jt_o j)) idx (jc_T a1 a2).1 (jc_T a1 a2).2.1 (jc_T a1 a2).2.2.1 host).before args s = true := by
      rcases g4 with ⟨-, g4⟩ | ⟨-, g4⟩
      · exact Or.inl (jw_ts Cc F _ g4)
      · exact Or.inr ⟨_, jw_ts Cc F _ g4⟩
    obtain ⟨x, s', hq0, h0⟩ := pr_some h
    clear h
    subst hq0
    have h := h0
    clear h0
    obtain ⟨hka, h0⟩ := if_yes h
    clear h
    have h := h0
    clear h0
    have g3' : a3 = jc_fk a1 a2 ∨ (a3 = 3 ∧ jc_fk a1 a2 = 2) := by
      rcases bor g3 with z | z
      · exact Or.inl (beq_n z)
      · exact Or.inr ⟨beq_n (band z).1, beq_n (band z).2⟩
    have hfkl := jc_fk_le a1 a2
    have hfk2 : (a3 = 2 ∨ a3 = 3) → jc_fk a1 a2 = 2 := by omega
    split at h
    · have hfk : jc_fk a1 a2 = 0 := by omega
      exact js_get Cc F hka g1 g2 hlink hd (v := .int _) (by unfold jw_fv; rw [hfk]; rfl) (hk rfl _ _ _ h hn hw)
    · have hfk : jc_fk a1 a2 = 1 := by omega
      exact js_get Cc F hka g1 g2 hlink hd (v := .long _) (by unfold jw_fv; rw [hfk]; rfl) (hk rfl _ _ _ h hn hw)
    · skip
      obtain ⟨hr0, h0⟩ := if_no h
      clear h
      have h := h0
      clear h0
      exact js_get Cc F hka g1 g2 hlink hd (v := .ref _) (by unfold jw_fv; rw [hfk2 (Or.inl rfl)]; show jw_rf _ _ = _; unfold jw_rf; rw [if_neg hr0]; rfl) (hk rfl _ _ _ h hn hw)
    · rcases ite_some h with ⟨hr0, h⟩ | ⟨hr0, h⟩
      · exact js_get Cc F hka g1 g2 hlink hd (v := .null) (by unfold jw_fv; rw [hfk2 (Or.inr rfl)]; show jw_rf _ _ = _; unfold jw_rf; rw [if_pos hr0]; rfl) (hk rfl _ _ _ h hn hw)
      · exact js_get Cc F hka g1 g2 hlink hd (v := .ref _) (by unfold jw_fv; rw [hfk2 (Or.inr rfl)]; show jw_rf _ _ = _; unfold jw_rf; rw [if_neg hr0]; rfl) (hk rfl _ _ _ h hn hw)
    · cases h
  · obtain ⟨q1, q2⟩ := band hX
    obtain rfl : len = 3 := beq_n q1
    rename_i idx
    have q3 : (match jc_find (jt_o j) idx with
      | some (_, tag, a, k', _) => (Nat.beq tag 1 || Nat.beq tag 2) && Nat.beq a a1 && Nat.beq k' a2 && Nat.blt k' (jc_N a) && Nat.blt a vwCl.length && (fun tag a k => Nat.beq a3 (jc_fk a k) && (!(jc_T a k).2.2.2 || (Nat.beq tag 1 && decide ((jt_y j).name = "<init>") && decide ((jc_T a k).1 = jt_on (jt_o j))))) tag a k'
      | none => false) = true := by
      have q2' : (match jc_find (jt_o j) idx with
        | some (_, tag, a, k, _) => (Nat.beq tag 1 || Nat.beq tag 2) && Nat.beq a a1 && Nat.beq k a2 && Nat.blt k (jc_N a) && Nat.blt a vwCl.length && Nat.beq a3 (jc_fk a k) && (!(jc_T a k).2.2.2 || (Nat.beq tag 1 && decide ((jt_y j).name = "<init>") && decide ((jc_T a k).1 = jt_on (jt_o j))))
        | none => false) = true := q2
      revert q2'
      cases jc_find (jt_o j) idx with
      | none => exact id
      | some w =>
        obtain ⟨w1, w2, w3, w4, w5⟩ := w
        intro q2
        obtain ⟨q2, z2⟩ := band q2
        obtain ⟨q2, z1⟩ := band q2
        show (_ && (_ && _)) = true
        rw [q2, z1, z2]
        rfl
    obtain ⟨g1, g2, tag, g3, g4⟩ := jc_field_spec q3
    obtain ⟨g3, g5⟩ := band g3
    have g3' : a3 = jc_fk a1 a2 := beq_n g3
    have hl13 : vwCl.length = 13 := rfl
    have hfin : (jc_T a1 a2).2.2.2 = false ∨ ((jc_T a1 a2).2.2.2 = true ∧ tag = 1 ∧ (jt_y j).name = "<init>" ∧ (jc_T a1 a2).1 = jt_on (jt_o j)) := by
      cases hf : (jc_T a1 a2).2.2.2 with
      | false => exact Or.inl rfl
      | true =>
        rw [hf] at g5
        obtain ⟨z1, z2⟩ := band (bor g5 |>.resolve_left (fun q => by cases q))
        obtain ⟨z0, z1⟩ := band z1
        exact Or.inr ⟨rfl, beq_n z0, of_decide_eq_true z1, of_decide_eq_true z2⟩
    have hfin2 : (jc_T a1 a2).2.2.2 = false ∨ ((jc_T a1 a2).2.2.2 = true ∧ (jt_y j).name = "<init>" ∧ (jc_T a1 a2).1 = jt_on (jt_o j) ∧ (Cond.fieldLink (jt_on (jt_o j)) idx (jc_T a1 a2).1 (jc_T a1 a2).2.1 (jc_T a1 a2).2.2.1).before args s = true) := by
      rcases hfin with z | ⟨z1, z2, z3, z4⟩
      · exact Or.inl z
      · rcases g4 with ⟨-, g4⟩ | ⟨y2, -⟩
        · exact Or.inr ⟨z1, z3, z4, jw_ts Cc F _ g4⟩
        · omega
    have hlink : (Cond.fieldLink (jt_on (jt_o j)) idx (jc_T a1 a2).1 (jc_T a1 a2).2.1 (jc_T a1 a2).2.2.1).before args s = true ∨ ((jc_T a1 a2).2.2.2 = false ∧ ∃ host, (Cond.fieldLinkNest (jt_on (jt_o j)) idx (jc_T a1 a2).1 (jc_T a1 a2).2.1 (jc_T a1 a2).2.2.1 host).before args s = true) := by
      rcases g4 with ⟨-, g4⟩ | ⟨y2, g4⟩
      · exact Or.inl (jw_ts Cc F _ g4)
      · refine Or.inr ⟨?_, _, jw_ts Cc F _ g4⟩
        rcases hfin with z | ⟨-, z2, -⟩
        · exact z
        · omega
    split at h
    · skip
      obtain ⟨x, s', hq0, h0⟩ := pi_some h
      clear h
      subst hq0
      have h := h0
      clear h0
      obtain ⟨y, s', hq0, h0⟩ := pr_some h
      clear h
      subst hq0
      have h := h0
      clear h0
      obtain ⟨hka, h0⟩ := if_yes h
      clear h
      have h := h0
      clear h0
      have hty := jc_fk0 g3'.symm
      exact js_put Cc F hka g1 g2 hlink hfin2 hd (v := .int x) (by rw [hty]; rfl) (by rw [hty]; rfl) (M' := jm_si M y a2 x) rfl rfl rfl rfl (fun z hz => jm_up_ne _ _ _ hz) (fun _ _ => rfl) (fun _ _ => rfl)
        (by unfold jw_fv; rw [← g3']; show Value.int (jm_up _ _ _ _ _ _) = _; rw [jm_up_self, if_pos rfl]; rfl) (fun z hz => by unfold jw_fv; split <;> first | rfl | (show Value.int (jm_up _ _ _ _ _ _) = _; rw [jm_up_self, if_neg hz]; rfl)) (hk rfl _ _ _ h hn hw)
    · skip
      obtain ⟨x, s', hq0, h0⟩ := pl_some h
      clear h
      subst hq0
      have h := h0
      clear h0
      obtain ⟨y, s', hq0, h0⟩ := pr_some h
      clear h
      subst hq0
      have h := h0
      clear h0
      obtain ⟨hka, h0⟩ := if_yes h
      clear h
      have h := h0
      clear h0
      have hty := jc_fk1 g3'.symm
      exact js_put Cc F hka g1 g2 hlink hfin2 hd (v := .long x) (by rw [hty]; rfl) (by rw [hty]; rfl) (M' := jm_sl M y a2 x) rfl rfl rfl rfl (fun _ _ => rfl) (fun z hz => jm_up_ne _ _ _ hz) (fun _ _ => rfl)
        (by unfold jw_fv; rw [← g3']; show Value.long (jm_up _ _ _ _ _ _) = _; rw [jm_up_self, if_pos rfl]; rfl) (fun z hz => by unfold jw_fv; split <;> first | rfl | (show Value.long (jm_up _ _ _ _ _ _) = _; rw [jm_up_self, if_neg hz]; rfl)) (hk rfl _ _ _ h hn hw)
    · skip
      obtain ⟨x, s', hq0, h0⟩ := pr_some h
      clear h
      subst hq0
      have h := h0
      clear h0
      obtain ⟨y, s', hq0, h0⟩ := pr_some h
      clear h
      subst hq0
      have h := h0
      clear h0
      obtain ⟨hx0, h0⟩ := if_no h
      clear h
      have h := h0
      clear h0
      obtain ⟨hka, h0⟩ := if_yes h
      clear h
      have h := h0
      clear h0
      have hty := jc_fk2 (by omega) g2 g3'.symm
      exact js_put Cc F hka g1 g2 hlink hfin2 hd (v := .ref x) (by rcases hty with ⟨t, hty⟩ | ⟨t, hty⟩ <;> rw [hty] <;> rfl) (by rcases hty with ⟨t, hty⟩ | ⟨t, hty⟩ <;> rw [hty] <;> rfl) (M' := jm_sr M y a2 x) rfl rfl rfl rfl (fun _ _ => rfl) (fun _ _ => rfl) (fun z hz => jm_up_ne _ _ _ hz)
        (by unfold jw_fv; rw [← g3']; show jw_rf _ (jm_up _ _ _ _ _ _) = _; rw [jm_up_self, if_pos rfl]; unfold jw_rf; rw [if_neg hx0]; rfl) (fun z hz => by unfold jw_fv; split <;> first | rfl | (show jw_rf _ (jm_up _ _ _ _ _ _) = _; rw [jm_up_self, if_neg hz]; rfl)) (hk rfl _ _ _ h hn hw)
    · cases h
  · obtain ⟨q1, q2⟩ := band hX
    obtain rfl : len = 3 := beq_n q1
    split at h
    · have q3 : (match jc_find (jt_o j) _ with
        | some (_, 5, a, _, _) => Nat.beq a a1 && Nat.blt a vwCl.length && Nat.beq (jc_N a) a2
        | _ => false) = true := q2
      split at q3
      · rename_i i' a bb w hf
        obtain ⟨z, z3⟩ := band q3
        obtain ⟨z1, z2⟩ := band z
        obtain rfl := beq_n z1
        obtain rfl := beq_n z3
        obtain ⟨rfl, hs⟩ := jc_find_spec hf
        rcases hs with ⟨y, -⟩ | hs
        · cases y
        have hle := hkle _ _ _ h
        have e1 : jm_n M + 1 ≤ jm_n r.2 := hle.1
        have e2 : jm_w M + jc_N a ≤ jm_w r.2 := hle.2
        exact js_new Cc F (blt_lt z2) (jw_ts Cc F _ hs) hd hn hw (by omega) (by omega) (hk rfl _ _ _ h (Nat.le_trans hn (Nat.le_succ _)) (Nat.le_trans hw (Nat.le_add_right _ _)))
      · cases q3
    · rename_i hne
      obtain ⟨hst, h0⟩ := ck_some h
      clear h
      have h := h0
      clear h0
      refine hthr hd ?_ ?_ hne (beq_n hst) h
      · match a3, hne, q2 with
        | 0, hne, _ => exact absurd rfl hne
        | n + 1, _, q2 => exact beq_n (band q2).1
      · match a3, hne, q2 with
        | 0, hne, _ => exact absurd rfl hne
        | n + 1, _, q2 => exact beq_n (band q2).2
  · obtain ⟨q1, q2⟩ := band hX
    obtain rfl : len = 2 := beq_n q1
    obtain ⟨x, s', hq0, h0⟩ := pi_some h
    clear h
    subst hq0
    have h := h0
    clear h0
    obtain ⟨hx0, h0⟩ := if_no h
    clear h
    have h := h0
    clear h0
    obtain ⟨hx1, h0⟩ := if_no h
    clear h
    have h := h0
    clear h0
    have hle := hkle _ _ _ h
    have e1 : jm_n M + 1 ≤ jm_n r.2 := hle.1
    have e2 : jm_w M + x.toNatClampNeg ≤ jm_w r.2 := hle.2
    have hkk := hk rfl _ _ _ h (Nat.le_trans hn (Nat.le_succ _)) (Nat.le_trans hw (Nat.le_add_right _ _))
    split at q2
    · obtain rfl := beq_n q2
      exact js_newa_int Cc F hx0 hx1 hd hn hw (by omega) (by omega) hkk
    · obtain rfl := beq_n q2
      exact js_newa_long Cc F hx0 hx1 hd hn hw (by omega) (by omega) hkk
    · obtain rfl := beq_n q2
      exact js_newa_byte Cc F hx0 hx1 hd hn hw (by omega) (by omega) hkk
    · cases q2
  · obtain rfl : len = 1 := beq_n hX
    obtain ⟨x, s', hq0, h0⟩ := pr_some h
    clear h
    subst hq0
    have h := h0
    clear h0
    obtain ⟨hka, h0⟩ := if_yes h
    clear h
    have h := h0
    clear h0
    exact js_alen Cc F hka hd (hk rfl _ _ _ h hn hw)
  · obtain rfl : len = 1 := beq_n hX
    obtain ⟨y, s', hq0, h0⟩ := pi_some h
    clear h
    subst hq0
    have h := h0
    clear h0
    obtain ⟨x, s', hq0, h0⟩ := pr_some h
    clear h
    subst hq0
    have h := h0
    clear h0
    obtain ⟨hka, h0⟩ := if_yes h
    clear h
    have h := h0
    clear h0
    obtain ⟨hi, h0⟩ := if_no h
    clear h
    have h := h0
    clear h0
    exact js_iaload Cc F hka hi hd (hk rfl _ _ _ h hn hw)
  · obtain rfl : len = 1 := beq_n hX
    obtain ⟨y, s', hq0, h0⟩ := pi_some h
    clear h
    subst hq0
    have h := h0
    clear h0
    obtain ⟨x, s', hq0, h0⟩ := pr_some h
    clear h
    subst hq0
    have h := h0
    clear h0
    obtain ⟨hka, h0⟩ := if_yes h
    clear h
    have h := h0
    clear h0
    obtain ⟨hi, h0⟩ := if_no h
    clear h
    have h := h0
    clear h0
    exact js_laload Cc F hka hi hd (hk rfl _ _ _ h hn hw)
  · obtain rfl : len = 1 := beq_n hX
    obtain ⟨y, s', hq0, h0⟩ := pi_some h
    clear h
    subst hq0
    have h := h0
    clear h0
    obtain ⟨x, s', hq0, h0⟩ := pr_some h
    clear h
    subst hq0
    have h := h0
    clear h0
    obtain ⟨hka, h0⟩ := if_yes h
    clear h
    have h := h0
    clear h0
    obtain ⟨hi, h0⟩ := if_no h
    clear h
    have h := h0
    clear h0
    exact js_baload Cc F hka hi hd (hk rfl _ _ _ h hn hw)
  · obtain rfl : len = 1 := beq_n hX
    obtain ⟨v', s', hq0, h0⟩ := pi_some h
    clear h
    subst hq0
    have h := h0
    clear h0
    obtain ⟨y, s', hq0, h0⟩ := pi_some h
    clear h
    subst hq0
    have h := h0
    clear h0
    obtain ⟨x, s', hq0, h0⟩ := pr_some h
    clear h
    subst hq0
    have h := h0
    clear h0
    obtain ⟨hka, h0⟩ := if_yes h
    clear h
    have h := h0
    clear h0
    obtain ⟨hi, h0⟩ := if_no h
    clear h
    have h := h0
    clear h0
    exact js_iastore Cc F hka hi hd (hk rfl _ _ _ h hn hw)
  · obtain rfl : len = 1 := beq_n hX
    obtain ⟨v', s', hq0, h0⟩ := pl_some h
    clear h
    subst hq0
    have h := h0
    clear h0
    obtain ⟨y, s', hq0, h0⟩ := pi_some h
    clear h
    subst hq0
    have h := h0
    clear h0
    obtain ⟨x, s', hq0, h0⟩ := pr_some h
    clear h
    subst hq0
    have h := h0
    clear h0
    obtain ⟨hka, h0⟩ := if_yes h
    clear h
    have h := h0
    clear h0
    obtain ⟨hi, h0⟩ := if_no h
    clear h
    have h := h0
    clear h0
    exact js_lastore Cc F hka hi hd (hk rfl _ _ _ h hn hw)
  · obtain rfl : len = 1 := beq_n hX
    obtain ⟨v', s', hq0, h0⟩ := pi_some h
    clear h
    subst hq0
    have h := h0
    clear h0
    obtain ⟨y, s', hq0, h0⟩ := pi_some h
    clear h
    subst hq0
    have h := h0
    clear h0
    obtain ⟨x, s', hq0, h0⟩ := pr_some h
    clear h
    subst hq0
    have h := h0
    clear h0
    obtain ⟨hka, h0⟩ := if_yes h
    clear h
    have h := h0
    clear h0
    obtain ⟨hi, h0⟩ := if_no h
    clear h
    have h := h0
    clear h0
    exact js_bastore Cc F hka hi hd (hk rfl _ _ _ h hn hw)
  · obtain ⟨q1, q2⟩ := band hX
    obtain rfl : len = 3 := beq_n q1
    exact jw_call0 Cc F hd q2 h hrk hn hw hRf hRl hRc hRs hD hkle (hk rfl)
  · obtain ⟨q1, q2⟩ := band hX
    obtain rfl : len = 3 := beq_n q1
    exact jw_call1 Cc F hd q2 h hrk hn hw hRf hRl hRc hRs hD hkle (hk rfl)
  · obtain ⟨q1, q2⟩ := band hX
    obtain rfl : len = 3 := beq_n q1
    exact jw_call2 Cc F hd q2 h hrk hn hw hRf hRl hRc hRs hD hkle (hk rfl) hled
  · split at h
    · split at h
      · obtain ⟨q1, q2⟩ := band hX
        obtain rfl : len = 1 := beq_n q1
        cases h
        exact hreti hd (Or.inl (of_decide_eq_true q2)) rfl
      · rename_i hne
        obtain ⟨q1, q2⟩ := band hX
        obtain rfl : len = 1 := beq_n q1
        obtain ⟨hv, h0⟩ := if_yes h
        clear h
        have h := h0
        clear h0
        cases h
        refine hreti hd (Or.inr ⟨?_, hv⟩) rfl
        match a1, hne, q2 with
        | 0, hne, _ => exact absurd rfl hne
        | n + 1, _, q2 => exact of_decide_eq_true q2
    · cases h
  · split at h
    · obtain ⟨q1, q2⟩ := band hX
      obtain rfl : len = 1 := beq_n q1
      cases h
      exact hretl hd (of_decide_eq_true q2) rfl
    · cases h
  · split at h
    · obtain ⟨q1, q2⟩ := band hX
      obtain rfl : len = 1 := beq_n q1
      cases h
      exact hretv hd (of_decide_eq_true q2) rfl
    · cases h
  · cases h
end SND
