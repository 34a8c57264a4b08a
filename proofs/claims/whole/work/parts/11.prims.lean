/-! THE JDK's OWN: Object's constructor, max, min; a text's length, its char at -/
theorem jc_mem_of {i : Nat} {w : Jvm.Cond} (h : (jt_tabs.getD (i / 1000) [])[i % 1000]? = some w) (hg : jc_good w = true) : w ∈ jc_gw := List.mem_filter.mpr ⟨jc_t_mem h, hg⟩
theorem jc_obI : Cond.instanceMethod Lib.objectInit ∈ jc_gw := jc_w_mem (i := 1031) (by decide +kernel)
set_option maxRecDepth 100000 in
theorem jc_obC : Cond.code Lib.objectInit ⟨#[0xb1]⟩ 1 none ∈ jc_gw := jc_mem_of (i := 1032) rfl rfl
theorem jc_mathI : Cond.initialized "java/lang/Math" ∈ jc_gw := jc_w_mem (i := 1018) (by decide +kernel)
theorem jc_mxS : Cond.static Lib.Math.max.name ∈ jc_gw := jc_w_mem (i := 4085) (by decide +kernel)
set_option maxRecDepth 100000 in
theorem jc_mxC : Cond.code Lib.Math.max.name Lib.Math.max.code 2 (some .int) ∈ jc_gw := jc_mem_of (i := 4086) rfl rfl
theorem jc_mnS : Cond.static Lib.Math.min.name ∈ jc_gw := jc_w_mem (i := 5063) (by decide +kernel)
set_option maxRecDepth 100000 in
theorem jc_mnC : Cond.code Lib.Math.min.name Lib.Math.min.code 2 (some .int) ∈ jc_gw := jc_mem_of (i := 5064) rfl rfl
theorem jc_mlS : Cond.static Lib.MathLoose.max_long.x ∈ jc_gw := jc_w_mem (i := 5176) (by decide +kernel)
set_option maxRecDepth 100000 in
theorem jc_mlC : Cond.code Lib.MathLoose.max_long.x Lib.MathLoose.max_long.code 4 (some .long) ∈ jc_gw := jc_mem_of (i := 5177) rfl rfl
/-! THE JDK's TEXTS: length and charAt over the constants -/
theorem jq_T.at {z : Nat} {s0 s : State} {ad av : Nat} {byt : List Int32} (h : jq_T z s0 s0.heap ad av byt) (hW : s0.WarmedH s.vm) {H : Heap} (hS : va_S (fun q => z ≤ q) s0.heap H []) : jq_T z s H ad av byt :=
  ⟨(va_O.moved hW.alike h.1).kept hS.2.1, (va_OF.moved hW.alike h.2.1).kept hS.2.1, (va_OF.moved hW.alike h.2.2.1).kept hS.2.1, (va_T.moved hW.alike h.2.2.2).kept hS.2.1⟩
theorem jq_Z.at {z : Nat} {s0 s : State} (h : jq_Z z s0 s0.heap) (hW : s0.WarmedH s.vm) {H : Heap} (hS : va_S (fun q => z ≤ q) s0.heap H []) : jq_Z z s H :=
  ⟨(va_Z.moved hW.alike h.1).kept hS.2.1, (va_Zq.moved hW.alike h.2).kept hS.2.1⟩
/-- a method of the JDK's that changes no cell -/
def jq_Pc (s0 : State) (as : List Value) : Array Value → State → Prop := fun v U => v = as.toArray ∧ va_S (fun q => s0.heap.size ≤ q) s0.heap U.heap [] ∧ s0.WarmedH U.vm
def jq_Qc (r : Option Value) : Array Value → State → Outcome → State → Prop := fun _ st o t => o = .returned r ∧ t.heap = st.heap
def jq_rm (k : Nat) : Room := { frames := k, cells := 0, slots := 0, locals := 40 * k }
def jq_Met (l : Launch) (s0 : State) (y : MethodName) (cc : ByteArray) (nl : Nat) (ret : Option FieldType) (k : Nat) (as : List Value) (r : Option Value) : Prop :=
  Met l y [Cond.code y cc nl ret] (jq_rm k) (jq_Pc s0 as) (jq_Qc r) 0 0 (fun a => s0.heap.size ≤ a)
theorem jq_S0 (z : Nat) (H : Heap) : va_S (fun q => z ≤ q) H H [] := ⟨Nat.le_refl _, fun _ _ _ => rfl, fun _ h => nomatch h⟩
theorem jq_pc {s0 s : State} {H : Heap} {as : List Value} (hS : va_S (fun q => s0.heap.size ≤ q) s0.heap H []) (hW : s0.WarmedH s.vm) : FrameBlind (jq_Pc s0 as) ∧ ∀ U : State, U.heap = H → s.WarmedH U.vm → jq_Pc s0 as as.toArray U :=
  ⟨fun a U g mk h => h, fun U hU h2 => ⟨rfl, by rw [hU]; exact hS, State.WarmedH.trans hW h2⟩⟩
theorem jq_run {p : Program} {l : Launch} {e : Env} {R : Room} {s : State} {m : MethodId} {args : Array Value} {below : List Frame} {meth : Method} {c : Code} {H : Heap} {locs : List Loc} {cells slots z pc : Nat} {Q : State → Prop} {ar : Array Slot} {st0 rest : List Value} {a : Array Value} {r : Option Value}
    (hrun : va_Run p l e R s m args below meth c H locs cells slots 0 0 (F0 m pc ar st0) rest (jq_Qc r a) (fun a => z ≤ a)) (hl : ∀ q ∈ locs, z ≤ q.base)
    (kk : ∀ locs1 : List Loc, (∀ q ∈ locs1, z ≤ q.base) → W p l e R s m args below meth c H locs1 cells slots Q (F0 m (pc + 3) ar (r.toList ++ rest))) : W p l e R s m args below meth c H locs cells slots Q (F0 m pc ar st0) := by
  intro T hT X
  obtain ⟨v, st₀, t, T', L', h0, X', hL', e1, e2, ⟨hq, hH'⟩, stp⟩ := hrun T hT X
  cases hq
  obtain ⟨t2, a1, b1⟩ := kk (locs ++ L') (fun q hq => (List.mem_append.mp hq).elim (hl q) (hL' q)) T' (e1.trans (hH'.trans h0)) X'
  exact ⟨t2, stp t2 a1, b1⟩
set_option maxRecDepth 100000 in
theorem jq_cLen : Cond.code yJ0_length_8abf5 cJ0_length_8abf5 1 (some .int) ∈ jc_gw := jc_mem_of (i := 1200) rfl rfl
set_option maxRecDepth 100000 in
theorem jq_cCod : Cond.code yJ0_coder_7d493 cJ0_coder_7d493 1 (some .byte) ∈ jc_gw := jc_mem_of (i := 1204) rfl rfl
set_option maxRecDepth 100000 in
theorem jq_cCha : Cond.code yJ0_charAt_5068e cJ0_charAt_5068e 2 (some .char) ∈ jc_gw := jc_mem_of (i := 1211) rfl rfl
set_option maxRecDepth 100000 in
theorem jq_cLat : Cond.code yJ0_isLatin1_aae02 cJ0_isLatin1_aae02 1 (some .boolean) ∈ jc_gw := jc_mem_of (i := 1215) rfl rfl
set_option maxRecDepth 100000 in
theorem jq_cCh1 : Cond.code yJ1_charAt_3b067 cJ1_charAt_3b067 2 (some .char) ∈ jc_gw := jc_mem_of (i := 1218) rfl rfl
set_option maxRecDepth 100000 in
theorem jq_cChk : Cond.code yJ0_checkIndex_df160 cJ0_checkIndex_df160 2 none ∈ jc_gw := jc_mem_of (i := 1221) rfl rfl
set_option maxRecDepth 100000 in
theorem jq_cPre : Cond.code yJ3_checkIndex_8e157 cJ3_checkIndex_8e157 3 (some .int) ∈ jc_gw := jc_mem_of (i := 1226) rfl rfl
theorem jq_iStr : Cond.initialized "java/lang/String" ∈ jc_gw := jc_w_mem (i := 1006) (by decide +kernel)
theorem jq_iLat : Cond.initialized "java/lang/StringLatin1" ∈ jc_gw := jc_w_mem (i := 1007) (by decide +kernel)
theorem jq_iPre : Cond.initialized "jdk/internal/util/Preconditions" ∈ jc_gw := jc_w_mem (i := 1008) (by decide +kernel)
theorem jq_fVal : Cond.fieldLink "java/lang/String" 9 "java/lang/String" "value" "[B" ∈ jc_gw := jc_w_mem (i := 10000) (by decide +kernel)
theorem jq_fCod : Cond.fieldLink "java/lang/String" 15 "java/lang/String" "coder" "B" ∈ jc_gw := jc_w_mem (i := 10001) (by decide +kernel)
theorem jq_fCom : Cond.fieldLink "java/lang/String" 38 "java/lang/String" "COMPACT_STRINGS" "Z" ∈ jc_gw := jc_w_mem (i := 1205) (by decide +kernel)
theorem jq_fFor : Cond.fieldLink "java/lang/String" 1053 "jdk/internal/util/Preconditions" "SIOOBE_FORMATTER" "Ljava/util/function/BiFunction;" ∈ jc_gw := jc_w_mem (i := 1222) (by decide +kernel)
theorem jq_mLen : Cond.instanceMethod yJ0_length_8abf5 ∈ jc_gw ∧ Cond.selects "java/lang/String" yJ0_length_8abf5 yJ0_length_8abf5 ∈ jc_gw := ⟨jc_w_mem (i := 1198) (by decide +kernel), jc_w_mem (i := 1199) (by decide +kernel)⟩
theorem jq_mCha : Cond.instanceMethod yJ0_charAt_5068e ∈ jc_gw ∧ Cond.selects "java/lang/String" yJ0_charAt_5068e yJ0_charAt_5068e ∈ jc_gw := ⟨jc_w_mem (i := 1209) (by decide +kernel), jc_w_mem (i := 1210) (by decide +kernel)⟩
theorem jq_mCod : Cond.methodLink "java/lang/String" 335 yJ0_coder_7d493 ∈ jc_gw ∧ Cond.instanceMethod yJ0_coder_7d493 ∈ jc_gw ∧ Cond.selects "java/lang/String" yJ0_coder_7d493 yJ0_coder_7d493 ∈ jc_gw := ⟨jc_w_mem (i := 1201) (by decide +kernel), jc_w_mem (i := 1202) (by decide +kernel), jc_w_mem (i := 1203) (by decide +kernel)⟩
theorem jq_mLat : Cond.methodLink "java/lang/String" 492 yJ0_isLatin1_aae02 ∈ jc_gw ∧ Cond.instanceMethod yJ0_isLatin1_aae02 ∈ jc_gw ∧ Cond.selects "java/lang/String" yJ0_isLatin1_aae02 yJ0_isLatin1_aae02 ∈ jc_gw := ⟨jc_w_mem (i := 1212) (by decide +kernel), jc_w_mem (i := 1213) (by decide +kernel), jc_w_mem (i := 1214) (by decide +kernel)⟩
theorem jq_mCh1 : Cond.methodLink "java/lang/String" 495 yJ1_charAt_3b067 ∈ jc_gw ∧ Cond.static yJ1_charAt_3b067 ∈ jc_gw := ⟨jc_w_mem (i := 1216) (by decide +kernel), jc_w_mem (i := 1217) (by decide +kernel)⟩
theorem jq_mChk : Cond.methodLink "java/lang/StringLatin1" 9 yJ0_checkIndex_df160 ∈ jc_gw ∧ Cond.static yJ0_checkIndex_df160 ∈ jc_gw := ⟨jc_w_mem (i := 1219) (by decide +kernel), jc_w_mem (i := 1220) (by decide +kernel)⟩
theorem jq_mPre : Cond.methodLink "java/lang/String" 1059 yJ3_checkIndex_8e157 ∈ jc_gw ∧ Cond.static yJ3_checkIndex_8e157 ∈ jc_gw := ⟨jc_w_mem (i := 1224) (by decide +kernel), jc_w_mem (i := 1225) (by decide +kernel)⟩
theorem jq_cwV {R : Room} {s : State} {args : Array Value} {own : String} {i n nl k : Nat} {y : MethodName} {cc : ByteArray} {ret : Option FieldType} (hts : ∀ w ∈ jc_gw, w.before args s = true) (hlink : Cond.methodLink own i y ∈ jc_gw) (hm : Cond.instanceMethod y ∈ jc_gw ∧ Cond.selects y.cls y y ∈ jc_gw) (hi : Cond.initialized y.cls ∈ jc_gw) (hc : Cond.code y cc nl ret ∈ jc_gw)
    (hd : y.cls ≠ "java/lang/invoke/MethodHandle" ∧ y.cls ≠ "java/lang/invoke/VarHandle" ∧ (parseMethodDescriptor y.desc).map (fun d => d.parameters.length) = some n) (hR : k + 1 ≤ R.frames ∧ 8 + (nl + 11) + 40 * k ≤ R.locals) : CallW R s args own y.cls i y cc nl ret [Cond.code y cc nl ret] (jq_rm k) 0 0 n :=
  cwV n hts (goodIn_l fun w hw => by
      simp only [wsV, List.mem_append, List.mem_cons, List.not_mem_nil, or_false] at hw
      rcases hw with (rfl | rfl | rfl | rfl) | rfl
      · exact ⟨hlink, rfl⟩
      · exact ⟨hm.1, rfl⟩
      · exact ⟨hm.2, rfl⟩
      · exact ⟨hi, rfl⟩
      · exact ⟨hc, rfl⟩) rfl rfl rfl ⟨rfl, hd⟩ hR
theorem jq_cwS {R : Room} {s : State} {args : Array Value} {own : String} {i n nl k : Nat} {y : MethodName} {cc : ByteArray} {ret : Option FieldType} (hts : ∀ w ∈ jc_gw, w.before args s = true) (hlink : Cond.methodLink own i y ∈ jc_gw) (hm : Cond.static y ∈ jc_gw) (hi : Cond.initialized y.cls ∈ jc_gw) (hc : Cond.code y cc nl ret ∈ jc_gw)
    (hd : y.cls ≠ "java/lang/invoke/MethodHandle" ∧ y.cls ≠ "java/lang/invoke/VarHandle" ∧ (parseMethodDescriptor y.desc).map (fun d => d.parameters.length) = some n) (hR : k + 1 ≤ R.frames ∧ 8 + (nl + 11) + 40 * k ≤ R.locals) : CallB R s args own i y cc nl ret [Cond.code y cc nl ret] (jq_rm k) 0 0 n ∧ (Cond.static y).before args s = true :=
  ⟨callB_of n hts (goodIn_l fun w hw => by
      simp only [List.mem_cons, List.not_mem_nil, or_false] at hw
      rw [hw]
      exact ⟨hc, rfl⟩) rfl rfl rfl (hts _ hi) (hts _ hlink) hd hR, hts _ hm⟩
section JQ
variable {l : Launch} {s0 : State} {b0 ad av : Nat} {byt : List Int32}
theorem jq_coder (Cw : ∀ w ∈ lw_tbl, w.before #[Value.ref b0] s0 = true) (hZ : jq_Z s0.heap.size s0 s0.heap) (hT : jq_T s0.heap.size s0 s0.heap ad av byt) : jq_Met l s0 yJ0_coder_7d493 cJ0_coder_7d493 1 (some .byte) 1 [.ref ad] (some (.int 0)) := by
  refine Met.ofW (cc := cJ0_coder_7d493) (maxL := 1) (ret := some .byte) (by decide +kernel) rfl ?_
  intro p e s m args below meth c s₁ B hml hP
  obtain ⟨rfl, hS, hW⟩ := hP
  have hts := jw_stable Cw hW ([Value.ref ad]).toArray
  have hown : s.vm.findClass "java/lang/String" = some m.cls := findClass_of_methodNamed B.named
  have hr := B.returns
  have hlocks := B.notSynchronized
  have hT' := hT.at hW hS
  have hZ' := hZ.at hW hS
  have hS' := jq_S0 s0.heap.size s.heap
  rw [lg_entry_eq]
  refine va_gets B.exec B.bytes hZ'.1 hS' hown (hts _ jq_fCom) (fun _ h => h) (by decide +kernel) ?_
  refine lv_if_eq B.exec B.bytes (off := 10) (tgt := 13) (by decide +kernel) (by decide) (fun h => absurd h (by decide)) (fun _ => ?_)
  refine lv_aload_n B.exec B.bytes (k := 0) (i := 0) (x := ad) (by decide +kernel) rfl rfl ?_
  refine vk_getf B.exec B.bytes hT'.2.1 hS' hown (hts _ jq_fCod) (fun _ h => h) (by decide +kernel) ?_
  refine lv_goto B.exec B.bytes (off := 4) (tgt := 14) (by decide +kernel) (by decide) ?_
  exact W.zret B.exec B.bytes hr rfl (fun t ht _ => ⟨rfl, ht⟩) (fun _ h => nomatch h) (by decide +kernel) hlocks
theorem jq_isLatin1 (Cw : ∀ w ∈ lw_tbl, w.before #[Value.ref b0] s0 = true) (hZ : jq_Z s0.heap.size s0 s0.heap) (hT : jq_T s0.heap.size s0 s0.heap ad av byt) : jq_Met l s0 yJ0_isLatin1_aae02 cJ0_isLatin1_aae02 1 (some .boolean) 1 [.ref ad] (some (.int 1)) := by
  refine Met.ofW (cc := cJ0_isLatin1_aae02) (maxL := 1) (ret := some .boolean) (by decide +kernel) rfl ?_
  intro p e s m args below meth c s₁ B hml hP
  obtain ⟨rfl, hS, hW⟩ := hP
  have hts := jw_stable Cw hW ([Value.ref ad]).toArray
  have hown : s.vm.findClass "java/lang/String" = some m.cls := findClass_of_methodNamed B.named
  have hr := B.returns
  have hlocks := B.notSynchronized
  have hT' := hT.at hW hS
  have hZ' := hZ.at hW hS
  have hS' := jq_S0 s0.heap.size s.heap
  rw [lg_entry_eq]
  refine va_gets B.exec B.bytes hZ'.1 hS' hown (hts _ jq_fCom) (fun _ h => h) (by decide +kernel) ?_
  refine lv_if_eq B.exec B.bytes (off := 14) (tgt := 17) (by decide +kernel) (by decide) (fun h => absurd h (by decide)) (fun _ => ?_)
  refine lv_aload_n B.exec B.bytes (k := 0) (i := 0) (x := ad) (by decide +kernel) rfl rfl ?_
  refine vk_getf B.exec B.bytes hT'.2.1 hS' hown (hts _ jq_fCod) (fun _ h => h) (by decide +kernel) ?_
  refine lv_if_ne B.exec B.bytes (off := 7) (tgt := 17) (by decide +kernel) (by decide) (fun h => absurd rfl h) (fun _ => ?_)
  refine lv_iconst B.exec B.bytes (n := 1) (v := 1) (by decide +kernel) (by decide) ?_
  refine lv_goto B.exec B.bytes (off := 4) (tgt := 18) (by decide +kernel) (by decide) ?_
  exact W.zret B.exec B.bytes hr rfl (fun t ht _ => ⟨rfl, ht⟩) (fun _ h => nomatch h) (by decide +kernel) hlocks
theorem jq_alen {p : Program} {e : Env} {R : Room} {s : State} {m : MethodId} {args : Array Value} {below : List Frame} {meth : Method} {c : Code} {H : Heap} {locs : List Loc} {cells slots z pc : Nat} {Q : State → Prop} {ls : Array Slot} {rest : List Value} {cc : ByteArray} (hexec : p.tables.exec = Jvm.exec) (hb : c.code = cc) (hT : jq_T z s H ad av byt) (hdg : decode cc pc = .ok (.arraylength, 1))
    (kk : W p l e R s m args below meth c H locs cells slots Q (F0 m (pc + 1) ls (.int (Int32.ofNat byt.length) :: rest))) : W p l e R s m args below meth c H locs cells slots Q (F0 m pc ls (.ref av :: rest)) := by
  obtain ⟨-, -, -, cell, h1, h2, h3, h4, h5, h6, h7⟩ := hT
  exact W.alen hexec hb h1 h2 h5 rfl rfl hdg kk
theorem jq_length (Cw : ∀ w ∈ lw_tbl, w.before #[Value.ref b0] s0 = true) (hZ : jq_Z s0.heap.size s0 s0.heap) (hT : jq_T s0.heap.size s0 s0.heap ad av byt) : jq_Met l s0 yJ0_length_8abf5 cJ0_length_8abf5 1 (some .int) 2 [.ref ad] (some (.int (Int32.ofNat byt.length))) := by
  refine Met.ofW (cc := cJ0_length_8abf5) (maxL := 1) (ret := some .int) (by decide +kernel) rfl ?_
  intro p e s m args below meth c s₁ B hml hP
  obtain ⟨rfl, hS, hW⟩ := hP
  have hts := jw_stable Cw hW ([Value.ref ad]).toArray
  have hown : s.vm.findClass "java/lang/String" = some m.cls := findClass_of_methodNamed B.named
  have hr := B.returns
  have hlocks := B.notSynchronized
  have hT' := hT.at hW hS
  have hS' := jq_S0 s0.heap.size s.heap
  have fix : CallFix p m c cJ0_length_8abf5 1 s ([Value.ref ad]).toArray jc_gw "java/lang/String" := ⟨B.exec, B.bytes, hml, hown, hts⟩
  obtain ⟨cell, o1, o2, o3, -⟩ := hT'.1
  rw [lg_entry_eq]
  refine lv_aload_n B.exec B.bytes (k := 0) (i := 0) (x := ad) (by decide +kernel) rfl rfl ?_
  refine vk_getf B.exec B.bytes hT'.2.2.1 hS' hown (hts _ jq_fVal) (fun _ h => h) (by decide +kernel) ?_
  refine jq_alen B.exec B.bytes hT' (by decide +kernel) ?_
  refine lv_aload_n B.exec B.bytes (k := 0) (i := 0) (x := ad) (by decide +kernel) rfl rfl ?_
  refine jq_run (rest := [.int (Int32.ofNat byt.length)]) (va_runV (As := []) (C := "java/lang/String") fix (jq_coder Cw hZ hT) (jq_cwV hts jq_mCod.1 jq_mCod.2 jq_iStr jq_cCod (n := 0) ⟨by decide +kernel, by decide +kernel, by decide +kernel⟩ ⟨Nat.le_refl _, by decide⟩) ⟨(jq_pc (as := [.ref ad]) hS hW).1, ⟨cell, o1, o2, o3⟩, (jq_pc (as := [.ref ad]) hS hW).2⟩ rfl rfl rfl rfl (show 2 * 0 + 1 ≤ 8 by decide) (show decode cJ0_length_8abf5 6 = .ok (.invokevirtual 335, 3) by decide +kernel) ⟨Nat.le_refl _, Nat.le_refl _⟩) (fun _ h => nomatch h) fun locs1 hl1 => ?_
  refine lv_ishr B.exec B.bytes (x := Int32.ofNat byt.length) (y := 0) (by decide +kernel) ?_
  have e0 : Int32.ofNat byt.length >>> ((0 : Int32) &&& 31) = Int32.ofNat byt.length := by
    rw [show ((0 : Int32) &&& 31) = 0 from by decide]
    exact Int32.shiftRight_zero
  rw [e0]
  exact W.iret B.exec B.bytes hr (fun t ht _ => ⟨rfl, ht⟩) hl1 (by decide +kernel) hlocks
theorem jq_pre {x n : Int32} {v : Value} (hx : ¬ x < 0) (hn : x < n) (hv : lg_sl [v] = [.val v]) : jq_Met l s0 yJ3_checkIndex_8e157 cJ3_checkIndex_8e157 3 (some .int) 1 [.int x, .int n, v] (some (.int x)) := by
  refine Met.ofW (cc := cJ3_checkIndex_8e157) (maxL := 3) (ret := some .int) (by decide +kernel) rfl ?_
  intro p e s m args below meth c s₁ B hml hP
  obtain ⟨rfl, hS, hW⟩ := hP
  have hr := B.returns
  have hlocks := B.notSynchronized
  rw [lg_entry_eq]
  have e0 : lg_sl [.int x, .int n, v] = [.val (.int x), .val (.int n), .val v] := by
    show Slot.val (.int x) :: Slot.val (.int n) :: lg_sl [v] = _
    rw [hv]
  rw [e0]
  refine lv_iload_n B.exec B.bytes (k := 0) (i := 0) (x := x) (by decide +kernel) rfl rfl ?_
  refine lv_if_lt B.exec B.bytes (off := 8) (tgt := 9) (by decide +kernel) (by decide) (fun h => absurd h hx) (fun _ => ?_)
  refine lv_iload_n B.exec B.bytes (k := 0) (i := 0) (x := x) (by decide +kernel) rfl rfl ?_
  refine lv_iload_n B.exec B.bytes (k := 1) (i := 1) (x := n) (by decide +kernel) rfl rfl ?_
  refine lv_icmp_lt B.exec B.bytes (off := 10) (tgt := 16) (by decide +kernel) (by decide) (fun _ => ?_) (fun h => absurd hn h)
  refine lv_iload_n B.exec B.bytes (k := 0) (i := 0) (x := x) (by decide +kernel) rfl rfl ?_
  exact W.iret B.exec B.bytes hr (fun t ht _ => ⟨rfl, ht⟩) (fun _ h => nomatch h) (by decide +kernel) hlocks
theorem jq_check (Cw : ∀ w ∈ lw_tbl, w.before #[Value.ref b0] s0 = true) (hZ : jq_Z s0.heap.size s0 s0.heap) {x n : Int32} (hx : ¬ x < 0) (hn : x < n) : jq_Met l s0 yJ0_checkIndex_df160 cJ0_checkIndex_df160 2 none 2 [.int x, .int n] none := by
  refine Met.ofW (cc := cJ0_checkIndex_df160) (maxL := 2) (ret := none) (by decide +kernel) rfl ?_
  intro p e s m args below meth c s₁ B hml hP
  obtain ⟨rfl, hS, hW⟩ := hP
  have hts := jw_stable Cw hW ([Value.int x, .int n]).toArray
  have hown : s.vm.findClass "java/lang/String" = some m.cls := findClass_of_methodNamed B.named
  have hr := B.returns
  have hlocks := B.notSynchronized
  have hZ' := hZ.at hW hS
  have hS' := jq_S0 s0.heap.size s.heap
  have fix : CallFix p m c cJ0_checkIndex_df160 2 s ([Value.int x, .int n]).toArray jc_gw "java/lang/String" := ⟨B.exec, B.bytes, hml, hown, hts⟩
  rw [lg_entry_eq]
  have key : ∀ v : Value, lg_sl [v] = [.val v] → W p l e (headSpec [Cond.code yJ0_checkIndex_df160 cJ0_checkIndex_df160 2 none] (jq_rm 2)).room s m ([Value.int x, .int n]).toArray below meth c s.heap [] 0 0 (MQ below (jq_Qc none) ([Value.int x, .int n]).toArray s 0 0 (fun a => s0.heap.size ≤ a)) (F0 m 5 ((lg_sl [.int x, .int n] ++ List.replicate (2 - (lg_sl [.int x, .int n]).length) Slot.unset).toArray) [v, .int n, .int x]) := by
    intro v hv
    refine jq_run (rest := []) (va_runS (As := [.int x, .int n, v]) fix (jq_pre hx hn hv) (jq_cwS hts jq_mPre.1 jq_mPre.2 jq_iPre jq_cPre (n := 3) ⟨by decide +kernel, by decide +kernel, by decide +kernel⟩ ⟨Nat.le_refl _, by decide⟩) (jq_pc (as := [.int x, .int n, v]) hS hW) rfl rfl rfl rfl (show 2 * 0 + 0 ≤ 8 by decide) (show decode cJ0_checkIndex_df160 5 = .ok (.invokestatic 1059, 3) by decide +kernel) ⟨Nat.le_refl _, Nat.le_refl _⟩) (fun _ h => nomatch h) fun locs1 hl1 => ?_
    refine lv_pop B.exec B.bytes (va := .int x) (by decide +kernel) rfl ?_
    exact W.vret B.exec B.bytes hr (fun t ht _ => ⟨rfl, ht⟩) hl1 (by decide +kernel) hlocks
  refine lv_iload_n B.exec B.bytes (k := 0) (i := 0) (x := x) (by decide +kernel) rfl rfl ?_
  refine lv_iload_n B.exec B.bytes (k := 1) (i := 1) (x := n) (by decide +kernel) rfl rfl ?_
  rcases hZ'.2 with h | ⟨t, h⟩
  · exact va_gets B.exec B.bytes h hS' hown (hts _ jq_fFor) (fun _ h => h) (by decide +kernel) (key .null rfl)
  · exact va_gets B.exec B.bytes h hS' hown (hts _ jq_fFor) (fun _ h => h) (by decide +kernel) (key (.ref t) rfl)
def jq_asc (x : Int32) : Bool := decide (((x &&& 255).toUInt32 % 65536).toInt32 = x) && decide ((x.toUInt32 % 65536).toInt32 = x)
theorem jq_lt {x : Int32} {n : Nat} (hn : n < 2 ^ 31) (hx : ¬ (x < 0 ∨ n ≤ x.toNatClampNeg)) : x < Int32.ofNat n := by
  have h1 : ¬ x < 0 := fun h => hx (Or.inl h)
  have h2 : x.toNatClampNeg < n := Nat.not_le.mp fun h => hx (Or.inr h)
  have h0 : (0 : Int) ≤ x.toInt := by
    have := Int32.not_lt.mp h1
    simpa using Int32.le_iff_toInt_le.mp this
  have e1 : x.toInt = (x.toNatClampNeg : Int) := by
    show x.toInt = ((x.toInt.toNat : Nat) : Int)
    omega
  refine Int32.lt_iff_toInt_lt.mpr ?_
  rw [e1, Int32.toInt_ofNat_of_lt (by omega)]
  omega
theorem jq_narrow {x : Int32} (h : jq_asc x = true) : narrow .char (.int x) = .int x := congrArg Value.int (of_decide_eq_true (Bool.and_eq_true_iff.mp h).2)
theorem jq_char1 (Cw : ∀ w ∈ lw_tbl, w.before #[Value.ref b0] s0 = true) (hZ : jq_Z s0.heap.size s0 s0.heap) (hT : jq_T s0.heap.size s0 s0.heap ad av byt) (hN : byt.length < 2 ^ 31) {x : Int32} (hx : ¬ (x < 0 ∨ byt.length ≤ x.toNatClampNeg)) (hasc : jq_asc (byt.getD x.toNatClampNeg 0) = true) : jq_Met l s0 yJ1_charAt_3b067 cJ1_charAt_3b067 2 (some .char) 3 [.ref av, .int x] (some (.int (byt.getD x.toNatClampNeg 0))) := by
  refine Met.ofW (cc := cJ1_charAt_3b067) (maxL := 2) (ret := some .char) (by decide +kernel) rfl ?_
  intro p e s m args below meth c s₁ B hml hP
  obtain ⟨rfl, hS, hW⟩ := hP
  have hts := jw_stable Cw hW ([Value.ref av, .int x]).toArray
  have hown : s.vm.findClass "java/lang/StringLatin1" = some m.cls := findClass_of_methodNamed B.named
  have hr := B.returns
  have hlocks := B.notSynchronized
  have hT' := hT.at hW hS
  have hS' := jq_S0 s0.heap.size s.heap
  have fix : CallFix p m c cJ1_charAt_3b067 2 s ([Value.ref av, .int x]).toArray jc_gw "java/lang/StringLatin1" := ⟨B.exec, B.bytes, hml, hown, hts⟩
  rw [lg_entry_eq]
  refine lv_iload_n B.exec B.bytes (k := 1) (i := 1) (x := x) (by decide +kernel) rfl rfl ?_
  refine lv_aload_n B.exec B.bytes (k := 0) (i := 0) (x := av) (by decide +kernel) rfl rfl ?_
  refine jq_alen B.exec B.bytes hT' (by decide +kernel) ?_
  refine jq_run (rest := []) (va_runS (As := [.int x, .int (Int32.ofNat byt.length)]) fix (jq_check Cw hZ (fun h => hx (Or.inl h)) (jq_lt hN hx)) (jq_cwS hts jq_mChk.1 jq_mChk.2 jq_iStr jq_cChk (n := 2) ⟨by decide +kernel, by decide +kernel, by decide +kernel⟩ ⟨Nat.le_refl _, by decide⟩) (jq_pc (as := [.int x, .int (Int32.ofNat byt.length)]) hS hW) rfl rfl rfl rfl (show 2 * 0 + 0 ≤ 8 by decide) (show decode cJ1_charAt_3b067 3 = .ok (.invokestatic 9, 3) by decide +kernel) ⟨Nat.le_refl _, Nat.le_refl _⟩) (fun _ h => nomatch h) fun locs1 hl1 => ?_
  refine lv_aload_n B.exec B.bytes (k := 0) (i := 0) (x := av) (by decide +kernel) rfl rfl ?_
  refine lv_iload_n B.exec B.bytes (k := 1) (i := 1) (x := x) (by decide +kernel) rfl rfl ?_
  refine va_tb B.exec B.bytes hT'.2.2.2 ⟨Nat.le_refl _, fun _ _ _ => rfl, hl1⟩ hx rfl (by decide +kernel) ?_
  refine lv_sipush B.exec B.bytes (n := 255) (v := 255) (by decide +kernel) (by decide) ?_
  refine lv_iand B.exec B.bytes (by decide +kernel) ?_
  refine lv_i2c B.exec B.bytes (by decide +kernel) (of_decide_eq_true (Bool.and_eq_true_iff.mp hasc).1) ?_
  exact W.zret B.exec B.bytes hr (jq_narrow hasc) (fun t ht _ => ⟨rfl, ht⟩) hl1 (by decide +kernel) hlocks
theorem jq_charAt (Cw : ∀ w ∈ lw_tbl, w.before #[Value.ref b0] s0 = true) (hZ : jq_Z s0.heap.size s0 s0.heap) (hT : jq_T s0.heap.size s0 s0.heap ad av byt) (hN : byt.length < 2 ^ 31) {x : Int32} (hx : ¬ (x < 0 ∨ byt.length ≤ x.toNatClampNeg)) (hasc : jq_asc (byt.getD x.toNatClampNeg 0) = true) : jq_Met l s0 yJ0_charAt_5068e cJ0_charAt_5068e 2 (some .char) 4 [.ref ad, .int x] (some (.int (byt.getD x.toNatClampNeg 0))) := by
  refine Met.ofW (cc := cJ0_charAt_5068e) (maxL := 2) (ret := some .char) (by decide +kernel) rfl ?_
  intro p e s m args below meth c s₁ B hml hP
  obtain ⟨rfl, hS, hW⟩ := hP
  have hts := jw_stable Cw hW ([Value.ref ad, .int x]).toArray
  have hown : s.vm.findClass "java/lang/String" = some m.cls := findClass_of_methodNamed B.named
  have hr := B.returns
  have hlocks := B.notSynchronized
  have hT' := hT.at hW hS
  have fix : CallFix p m c cJ0_charAt_5068e 2 s ([Value.ref ad, .int x]).toArray jc_gw "java/lang/String" := ⟨B.exec, B.bytes, hml, hown, hts⟩
  obtain ⟨cell, o1, o2, o3, -⟩ := hT'.1
  rw [lg_entry_eq]
  refine lv_aload_n B.exec B.bytes (k := 0) (i := 0) (x := ad) (by decide +kernel) rfl rfl ?_
  refine jq_run (rest := []) (va_runV (As := []) (C := "java/lang/String") fix (jq_isLatin1 Cw hZ hT) (jq_cwV hts jq_mLat.1 jq_mLat.2 jq_iStr jq_cLat (n := 0) ⟨by decide +kernel, by decide +kernel, by decide +kernel⟩ ⟨by decide, by decide⟩) ⟨(jq_pc (as := [.ref ad]) hS hW).1, ⟨cell, o1, o2, o3⟩, (jq_pc (as := [.ref ad]) hS hW).2⟩ rfl rfl rfl rfl (show 2 * 0 + 0 ≤ 8 by decide) (show decode cJ0_charAt_5068e 1 = .ok (.invokevirtual 492, 3) by decide +kernel) ⟨Nat.le_refl _, Nat.le_refl _⟩) (fun _ h => nomatch h) fun locs1 hl1 => ?_
  refine lv_if_eq B.exec B.bytes (off := 12) (tgt := 16) (by decide +kernel) (by decide) (fun h => absurd h (by decide)) (fun _ => ?_)
  refine lv_aload_n B.exec B.bytes (k := 0) (i := 0) (x := ad) (by decide +kernel) rfl rfl ?_
  refine vk_getf B.exec B.bytes hT'.2.2.1 ⟨Nat.le_refl _, fun _ _ _ => rfl, hl1⟩ hown (hts _ jq_fVal) (fun _ h => h) (by decide +kernel) ?_
  refine lv_iload_n B.exec B.bytes (k := 1) (i := 1) (x := x) (by decide +kernel) rfl rfl ?_
  refine jq_run (rest := []) (va_runS (As := [.ref av, .int x]) fix (jq_char1 Cw hZ hT hN hx hasc) (jq_cwS hts jq_mCh1.1 jq_mCh1.2 jq_iLat jq_cCh1 (n := 2) ⟨by decide +kernel, by decide +kernel, by decide +kernel⟩ ⟨Nat.le_refl _, by decide⟩) (jq_pc (as := [.ref av, .int x]) hS hW) rfl rfl rfl rfl (show 2 * 0 + 0 ≤ 8 by decide) (show decode cJ0_charAt_5068e 12 = .ok (.invokestatic 495, 3) by decide +kernel) ⟨Nat.le_refl _, Nat.le_refl _⟩) hl1 fun locs2 hl2 => ?_
  exact W.zret B.exec B.bytes hr (jq_narrow hasc) (fun t ht _ => ⟨rfl, ht⟩) hl2 (by decide +kernel) hlocks
end JQ
theorem jq_asc_ok : jt_txs.all (fun t => t.all jq_asc && Nat.blt t.length 1000) = true := by decide +kernel
theorem jq_txs_ok (a : Nat) : (∀ i, jq_asc ((jt_tx a).getD i 0) = true) ∧ (jt_tx a).length < 2 ^ 31 := by
  unfold jt_tx
  rw [List.getD_eq_getElem?_getD]
  cases hq : jt_txs[a - 2]? with
  | none =>
    refine ⟨fun i => ?_, by decide⟩
    show jq_asc (([] : List Int32).getD i 0) = true
    rw [List.getD_nil]; decide
  | some t =>
    have h := List.all_eq_true.mp jq_asc_ok t (List.mem_of_getElem? hq)
    obtain ⟨h1, h2⟩ := Bool.and_eq_true_iff.mp h
    refine ⟨fun i => ?_, ?_⟩
    · show jq_asc (t.getD i 0) = true
      rw [List.getD_eq_getElem?_getD]
      cases hi : t[i]? with
      | none => decide
      | some v => exact List.all_eq_true.mp h1 v (List.mem_of_getElem? hi)
    · show t.length < _
      have := blt_lt h2
      omega
section PRI
variable {p : Program} {l : Launch} {e : Env} {R : Room} {s s0 : State} {m : MethodId} {args : Array Value} {below : List Frame} {meth : Method} {c : Code} {Q : State → Prop} {D : va_G} {cI cJ cB : ClassId} {sp : Nat → Nat} {L b0 : Nat} {xs : Nat → Int32} {n0 w0 j : Nat}
variable {M : jM} {ls : jL} {st : List Value} {pc : Nat}
theorem js_objInit (Cc : jw_C s0 D cI cJ cB sp L b0 xs) (F : jw_F p s s0 m meth c j) (hrk : 10 ≤ jt_rk j) {i a : Nat} (hs : Cond.methodLink (jt_on (jt_o j)) i Lib.objectInit ∈ jc_gw) (hcat : jx_cat st ≤ 8) (hRf : jt_rk j ≤ R.frames) (hRl : 40 * jt_rk j ≤ R.locals) (hd : decode (jt_cc j) pc = .ok (.invokespecial i, 3)) (kk : jw_W p l e R s s0 m args below meth c Q D cI cJ cB sp L xs n0 w0 (jt_nl j) M ls st (pc + 3)) : jw_W p l e R s s0 m args below meth c Q D cI cJ cB sp L xs n0 w0 (jt_nl j) M ls (.ref a :: st) pc := fun H locs ar hH hL hl => by
  have hts := jw_ts (args := args) Cc F
  exact W.objInit F.1 F.2.1 F.2.2.2.1 (hts _ hs) (hts _ jc_obI) (hts _ jc_obC) rfl (hL.2.1.trans F.2.2.1.symm) rfl hd (by omega) (by rw [jw_cats]; show 2 * 0 + _ + 12 ≤ _; omega) (kk H locs ar hH hL hl)
theorem js_mmax (Cc : jw_C s0 D cI cJ cB sp L b0 xs) (F : jw_F p s s0 m meth c j) (hrk : 10 ≤ jt_rk j) {i : Nat} {x y : Int32} (hs : Cond.methodLink (jt_on (jt_o j)) i Lib.Math.max.name ∈ jc_gw) (hcat : jx_cat st ≤ 8) (hRf : jt_rk j ≤ R.frames) (hRl : 40 * jt_rk j ≤ R.locals) (hc : jm_n M - n0 ≤ R.cells) (hsl : jm_w M - w0 ≤ R.slots) (hd : decode (jt_cc j) pc = .ok (.invokestatic i, 3)) (kk : jw_W p l e R s s0 m args below meth c Q D cI cJ cB sp L xs n0 w0 (jt_nl j) M ls (.int (if x < y then y else x) :: st) (pc + 3)) : jw_W p l e R s s0 m args below meth c Q D cI cJ cB sp L xs n0 w0 (jt_nl j) M ls (.int y :: .int x :: st) pc := fun H locs ar hH hL hl => by
  have hts := jw_ts (args := args) Cc F
  exact va_mmax F.1 F.2.1 (F.2.2.1.trans hL.2.1.symm) F.2.2.2.1 (hts _ hs) (hts _ jc_mxS) (hts _ jc_mathI) (hts _ jc_mxC) (by omega) (by rw [jw_cats]; omega) hc hsl hd (kk H locs ar hH hL hl)
theorem js_mmin (Cc : jw_C s0 D cI cJ cB sp L b0 xs) (F : jw_F p s s0 m meth c j) (hrk : 10 ≤ jt_rk j) {i : Nat} {x y : Int32} (hs : Cond.methodLink (jt_on (jt_o j)) i Lib.Math.min.name ∈ jc_gw) (hcat : jx_cat st ≤ 8) (hRf : jt_rk j ≤ R.frames) (hRl : 40 * jt_rk j ≤ R.locals) (hc : jm_n M - n0 ≤ R.cells) (hsl : jm_w M - w0 ≤ R.slots) (hd : decode (jt_cc j) pc = .ok (.invokestatic i, 3)) (kk : jw_W p l e R s s0 m args below meth c Q D cI cJ cB sp L xs n0 w0 (jt_nl j) M ls (.int (if y < x then y else x) :: st) (pc + 3)) : jw_W p l e R s s0 m args below meth c Q D cI cJ cB sp L xs n0 w0 (jt_nl j) M ls (.int y :: .int x :: st) pc := fun H locs ar hH hL hl => by
  have hts := jw_ts (args := args) Cc F
  exact va_mmin F.1 F.2.1 (F.2.2.1.trans hL.2.1.symm) F.2.2.2.1 (hts _ hs) (hts _ jc_mnS) (hts _ jc_mathI) (hts _ jc_mnC) (by omega) (by rw [jw_cats]; omega) hc hsl hd (kk H locs ar hH hL hl)
theorem js_mmaxl (Cc : jw_C s0 D cI cJ cB sp L b0 xs) (F : jw_F p s s0 m meth c j) (hrk : 10 ≤ jt_rk j) {i : Nat} {x y : Int64} (hs : Cond.methodLink (jt_on (jt_o j)) i Lib.MathLoose.max_long.x ∈ jc_gw) (hcat : jx_cat st ≤ 8) (hRf : jt_rk j ≤ R.frames) (hRl : 40 * jt_rk j ≤ R.locals) (hc : jm_n M - n0 ≤ R.cells) (hsl : jm_w M - w0 ≤ R.slots) (hd : decode (jt_cc j) pc = .ok (.invokestatic i, 3)) (kk : jw_W p l e R s s0 m args below meth c Q D cI cJ cB sp L xs n0 w0 (jt_nl j) M ls (.long (if y < x then x else y) :: st) (pc + 3)) : jw_W p l e R s s0 m args below meth c Q D cI cJ cB sp L xs n0 w0 (jt_nl j) M ls (.long y :: .long x :: st) pc := fun H locs ar hH hL hl => by
  have hts := jw_ts (args := args) Cc F
  exact va_mmax_long F.1 F.2.1 (F.2.2.1.trans hL.2.1.symm) F.2.2.2.1 (hts _ hs) (hts _ jc_mlS) (hts _ jc_mathI) (hts _ jc_mlC) (by omega) (by rw [jw_cats]; omega) hc hsl hd (kk H locs ar hH hL hl)
theorem js_txt (Cc : jw_C s0 D cI cJ cB sp L b0 xs) {H : Heap} {a : Nat} (hH : jw_H s0.heap D cI cJ cB sp L xs M H) (hka : jm_k M a = 40) : a < 100 ∧ ∃ av, jq_T s0.heap.size s0 s0.heap (sp a) av (jt_tx a) := by
  have h4 := hH.2.2.2.1
  have h5 := hH.2.2.2.2
  have ha : a < 100 := by
    refine Nat.not_le.mp fun q => ?_
    obtain ⟨-, h⟩ := h5 a q (by omega)
    unfold jw_ent at h
    rw [if_neg (by omega), if_neg (by omega), if_neg (by omega), hka] at h
    obtain ⟨r, hr, -⟩ := h
    have hl13 : vwCl.length = 13 := rfl
    have : 40 - 1 < vwCl.length := (List.getElem?_eq_some_iff.mp hr).1
    omega
  refine ⟨ha, ?_⟩
  rcases h4 a ha with z | ⟨z, -⟩ | ⟨-, z1, z2⟩
  · omega
  · omega
  · have h := Cc.2.2.2.2.2.2 (a - 2) (by omega)
    rw [show a - 2 + 2 = a by omega] at h
    exact h
theorem js_strlen (Cc : jw_C s0 D cI cJ cB sp L b0 xs) (F : jw_F p s s0 m meth c j) (hrk : 10 ≤ jt_rk j) {i a : Nat} (hs : Cond.methodLink (jt_on (jt_o j)) i yJ0_length_8abf5 ∈ jc_gw) (hka : jm_k M a = 40) (hcat : jx_cat st ≤ 8) (hRf : jt_rk j ≤ R.frames) (hRl : 40 * jt_rk j ≤ R.locals) (hc : jm_n M - n0 ≤ R.cells) (hsl : jm_w M - w0 ≤ R.slots) (hd : decode (jt_cc j) pc = .ok (.invokevirtual i, 3)) (kk : jw_W p l e R s s0 m args below meth c Q D cI cJ cB sp L xs n0 w0 (jt_nl j) M ls (.int (Int32.ofNat (jt_tx a).length) :: st) (pc + 3)) : jw_W p l e R s s0 m args below meth c Q D cI cJ cB sp L xs n0 w0 (jt_nl j) M ls (.ref a :: st) pc := fun H locs ar hH hL hl => by
  obtain ⟨ha, av, hT⟩ := js_txt Cc hH hka
  have hW := F.2.2.2.2.1
  have hts := jw_ts (args := args) Cc F
  have hS : va_S (fun q => s0.heap.size ≤ q) s0.heap H [] := jw_S hH (fun _ h => nomatch h)
  obtain ⟨cell, o1, o2, o3, -⟩ := (hT.at hW hS).1
  have ea : jw_v (jw_ad s0.heap.size sp) (.ref a) = .ref (sp a) := by show Value.ref (jw_ad _ _ _) = _; unfold jw_ad; rw [if_pos ha]
  rw [List.map_cons, ea]
  exact jq_run (rest := st.map (jw_v (jw_ad s0.heap.size sp))) (va_runV (As := []) (C := "java/lang/String") (js_callfix Cc F) (jq_length Cc.1 Cc.2.2.2.2.2.1 hT) (jq_cwV hts hs jq_mLen jq_iStr jq_cLen (n := 0) ⟨by decide +kernel, by decide +kernel, by decide +kernel⟩ ⟨by omega, by omega⟩) ⟨(jq_pc (as := [.ref (sp a)]) hS hW).1, ⟨cell, o1, o2, o3⟩, (jq_pc (as := [.ref (sp a)]) hS hW).2⟩ rfl rfl hL.2.1 rfl (by rw [jw_cats]; show 2 * 0 + _ ≤ 8; omega) hd ⟨by omega, by omega⟩) hl fun locs1 hl1 => kk H locs1 ar hH hL hl1
theorem js_charAt (Cc : jw_C s0 D cI cJ cB sp L b0 xs) (F : jw_F p s s0 m meth c j) (hrk : 10 ≤ jt_rk j) {i a : Nat} {x : Int32} (hs : Cond.methodLink (jt_on (jt_o j)) i yJ0_charAt_5068e ∈ jc_gw) (hka : jm_k M a = 40) (hx : ¬ (x < 0 ∨ (jt_tx a).length ≤ x.toNatClampNeg)) (hcat : jx_cat st ≤ 8) (hRf : jt_rk j ≤ R.frames) (hRl : 40 * jt_rk j ≤ R.locals) (hc : jm_n M - n0 ≤ R.cells) (hsl : jm_w M - w0 ≤ R.slots) (hd : decode (jt_cc j) pc = .ok (.invokevirtual i, 3)) (kk : jw_W p l e R s s0 m args below meth c Q D cI cJ cB sp L xs n0 w0 (jt_nl j) M ls (.int ((jt_tx a).getD x.toNatClampNeg 0) :: st) (pc + 3)) : jw_W p l e R s s0 m args below meth c Q D cI cJ cB sp L xs n0 w0 (jt_nl j) M ls (.int x :: .ref a :: st) pc := fun H locs ar hH hL hl => by
  obtain ⟨ha, av, hT⟩ := js_txt Cc hH hka
  have hW := F.2.2.2.2.1
  have hts := jw_ts (args := args) Cc F
  have hS : va_S (fun q => s0.heap.size ≤ q) s0.heap H [] := jw_S hH (fun _ h => nomatch h)
  obtain ⟨cell, o1, o2, o3, -⟩ := (hT.at hW hS).1
  have ea : jw_v (jw_ad s0.heap.size sp) (.ref a) = .ref (sp a) := by show Value.ref (jw_ad _ _ _) = _; unfold jw_ad; rw [if_pos ha]
  rw [List.map_cons, List.map_cons, ea]
  exact jq_run (rest := st.map (jw_v (jw_ad s0.heap.size sp))) (va_runV (As := [.int x]) (C := "java/lang/String") (js_callfix Cc F) (jq_charAt Cc.1 Cc.2.2.2.2.2.1 hT (jq_txs_ok a).2 hx ((jq_txs_ok a).1 _)) (jq_cwV hts hs jq_mCha jq_iStr jq_cCha (n := 1) ⟨by decide +kernel, by decide +kernel, by decide +kernel⟩ ⟨by omega, by omega⟩) ⟨(jq_pc (as := [.ref (sp a), .int x]) hS hW).1, ⟨cell, o1, o2, o3⟩, (jq_pc (as := [.ref (sp a), .int x]) hS hW).2⟩ rfl rfl hL.2.1 rfl (by rw [jw_cats]; show 2 * 0 + _ ≤ 8; omega) hd ⟨by omega, by omega⟩) hl fun locs1 hl1 => kk H locs1 ar hH hL hl1
end PRI
