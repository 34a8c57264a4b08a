/-! THE JDK's OWN: Object's constructor, max, min; a text's length, its char at -/
theorem jc_mem_of {i : Nat} {w : Jvm.Cond} (h : (jt_tabs.getD (i / 1000) [])[i % 1000]? = some w) (hg : jc_good w = true) : w ∈ jc_gw := List.mem_filter.mpr ⟨jc_t_mem h, hg⟩
theorem jc_obI : Cond.instanceMethod Lib.objectInit ∈ jc_gw := jc_w_mem (i := 1031) (by decide +kernel)
set_option maxRecDepth 100000 in
theorem jc_obC : Cond.code Lib.objectInit ⟨#[0xb1]⟩ 1 none ∈ jc_gw := jc_mem_of (i := 1032) rfl rfl
theorem jc_mathI : Cond.initialized "java/lang/Math" ∈ jc_gw := jc_w_mem (i := 1018) (by decide +kernel)
theorem jc_mxS : Cond.static Lib.Math.max.name ∈ jc_gw := jc_w_mem (i := 4085) (by decide +kernel)
set_option maxRecDepth 100000 in
theorem jc_mxC : Cond.code Lib.Math.max.name Lib.Math.max.code 2 (some .int) ∈ jc_gw := jc_mem_of (i := 4086) rfl rfl
theorem jc_mnS : Cond.static Lib.Math.min.name ∈ jc_gw := jc_w_mem (i := 5063) (by decide +kernel)
set_option maxRecDepth 100000 in
theorem jc_mnC : Cond.code Lib.Math.min.name Lib.Math.min.code 2 (some .int) ∈ jc_gw := jc_mem_of (i := 5064) rfl rfl
theorem jc_mlS : Cond.static Lib.MathLoose.max_long.x ∈ jc_gw := jc_w_mem (i := 5176) (by decide +kernel)
set_option maxRecDepth 100000 in
theorem jc_mlC : Cond.code Lib.MathLoose.max_long.x Lib.MathLoose.max_long.code 4 (some .long) ∈ jc_gw := jc_mem_of (i := 5177) rfl rfl
section PRI
variable {p : Program} {l : Launch} {e : Env} {R : Room} {s s0 : State} {m : MethodId} {args : Array Value} {below : List Frame} {meth : Method} {c : Code} {Q : State → Prop} {D : va_G} {cI cJ cB : ClassId} {sp : Nat → Nat} {L b0 : Nat} {xs : Nat → Int32} {n0 w0 j : Nat}
variable {M : jM} {ls : jL} {st : List Value} {pc : Nat}
theorem js_objInit (Cc : jw_C s0 D cI cJ cB sp L b0 xs) (F : jw_F p s s0 m meth c j) (hrk : 10 ≤ jt_rk j) {i a : Nat} (hs : Cond.methodLink (jt_on (jt_o j)) i Lib.objectInit ∈ jc_gw) (hcat : jx_cat st ≤ 8) (hRf : jt_rk j ≤ R.frames) (hRl : 40 * jt_rk j ≤ R.locals) (hd : decode (jt_cc j) pc = .ok (.invokespecial i, 3)) (kk : jw_W p l e R s s0 m args below meth c Q D cI cJ cB sp L xs n0 w0 (jt_nl j) M ls st (pc + 3)) : jw_W p l e R s s0 m args below meth c Q D cI cJ cB sp L xs n0 w0 (jt_nl j) M ls (.ref a :: st) pc := fun H locs ar hH hL hl => by
  have hts := jw_ts (args := args) Cc F
  exact W.objInit F.1 F.2.1 F.2.2.2.1 (hts _ hs) (hts _ jc_obI) (hts _ jc_obC) rfl (hL.2.1.trans F.2.2.1.symm) rfl hd (by omega) (by rw [jw_cats]; show 2 * 0 + _ + 12 ≤ _; omega) (kk H locs ar hH hL hl)
theorem js_mmax (Cc : jw_C s0 D cI cJ cB sp L b0 xs) (F : jw_F p s s0 m meth c j) (hrk : 10 ≤ jt_rk j) {i : Nat} {x y : Int32} (hs : Cond.methodLink (jt_on (jt_o j)) i Lib.Math.max.name ∈ jc_gw) (hcat : jx_cat st ≤ 8) (hRf : jt_rk j ≤ R.frames) (hRl : 40 * jt_rk j ≤ R.locals) (hc : jm_n M - n0 ≤ R.cells) (hsl : jm_w M - w0 ≤ R.slots) (hd : decode (jt_cc j) pc = .ok (.invokestatic i, 3)) (kk : jw_W p l e R s s0 m args below meth c Q D cI cJ cB sp L xs n0 w0 (jt_nl j) M ls (.int (if x < y then y else x) :: st) (pc + 3)) : jw_W p l e R s s0 m args below meth c Q D cI cJ cB sp L xs n0 w0 (jt_nl j) M ls (.int y :: .int x :: st) pc := fun H locs ar hH hL hl => by
  have hts := jw_ts (args := args) Cc F
  exact va_mmax F.1 F.2.1 (F.2.2.1.trans hL.2.1.symm) F.2.2.2.1 (hts _ hs) (hts _ jc_mxS) (hts _ jc_mathI) (hts _ jc_mxC) (by omega) (by rw [jw_cats]; omega) hc hsl hd (kk H locs ar hH hL hl)
theorem js_mmin (Cc : jw_C s0 D cI cJ cB sp L b0 xs) (F : jw_F p s s0 m meth c j) (hrk : 10 ≤ jt_rk j) {i : Nat} {x y : Int32} (hs : Cond.methodLink (jt_on (jt_o j)) i Lib.Math.min.name ∈ jc_gw) (hcat : jx_cat st ≤ 8) (hRf : jt_rk j ≤ R.frames) (hRl : 40 * jt_rk j ≤ R.locals) (hc : jm_n M - n0 ≤ R.cells) (hsl : jm_w M - w0 ≤ R.slots) (hd : decode (jt_cc j) pc = .ok (.invokestatic i, 3)) (kk : jw_W p l e R s s0 m args below meth c Q D cI cJ cB sp L xs n0 w0 (jt_nl j) M ls (.int (if y < x then y else x) :: st) (pc + 3)) : jw_W p l e R s s0 m args below meth c Q D cI cJ cB sp L xs n0 w0 (jt_nl j) M ls (.int y :: .int x :: st) pc := fun H locs ar hH hL hl => by
  have hts := jw_ts (args := args) Cc F
  exact va_mmin F.1 F.2.1 (F.2.2.1.trans hL.2.1.symm) F.2.2.2.1 (hts _ hs) (hts _ jc_mnS) (hts _ jc_mathI) (hts _ jc_mnC) (by omega) (by rw [jw_cats]; omega) hc hsl hd (kk H locs ar hH hL hl)
theorem js_mmaxl (Cc : jw_C s0 D cI cJ cB sp L b0 xs) (F : jw_F p s s0 m meth c j) (hrk : 10 ≤ jt_rk j) {i : Nat} {x y : Int64} (hs : Cond.methodLink (jt_on (jt_o j)) i Lib.MathLoose.max_long.x ∈ jc_gw) (hcat : jx_cat st ≤ 8) (hRf : jt_rk j ≤ R.frames) (hRl : 40 * jt_rk j ≤ R.locals) (hc : jm_n M - n0 ≤ R.cells) (hsl : jm_w M - w0 ≤ R.slots) (hd : decode (jt_cc j) pc = .ok (.invokestatic i, 3)) (kk : jw_W p l e R s s0 m args below meth c Q D cI cJ cB sp L xs n0 w0 (jt_nl j) M ls (.long (if y < x then x else y) :: st) (pc + 3)) : jw_W p l e R s s0 m args below meth c Q D cI cJ cB sp L xs n0 w0 (jt_nl j) M ls (.long y :: .long x :: st) pc := fun H locs ar hH hL hl => by
  have hts := jw_ts (args := args) Cc F
  exact va_mmax_long F.1 F.2.1 (F.2.2.1.trans hL.2.1.symm) F.2.2.2.1 (hts _ hs) (hts _ jc_mlS) (hts _ jc_mathI) (hts _ jc_mlC) (by omega) (by rw [jw_cats]; omega) hc hsl hd (kk H locs ar hH hL hl)
theorem js_strlen (Cc : jw_C s0 D cI cJ cB sp L b0 xs) (F : jw_F p s s0 m meth c j) (hrk : 10 ≤ jt_rk j) {i a : Nat} (hs : Cond.methodLink (jt_on (jt_o j)) i yJ0_length_8abf5 ∈ jc_gw) (hka : jm_k M a = 40) (hcat : jx_cat st ≤ 8) (hRf : jt_rk j ≤ R.frames) (hRl : 40 * jt_rk j ≤ R.locals) (hc : jm_n M - n0 ≤ R.cells) (hsl : jm_w M - w0 ≤ R.slots) (hd : decode (jt_cc j) pc = .ok (.invokevirtual i, 3)) (kk : jw_W p l e R s s0 m args below meth c Q D cI cJ cB sp L xs n0 w0 (jt_nl j) M ls (.int (Int32.ofNat (jt_tx a).length) :: st) (pc + 3)) : jw_W p l e R s s0 m args below meth c Q D cI cJ cB sp L xs n0 w0 (jt_nl j) M ls (.ref a :: st) pc := by
  sorry
theorem js_charAt (Cc : jw_C s0 D cI cJ cB sp L b0 xs) (F : jw_F p s s0 m meth c j) (hrk : 10 ≤ jt_rk j) {i a : Nat} {x : Int32} (hs : Cond.methodLink (jt_on (jt_o j)) i yJ0_charAt_5068e ∈ jc_gw) (hka : jm_k M a = 40) (hx : ¬ (x < 0 ∨ (jt_tx a).length ≤ x.toNatClampNeg)) (hcat : jx_cat st ≤ 8) (hRf : jt_rk j ≤ R.frames) (hRl : 40 * jt_rk j ≤ R.locals) (hc : jm_n M - n0 ≤ R.cells) (hsl : jm_w M - w0 ≤ R.slots) (hd : decode (jt_cc j) pc = .ok (.invokevirtual i, 3)) (kk : jw_W p l e R s s0 m args below meth c Q D cI cJ cB sp L xs n0 w0 (jt_nl j) M ls (.int ((jt_tx a).getD x.toNatClampNeg 0) :: st) (pc + 3)) : jw_W p l e R s s0 m args below meth c Q D cI cJ cB sp L xs n0 w0 (jt_nl j) M ls (.int x :: .ref a :: st) pc := by
  sorry
end PRI
