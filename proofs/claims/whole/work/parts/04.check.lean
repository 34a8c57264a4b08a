/-! THE TABLES' CHECK: each instruction is what the bytes decode to, each operand what the words say; by the kernel. -/
def jc_nest : Jvm.Cond → Bool
  | .fieldLinkNest _ _ _ _ _ _ => true
  | .methodLinkNest _ _ _ _ => true
  | _ => false
def jc_good (w : Jvm.Cond) : Bool := goodWord w || jc_nest w
def jc_gw : List Jvm.Cond := lw_tbl.filter jc_good
def jc_w (i : Nat) (w : Jvm.Cond) : Bool := decide ((jt_tabs.getD (i / 1000) [])[i % 1000]? = some w) && jc_good w
theorem jt_tabs_sub : ∀ l ∈ jt_tabs, ∀ w ∈ l, w ∈ lw_tbl := by
  intro l hl w hw
  simp only [jt_tabs, List.mem_cons, List.not_mem_nil, or_false] at hl
  unfold lw_tbl tables_1
  simp only [List.mem_append]
  rcases hl with rfl | rfl | rfl | rfl | rfl | rfl | rfl | rfl | rfl | rfl | rfl
  · exact Or.inl hw
  · exact Or.inr (Or.inl hw)
  · exact Or.inr (Or.inr (Or.inl hw))
  · exact Or.inr (Or.inr (Or.inr (Or.inl hw)))
  · exact Or.inr (Or.inr (Or.inr (Or.inr (Or.inl hw))))
  · exact Or.inr (Or.inr (Or.inr (Or.inr (Or.inr (Or.inl hw)))))
  · exact Or.inr (Or.inr (Or.inr (Or.inr (Or.inr (Or.inr (Or.inl hw))))))
  · exact Or.inr (Or.inr (Or.inr (Or.inr (Or.inr (Or.inr (Or.inr (Or.inl hw)))))))
  · exact Or.inr (Or.inr (Or.inr (Or.inr (Or.inr (Or.inr (Or.inr (Or.inr (Or.inl hw))))))))
  · exact Or.inr (Or.inr (Or.inr (Or.inr (Or.inr (Or.inr (Or.inr (Or.inr (Or.inr (Or.inl hw)))))))))
  · exact Or.inr (Or.inr (Or.inr (Or.inr (Or.inr (Or.inr (Or.inr (Or.inr (Or.inr (Or.inr (hw))))))))))
theorem jc_t_mem {i : Nat} {w : Jvm.Cond} (h1 : (jt_tabs.getD (i / 1000) [])[i % 1000]? = some w) : w ∈ lw_tbl := by
  rw [List.getD_eq_getElem?_getD] at h1
  cases hq : jt_tabs[i / 1000]? with
  | none => rw [hq] at h1; cases h1
  | some l => rw [hq] at h1; exact jt_tabs_sub l (List.mem_of_getElem? hq) w (List.mem_of_getElem? h1)
theorem jc_w_mem {i : Nat} {w : Jvm.Cond} (h : jc_w i w = true) : w ∈ jc_gw := by
  unfold jc_w at h
  rw [Bool.and_eq_true] at h
  exact List.mem_filter.mpr ⟨jc_t_mem (of_decide_eq_true h.1), h.2⟩
def jc_cl (a : Nat) : vw_C := vwCl.getD a (RL, TX0, 0)
def jc_C (a : Nat) : String := (jc_cl a).1
def jc_T (a : Nat) : u_T := (jc_cl a).2.1
def jc_N (a : Nat) : Nat := (jc_cl a).2.2
def jc_ty (a k : Nat) : FieldType := (jt_cl.getD a (fun _ => .int)) k
def jc_fk (a k : Nat) : Nat := match jc_ty a k with
  | .int => 0
  | .long => 1
  | _ => 2
def jc_host (o : Nat) : String := if o < 12 then jt_host else jt_hostR
def jc_word (o : Nat) (e : Nat × Nat × Nat × Nat × Nat) : Jvm.Cond := match e.2.1 with
  | 1 => .fieldLink (jt_on o) e.1 (jc_T e.2.2.1 e.2.2.2.1).1 (jc_T e.2.2.1 e.2.2.2.1).2.1 (jc_T e.2.2.1 e.2.2.2.1).2.2.1
  | 2 => .fieldLinkNest (jt_on o) e.1 (jc_T e.2.2.1 e.2.2.2.1).1 (jc_T e.2.2.1 e.2.2.2.1).2.1 (jc_T e.2.2.1 e.2.2.2.1).2.2.1 (jc_host o)
  | 3 => .methodLink (jt_on o) e.1 (jt_y e.2.2.1)
  | 4 => .methodLinkNest (jt_on o) e.1 (jt_y e.2.2.1) (jc_host o)
  | 5 => .classLink (jt_on o) e.1 (jc_C e.2.2.1)
  | 6 => .constant (jt_on o) e.1 (Int32.ofNat e.2.2.1)
  | 7 => .constantLong (jt_on o) e.1 (Int64.ofNat e.2.2.1)
  | 9 => .methodLink (jt_on o) e.1 Lib.Math.max.name
  | 10 => .methodLink (jt_on o) e.1 Lib.Math.min.name
  | 11 => .methodLink (jt_on o) e.1 Lib.MathLoose.max_long.x
  | 12 => .methodLink (jt_on o) e.1 Lib.objectInit
  | 13 => .methodLink (jt_on o) e.1 yJ0_length_8abf5
  | 14 => .methodLink (jt_on o) e.1 yJ0_charAt_5068e
  | 15 => .methodLink (jt_on o) e.1 yL_led
  | _ => .tt
/-- a class's part of the pool: each entry's word is among the tables' -/
def jc_P (o : Nat) : Bool := (jt_ps.getD o []).all fun e => (Nat.beq e.2.1 8 && (match jt_sks.getD (e.2.2.1 - 2) (0, 0, "") with | (o', i', _) => Nat.beq o' o && Nat.beq i' e.1 && Nat.blt (e.2.2.1 - 2) jt_sks.length && Nat.ble 2 e.2.2.1)) || jc_w e.2.2.2.2 (jc_word o e)
def jc_find (o i : Nat) : Option (Nat × Nat × Nat × Nat × Nat) := (jt_ps.getD o []).find? fun e => Nat.beq e.1 i
def jc_inst (j : Nat) : Bool := Nat.beq (jt_ws.getD j (0, 0, 0, 0, 0)).1 1
/-- a method that is called -/
def jc_M (j : Nat) : Bool := match jt_ws.getD j (0, 0, 0, 0, 0) with
  | (st, wc, wi, ws, wn) => jc_w wn (.initialized (jt_y j).cls) && Nat.ble (jt_nl j) 21 && decide ((jt_y j).cls ≠ "java/lang/invoke/MethodHandle" ∧ (jt_y j).cls ≠ "java/lang/invoke/VarHandle") && decide (jt_on (jt_o j) = (jt_y j).cls) &&
    (match st with
      | 0 => jc_w wi (.static (jt_y j)) && decide ((parseMethodDescriptor (jt_y j).desc).map (fun d => d.parameters.length) = some (jt_na j))
      | _ => jc_w wi (.instanceMethod (jt_y j)) && (decide ((jt_y j).name = "<init>") || jc_w ws (.selects (jt_y j).cls (jt_y j) (jt_y j))) && decide ((parseMethodDescriptor (jt_y j).desc).map (fun d => d.parameters.length + 1) = some (jt_na j)))
def jc_to (j pc : Nat) (off : Int) (b : Nat) : Bool := Nat.blt b (jt_nb j) && decide ((pc : Int) + off = (jt_pc j b : Int))
def jc_cst (j i : Nat) (v : Value) : Bool := match v, jc_find (jt_o j) i with
  | .int c, some (_, 6, a, _, _) => decide (Int32.ofNat a = c)
  | .ref a, some (_, 8, a', _, _) => Nat.beq a a'
  | _, _ => false
def jc_cst2 (j i : Nat) (v : Value) : Bool := match v, jc_find (jt_o j) i with
  | .long c, some (_, 7, a, _, _) => decide (Int64.ofNat a = c)
  | _, _ => false
def jc_swk (j pc : Nat) (d lo hi : Int) (offs : Array Int) (t : Int × List Nat × Nat) : Bool :=
  decide (t.1 = lo) && decide (lo + t.2.1.length = hi + 1) && Nat.beq offs.size t.2.1.length && jc_to j pc d t.2.2 && (List.range t.2.1.length).all fun n => match offs[n]?, t.2.1[n]? with
    | some o, some b => jc_to j pc o b
    | _, _ => false
/-- a call: m 0 virtual, 1 special, 2 static -/
def jc_call (j : Nat) (m i : Nat) (x : jX) : Bool := match x.2.2.2.2.1 with
  | 10 => Nat.beq m 1 && (match jc_find (jt_o j) i with | some (_, 12, _, _, _) => true | _ => false)
  | 11 => Nat.beq m 2 && (match jc_find (jt_o j) i with | some (_, 9, _, _, _) => true | _ => false)
  | 12 => Nat.beq m 2 && (match jc_find (jt_o j) i with | some (_, 10, _, _, _) => true | _ => false)
  | 13 => Nat.beq m 2 && (match jc_find (jt_o j) i with | some (_, 11, _, _, _) => true | _ => false)
  | 14 => Nat.beq m 0 && (match jc_find (jt_o j) i with | some (_, 13, _, _, _) => true | _ => false)
  | 15 => Nat.beq m 0 && (match jc_find (jt_o j) i with | some (_, 14, _, _, _) => true | _ => false)
  | 16 => Nat.beq m 2 && Nat.beq j jt_law && Nat.beq x.2.2.1 jt_led && Nat.beq x.2.2.2.2.2 11 && (match jc_find (jt_o j) i with | some (_, 15, _, _, _) => true | _ => false)
  | 99 => true
  | _ => (match jc_find (jt_o j) i with
    | some (_, tag, a, _, _) => (Nat.beq tag 3 || Nat.beq tag 4) && decide (jt_y a = jt_y x.2.2.1) && Nat.blt x.2.2.1 jt_law && Nat.blt (jt_rk x.2.2.1) (jt_rk j) && Nat.beq x.2.2.2.1 (jt_na x.2.2.1) && !(Nat.beq x.2.2.1 jt_led) &&
      (match m with
        | 0 => jc_inst x.2.2.1 && Nat.blt 0 x.2.2.2.2.2 && Nat.blt 0 x.2.2.2.1 && decide (jc_C (x.2.2.2.2.2 - 1) = (jt_y x.2.2.1).cls) && Nat.ble x.2.2.2.2.2 vwCl.length && decide ((jt_y x.2.2.1).name ≠ "<init>")
        | 1 => jc_inst x.2.2.1 && Nat.blt 0 x.2.2.2.2.2 && Nat.blt 0 x.2.2.2.1 && decide ((jt_y x.2.2.1).name = "<init>") && decide (jt_ret x.2.2.1 = none)
        | _ => !jc_inst x.2.2.1 && Nat.beq x.2.2.2.2.2 0)
    | none => false)
/-- an instruction -/
def jc_X (j pc len : Nat) (x : jX) : Bool := match x.1 with
  | .aconst_null => Nat.beq len 1
  | .iconst n => Nat.beq len 1 && decide (x.2.1 = .int (Int32.ofInt n))
  | .lconst n => Nat.beq len 1 && decide (x.2.1 = .long (Int64.ofNat n.val))
  | .bipush n => Nat.beq len 2 && decide (x.2.1 = .int (Int8.ofInt n).toInt32)
  | .sipush n => Nat.beq len 3 && decide (x.2.1 = .int (Int16.ofInt n).toInt32)
  | .ldc i => Nat.beq len 2 && jc_cst j i x.2.1
  | .ldc_w i => Nat.beq len 3 && jc_cst j i x.2.1
  | .ldc2_w i => Nat.beq len 3 && jc_cst2 j i x.2.1
  | .iload _ => Nat.beq len 2
  | .lload _ => Nat.beq len 2
  | .aload _ => Nat.beq len 2
  | .istore _ => Nat.beq len 2
  | .lstore _ => Nat.beq len 2
  | .astore _ => Nat.beq len 2
  | .iinc _ n => Nat.beq len 3 && decide (x.2.1 = .int (Int32.ofInt n))
  | .goto off => Nat.beq len 3 && jc_to j pc off x.2.2.1
  | .ifCond _ off => Nat.beq len 3 && jc_to j pc off x.2.2.1
  | .if_icmp _ off => Nat.beq len 3 && jc_to j pc off x.2.2.1
  | .ifnull off => Nat.beq len 3 && jc_to j pc off x.2.2.1
  | .ifnonnull off => Nat.beq len 3 && jc_to j pc off x.2.2.1
  | .tableswitch d lo hi offs => jc_swk j pc d lo hi offs (jt_sw x.2.2.1)
  | .getfield i => Nat.beq len 3 && (match jc_find (jt_o j) i with
    | some (_, tag, a, k, _) => (Nat.beq tag 1 || Nat.beq tag 2) && Nat.beq a x.2.2.1 && Nat.beq k x.2.2.2.1 && Nat.blt k (jc_N a) && Nat.blt a vwCl.length && (Nat.beq x.2.2.2.2.1 (jc_fk a k) || (Nat.beq x.2.2.2.2.1 3 && Nat.beq (jc_fk a k) 2))
    | none => false)
  | .putfield i => Nat.beq len 3 && (match jc_find (jt_o j) i with
    | some (_, tag, a, k, _) => (Nat.beq tag 1 || Nat.beq tag 2) && Nat.beq a x.2.2.1 && Nat.beq k x.2.2.2.1 && Nat.blt k (jc_N a) && Nat.blt a vwCl.length && Nat.beq x.2.2.2.2.1 (jc_fk a k) && (!(jc_T a k).2.2.2 || (Nat.beq tag 1 && decide ((jt_y j).name = "<init>") && decide ((jc_T a k).1 = jt_on (jt_o j))))
    | none => false)
  | .new i => Nat.beq len 3 && (match x.2.2.2.2.1 with
    | 0 => (match jc_find (jt_o j) i with
      | some (_, 5, a, _, _) => Nat.beq a x.2.2.1 && Nat.blt a vwCl.length && Nat.beq (jc_N a) x.2.2.2.1
      | _ => false)
    | _ => Nat.beq j jt_led && Nat.beq pc (jt_pc jt_led (jt_nb jt_led - 1)))
  | .newarray t => Nat.beq len 2 && (match t with
    | .int => Nat.beq x.2.2.1 20
    | .long => Nat.beq x.2.2.1 21
    | .byte => Nat.beq x.2.2.1 22
    | _ => false)
  | .invokevirtual i => Nat.beq len 3 && jc_call j 0 i x
  | .invokespecial i => Nat.beq len 3 && jc_call j 1 i x
  | .invokestatic i => Nat.beq len 3 && jc_call j 2 i x
  | .ireturn => Nat.beq len 1 && (match x.2.2.1 with
    | 0 => decide (jt_ret j = some .int)
    | _ => decide (jt_ret j = some .boolean))
  | .lreturn => Nat.beq len 1 && decide (jt_ret j = some .long)
  | .return_ => Nat.beq len 1 && decide (jt_ret j = none)
  | _ => Nat.beq len 1
def jc_end (x : jX) : Bool := match x.1 with
  | .goto _ => true
  | .tableswitch _ _ _ _ => true
  | .ireturn => true
  | .lreturn => true
  | .return_ => true
  | .new _ => !(Nat.beq x.2.2.2.2.1 0)
  | _ => false
def jc_L (j : Nat) : Nat → List jX → Nat → Bool
  | pc, [], nx => Nat.blt nx (jt_nb j) && Nat.beq (jt_pc j nx) pc
  | pc, x :: xs, nx => match decode (jt_cc j) pc with
    | .ok (i, len) => decide (i = x.1) && jc_X j pc len x && (jc_end x || jc_L j (pc + len) xs nx)
    | .error _ => false
def jc_Jb (j b : Nat) : Bool := jc_L j (jt_pc j b) (jt_cd j b).1 (jt_cd j b).2.1 && Nat.ble (jt_cd j b).2.2.2.length (jt_nl j)
def jc_J (j : Nat) : Prop := 0 < jt_nb j ∧ jt_pc j 0 = 0 ∧ ∀ b, b < jt_nb j → jc_Jb j b = true
theorem jc_J_of {j : Nat} (h1 : (Nat.blt 0 (jt_nb j) && Nat.beq (jt_pc j 0) 0) = true) (h2 : (List.range (jt_nb j)).all (fun b => jc_Jb j b) = true) : jc_J j := by
  rw [Bool.and_eq_true] at h1
  exact ⟨Nat.lt_of_lt_of_le (Nat.lt_succ_self 0) (Nat.le_of_ble_eq_true h1.1), Nat.eq_of_beq_eq_true h1.2, fun b hb => List.all_eq_true.mp h2 b (List.mem_range.mpr hb)⟩
/-- a class: its layout's words, its fields' names and types -/
def jc_Cl (c wi wn : Nat) : Bool := ((List.range (jc_N c)).all fun k => jc_w ((jt_lw.getD c []).getD k 0) (u_lay (jc_C c) (jc_T c) k)) && decide (∀ a, a < jc_N c → ∀ b, b < jc_N c → a ≠ b → (jc_T c a).2.1 ≠ (jc_T c b).2.1) && decide (∀ k, k < jc_N c → parseFieldDescriptor (jc_T c k).2.2.1 = some (jc_ty c k)) && jc_w wi (.instantiable (jc_C c) (jc_N c)) && jc_w wn (.initialized (jc_C c))
theorem lt_more {P : Nat → Prop} {n : Nat} (h1 : P n) (h : ∀ b, b < n → P b) : ∀ b, b < n + 1 → P b := fun b hb => if q : b = n then q ▸ h1 else h b (by omega)
theorem jc_p_0 : jc_P 0 = true := by decide +kernel
theorem jc_p_1 : jc_P 1 = true := by decide +kernel
theorem jc_p_2 : jc_P 2 = true := by decide +kernel
theorem jc_p_3 : jc_P 3 = true := by decide +kernel
theorem jc_p_4 : jc_P 4 = true := by decide +kernel
theorem jc_p_5 : jc_P 5 = true := by decide +kernel
theorem jc_p_6 : jc_P 6 = true := by decide +kernel
theorem jc_p_7 : jc_P 7 = true := by decide +kernel
theorem jc_p_8 : jc_P 8 = true := by decide +kernel
theorem jc_p_9 : jc_P 9 = true := by decide +kernel
theorem jc_p_10 : jc_P 10 = true := by decide +kernel
theorem jc_p_11 : jc_P 11 = true := by decide +kernel
theorem jc_p_12 : jc_P 12 = true := by decide +kernel
theorem jc_p_13 : jc_P 13 = true := by decide +kernel
theorem jc_p_14 : jc_P 14 = true := by decide +kernel
theorem jc_p_15 : jc_P 15 = true := by decide +kernel
theorem jc_pool_ok : ∀ b, b < 16 → jc_P b = true := (lt_more (n := 15) jc_p_15 (lt_more (n := 14) jc_p_14 (lt_more (n := 13) jc_p_13 (lt_more (n := 12) jc_p_12 (lt_more (n := 11) jc_p_11 (lt_more (n := 10) jc_p_10 (lt_more (n := 9) jc_p_9 (lt_more (n := 8) jc_p_8 (lt_more (n := 7) jc_p_7 (lt_more (n := 6) jc_p_6 (lt_more (n := 5) jc_p_5 (lt_more (n := 4) jc_p_4 (lt_more (n := 3) jc_p_3 (lt_more (n := 2) jc_p_2 (lt_more (n := 1) jc_p_1 (lt_more (n := 0) jc_p_0 (fun b hb => absurd hb (Nat.not_lt_zero b))))))))))))))))))
theorem jc_m_0 : jc_M 0 = true := by decide +kernel
set_option maxRecDepth 100000 in
theorem jc_mc_0 : (jt_tabs.getD 2 [])[71]? = some (.code (jt_y 0) (jt_cc 0) (jt_nl 0) (jt_ret 0)) := rfl
theorem jc_m_1 : jc_M 1 = true := by decide +kernel
set_option maxRecDepth 100000 in
theorem jc_mc_1 : (jt_tabs.getD 4 [])[7]? = some (.code (jt_y 1) (jt_cc 1) (jt_nl 1) (jt_ret 1)) := rfl
theorem jc_m_2 : jc_M 2 = true := by decide +kernel
set_option maxRecDepth 100000 in
theorem jc_mc_2 : (jt_tabs.getD 5 [])[220]? = some (.code (jt_y 2) (jt_cc 2) (jt_nl 2) (jt_ret 2)) := rfl
theorem jc_m_3 : jc_M 3 = true := by decide +kernel
set_option maxRecDepth 100000 in
theorem jc_mc_3 : (jt_tabs.getD 6 [])[13]? = some (.code (jt_y 3) (jt_cc 3) (jt_nl 3) (jt_ret 3)) := rfl
theorem jc_m_4 : jc_M 4 = true := by decide +kernel
set_option maxRecDepth 100000 in
theorem jc_mc_4 : (jt_tabs.getD 6 [])[21]? = some (.code (jt_y 4) (jt_cc 4) (jt_nl 4) (jt_ret 4)) := rfl
theorem jc_m_5 : jc_M 5 = true := by decide +kernel
set_option maxRecDepth 100000 in
theorem jc_mc_5 : (jt_tabs.getD 6 [])[29]? = some (.code (jt_y 5) (jt_cc 5) (jt_nl 5) (jt_ret 5)) := rfl
theorem jc_m_6 : jc_M 6 = true := by decide +kernel
set_option maxRecDepth 100000 in
theorem jc_mc_6 : (jt_tabs.getD 5 [])[224]? = some (.code (jt_y 6) (jt_cc 6) (jt_nl 6) (jt_ret 6)) := rfl
theorem jc_m_7 : jc_M 7 = true := by decide +kernel
set_option maxRecDepth 100000 in
theorem jc_mc_7 : (jt_tabs.getD 2 [])[156]? = some (.code (jt_y 7) (jt_cc 7) (jt_nl 7) (jt_ret 7)) := rfl
theorem jc_m_8 : jc_M 8 = true := by decide +kernel
set_option maxRecDepth 100000 in
theorem jc_mc_8 : (jt_tabs.getD 4 [])[29]? = some (.code (jt_y 8) (jt_cc 8) (jt_nl 8) (jt_ret 8)) := rfl
theorem jc_m_9 : jc_M 9 = true := by decide +kernel
set_option maxRecDepth 100000 in
theorem jc_mc_9 : (jt_tabs.getD 5 [])[48]? = some (.code (jt_y 9) (jt_cc 9) (jt_nl 9) (jt_ret 9)) := rfl
theorem jc_m_10 : jc_M 10 = true := by decide +kernel
set_option maxRecDepth 100000 in
theorem jc_mc_10 : (jt_tabs.getD 5 [])[56]? = some (.code (jt_y 10) (jt_cc 10) (jt_nl 10) (jt_ret 10)) := rfl
theorem jc_m_11 : jc_M 11 = true := by decide +kernel
set_option maxRecDepth 100000 in
theorem jc_mc_11 : (jt_tabs.getD 5 [])[60]? = some (.code (jt_y 11) (jt_cc 11) (jt_nl 11) (jt_ret 11)) := rfl
theorem jc_m_12 : jc_M 12 = true := by decide +kernel
set_option maxRecDepth 100000 in
theorem jc_mc_12 : (jt_tabs.getD 5 [])[69]? = some (.code (jt_y 12) (jt_cc 12) (jt_nl 12) (jt_ret 12)) := rfl
theorem jc_m_13 : jc_M 13 = true := by decide +kernel
set_option maxRecDepth 100000 in
theorem jc_mc_13 : (jt_tabs.getD 5 [])[75]? = some (.code (jt_y 13) (jt_cc 13) (jt_nl 13) (jt_ret 13)) := rfl
theorem jc_m_14 : jc_M 14 = true := by decide +kernel
set_option maxRecDepth 100000 in
theorem jc_mc_14 : (jt_tabs.getD 1 [])[37]? = some (.code (jt_y 14) (jt_cc 14) (jt_nl 14) (jt_ret 14)) := rfl
theorem jc_m_15 : jc_M 15 = true := by decide +kernel
set_option maxRecDepth 100000 in
theorem jc_mc_15 : (jt_tabs.getD 3 [])[39]? = some (.code (jt_y 15) (jt_cc 15) (jt_nl 15) (jt_ret 15)) := rfl
theorem jc_m_16 : jc_M 16 = true := by decide +kernel
set_option maxRecDepth 100000 in
theorem jc_mc_16 : (jt_tabs.getD 3 [])[80]? = some (.code (jt_y 16) (jt_cc 16) (jt_nl 16) (jt_ret 16)) := rfl
theorem jc_m_17 : jc_M 17 = true := by decide +kernel
set_option maxRecDepth 100000 in
theorem jc_mc_17 : (jt_tabs.getD 3 [])[121]? = some (.code (jt_y 17) (jt_cc 17) (jt_nl 17) (jt_ret 17)) := rfl
theorem jc_m_18 : jc_M 18 = true := by decide +kernel
set_option maxRecDepth 100000 in
theorem jc_mc_18 : (jt_tabs.getD 3 [])[137]? = some (.code (jt_y 18) (jt_cc 18) (jt_nl 18) (jt_ret 18)) := rfl
theorem jc_m_19 : jc_M 19 = true := by decide +kernel
set_option maxRecDepth 100000 in
theorem jc_mc_19 : (jt_tabs.getD 3 [])[162]? = some (.code (jt_y 19) (jt_cc 19) (jt_nl 19) (jt_ret 19)) := rfl
theorem jc_m_20 : jc_M 20 = true := by decide +kernel
set_option maxRecDepth 100000 in
theorem jc_mc_20 : (jt_tabs.getD 3 [])[193]? = some (.code (jt_y 20) (jt_cc 20) (jt_nl 20) (jt_ret 20)) := rfl
theorem jc_m_21 : jc_M 21 = true := by decide +kernel
set_option maxRecDepth 100000 in
theorem jc_mc_21 : (jt_tabs.getD 3 [])[222]? = some (.code (jt_y 21) (jt_cc 21) (jt_nl 21) (jt_ret 21)) := rfl
theorem jc_m_22 : jc_M 22 = true := by decide +kernel
set_option maxRecDepth 100000 in
theorem jc_mc_22 : (jt_tabs.getD 3 [])[130]? = some (.code (jt_y 22) (jt_cc 22) (jt_nl 22) (jt_ret 22)) := rfl
theorem jc_m_23 : jc_M 23 = true := by decide +kernel
set_option maxRecDepth 100000 in
theorem jc_mc_23 : (jt_tabs.getD 4 [])[128]? = some (.code (jt_y 23) (jt_cc 23) (jt_nl 23) (jt_ret 23)) := rfl
theorem jc_m_24 : jc_M 24 = true := by decide +kernel
set_option maxRecDepth 100000 in
theorem jc_mc_24 : (jt_tabs.getD 4 [])[91]? = some (.code (jt_y 24) (jt_cc 24) (jt_nl 24) (jt_ret 24)) := rfl
theorem jc_m_25 : jc_M 25 = true := by decide +kernel
set_option maxRecDepth 100000 in
theorem jc_mc_25 : (jt_tabs.getD 3 [])[157]? = some (.code (jt_y 25) (jt_cc 25) (jt_nl 25) (jt_ret 25)) := rfl
theorem jc_m_26 : jc_M 26 = true := by decide +kernel
set_option maxRecDepth 100000 in
theorem jc_mc_26 : (jt_tabs.getD 3 [])[214]? = some (.code (jt_y 26) (jt_cc 26) (jt_nl 26) (jt_ret 26)) := rfl
theorem jc_m_27 : jc_M 27 = true := by decide +kernel
set_option maxRecDepth 100000 in
theorem jc_mc_27 : (jt_tabs.getD 3 [])[218]? = some (.code (jt_y 27) (jt_cc 27) (jt_nl 27) (jt_ret 27)) := rfl
theorem jc_m_28 : jc_M 28 = true := by decide +kernel
set_option maxRecDepth 100000 in
theorem jc_mc_28 : (jt_tabs.getD 5 [])[114]? = some (.code (jt_y 28) (jt_cc 28) (jt_nl 28) (jt_ret 28)) := rfl
theorem jc_m_29 : jc_M 29 = true := by decide +kernel
set_option maxRecDepth 100000 in
theorem jc_mc_29 : (jt_tabs.getD 3 [])[206]? = some (.code (jt_y 29) (jt_cc 29) (jt_nl 29) (jt_ret 29)) := rfl
theorem jc_m_30 : jc_M 30 = true := by decide +kernel
set_option maxRecDepth 100000 in
theorem jc_mc_30 : (jt_tabs.getD 2 [])[198]? = some (.code (jt_y 30) (jt_cc 30) (jt_nl 30) (jt_ret 30)) := rfl
theorem jc_m_31 : jc_M 31 = true := by decide +kernel
set_option maxRecDepth 100000 in
theorem jc_mc_31 : (jt_tabs.getD 5 [])[109]? = some (.code (jt_y 31) (jt_cc 31) (jt_nl 31) (jt_ret 31)) := rfl
theorem jc_m_32 : jc_M 32 = true := by decide +kernel
set_option maxRecDepth 100000 in
theorem jc_mc_32 : (jt_tabs.getD 5 [])[138]? = some (.code (jt_y 32) (jt_cc 32) (jt_nl 32) (jt_ret 32)) := rfl
theorem jc_m_33 : jc_M 33 = true := by decide +kernel
set_option maxRecDepth 100000 in
theorem jc_mc_33 : (jt_tabs.getD 5 [])[148]? = some (.code (jt_y 33) (jt_cc 33) (jt_nl 33) (jt_ret 33)) := rfl
theorem jc_m_34 : jc_M 34 = true := by decide +kernel
set_option maxRecDepth 100000 in
theorem jc_mc_34 : (jt_tabs.getD 5 [])[121]? = some (.code (jt_y 34) (jt_cc 34) (jt_nl 34) (jt_ret 34)) := rfl
theorem jc_m_35 : jc_M 35 = true := by decide +kernel
set_option maxRecDepth 100000 in
theorem jc_mc_35 : (jt_tabs.getD 5 [])[118]? = some (.code (jt_y 35) (jt_cc 35) (jt_nl 35) (jt_ret 35)) := rfl
theorem jc_m_36 : jc_M 36 = true := by decide +kernel
set_option maxRecDepth 100000 in
theorem jc_mc_36 : (jt_tabs.getD 5 [])[156]? = some (.code (jt_y 36) (jt_cc 36) (jt_nl 36) (jt_ret 36)) := rfl
theorem jc_m_37 : jc_M 37 = true := by decide +kernel
set_option maxRecDepth 100000 in
theorem jc_mc_37 : (jt_tabs.getD 5 [])[164]? = some (.code (jt_y 37) (jt_cc 37) (jt_nl 37) (jt_ret 37)) := rfl
theorem jc_m_38 : jc_M 38 = true := by decide +kernel
set_option maxRecDepth 100000 in
theorem jc_mc_38 : (jt_tabs.getD 5 [])[159]? = some (.code (jt_y 38) (jt_cc 38) (jt_nl 38) (jt_ret 38)) := rfl
theorem jc_m_39 : jc_M 39 = true := by decide +kernel
set_option maxRecDepth 100000 in
theorem jc_mc_39 : (jt_tabs.getD 2 [])[57]? = some (.code (jt_y 39) (jt_cc 39) (jt_nl 39) (jt_ret 39)) := rfl
theorem jc_m_40 : jc_M 40 = true := by decide +kernel
set_option maxRecDepth 100000 in
theorem jc_mc_40 : (jt_tabs.getD 3 [])[238]? = some (.code (jt_y 40) (jt_cc 40) (jt_nl 40) (jt_ret 40)) := rfl
theorem jc_m_41 : jc_M 41 = true := by decide +kernel
set_option maxRecDepth 100000 in
theorem jc_mc_41 : (jt_tabs.getD 5 [])[32]? = some (.code (jt_y 41) (jt_cc 41) (jt_nl 41) (jt_ret 41)) := rfl
theorem jc_m_42 : jc_M 42 = true := by decide +kernel
set_option maxRecDepth 100000 in
theorem jc_mc_42 : (jt_tabs.getD 4 [])[140]? = some (.code (jt_y 42) (jt_cc 42) (jt_nl 42) (jt_ret 42)) := rfl
theorem jc_m_43 : jc_M 43 = true := by decide +kernel
set_option maxRecDepth 100000 in
theorem jc_mc_43 : (jt_tabs.getD 4 [])[59]? = some (.code (jt_y 43) (jt_cc 43) (jt_nl 43) (jt_ret 43)) := rfl
theorem jc_m_44 : jc_M 44 = true := by decide +kernel
set_option maxRecDepth 100000 in
theorem jc_mc_44 : (jt_tabs.getD 4 [])[63]? = some (.code (jt_y 44) (jt_cc 44) (jt_nl 44) (jt_ret 44)) := rfl
theorem jc_m_45 : jc_M 45 = true := by decide +kernel
set_option maxRecDepth 100000 in
theorem jc_mc_45 : (jt_tabs.getD 4 [])[54]? = some (.code (jt_y 45) (jt_cc 45) (jt_nl 45) (jt_ret 45)) := rfl
theorem jc_m_46 : jc_M 46 = true := by decide +kernel
set_option maxRecDepth 100000 in
theorem jc_mc_46 : (jt_tabs.getD 6 [])[5]? = some (.code (jt_y 46) (jt_cc 46) (jt_nl 46) (jt_ret 46)) := rfl
theorem jc_m_47 : jc_M 47 = true := by decide +kernel
set_option maxRecDepth 100000 in
theorem jc_mc_47 : (jt_tabs.getD 5 [])[36]? = some (.code (jt_y 47) (jt_cc 47) (jt_nl 47) (jt_ret 47)) := rfl
theorem jc_m_48 : jc_M 48 = true := by decide +kernel
set_option maxRecDepth 100000 in
theorem jc_mc_48 : (jt_tabs.getD 5 [])[229]? = some (.code (jt_y 48) (jt_cc 48) (jt_nl 48) (jt_ret 48)) := rfl
theorem jc_m_49 : jc_M 49 = true := by decide +kernel
set_option maxRecDepth 100000 in
theorem jc_mc_49 : (jt_tabs.getD 1 [])[156]? = some (.code (jt_y 49) (jt_cc 49) (jt_nl 49) (jt_ret 49)) := rfl
theorem jc_m_50 : jc_M 50 = true := by decide +kernel
set_option maxRecDepth 100000 in
theorem jc_mc_50 : (jt_tabs.getD 3 [])[35]? = some (.code (jt_y 50) (jt_cc 50) (jt_nl 50) (jt_ret 50)) := rfl
theorem jc_m_51 : jc_M 51 = true := by decide +kernel
set_option maxRecDepth 100000 in
theorem jc_mc_51 : (jt_tabs.getD 3 [])[76]? = some (.code (jt_y 51) (jt_cc 51) (jt_nl 51) (jt_ret 51)) := rfl
theorem jc_m_52 : jc_M 52 = true := by decide +kernel
set_option maxRecDepth 100000 in
theorem jc_mc_52 : (jt_tabs.getD 3 [])[107]? = some (.code (jt_y 52) (jt_cc 52) (jt_nl 52) (jt_ret 52)) := rfl
theorem jc_m_53 : jc_M 53 = true := by decide +kernel
set_option maxRecDepth 100000 in
theorem jc_mc_53 : (jt_tabs.getD 3 [])[67]? = some (.code (jt_y 53) (jt_cc 53) (jt_nl 53) (jt_ret 53)) := rfl
theorem jc_m_54 : jc_M 54 = true := by decide +kernel
set_option maxRecDepth 100000 in
theorem jc_mc_54 : (jt_tabs.getD 3 [])[84]? = some (.code (jt_y 54) (jt_cc 54) (jt_nl 54) (jt_ret 54)) := rfl
theorem jc_m_55 : jc_M 55 = true := by decide +kernel
set_option maxRecDepth 100000 in
theorem jc_mc_55 : (jt_tabs.getD 3 [])[89]? = some (.code (jt_y 55) (jt_cc 55) (jt_nl 55) (jt_ret 55)) := rfl
theorem jc_m_56 : jc_M 56 = true := by decide +kernel
set_option maxRecDepth 100000 in
theorem jc_mc_56 : (jt_tabs.getD 3 [])[141]? = some (.code (jt_y 56) (jt_cc 56) (jt_nl 56) (jt_ret 56)) := rfl
theorem jc_m_57 : jc_M 57 = true := by decide +kernel
set_option maxRecDepth 100000 in
theorem jc_mc_57 : (jt_tabs.getD 3 [])[152]? = some (.code (jt_y 57) (jt_cc 57) (jt_nl 57) (jt_ret 57)) := rfl
theorem jc_m_58 : jc_M 58 = true := by decide +kernel
set_option maxRecDepth 100000 in
theorem jc_mc_58 : (jt_tabs.getD 3 [])[166]? = some (.code (jt_y 58) (jt_cc 58) (jt_nl 58) (jt_ret 58)) := rfl
theorem jc_m_59 : jc_M 59 = true := by decide +kernel
set_option maxRecDepth 100000 in
theorem jc_mc_59 : (jt_tabs.getD 3 [])[170]? = some (.code (jt_y 59) (jt_cc 59) (jt_nl 59) (jt_ret 59)) := rfl
theorem jc_m_60 : jc_M 60 = true := by decide +kernel
set_option maxRecDepth 100000 in
theorem jc_mc_60 : (jt_tabs.getD 3 [])[113]? = some (.code (jt_y 60) (jt_cc 60) (jt_nl 60) (jt_ret 60)) := rfl
theorem jc_m_61 : jc_M 61 = true := by decide +kernel
set_option maxRecDepth 100000 in
theorem jc_mc_61 : (jt_tabs.getD 3 [])[126]? = some (.code (jt_y 61) (jt_cc 61) (jt_nl 61) (jt_ret 61)) := rfl
theorem jc_m_62 : jc_M 62 = true := by decide +kernel
set_option maxRecDepth 100000 in
theorem jc_mc_62 : (jt_tabs.getD 3 [])[185]? = some (.code (jt_y 62) (jt_cc 62) (jt_nl 62) (jt_ret 62)) := rfl
theorem jc_m_63 : jc_M 63 = true := by decide +kernel
set_option maxRecDepth 100000 in
theorem jc_mc_63 : (jt_tabs.getD 3 [])[189]? = some (.code (jt_y 63) (jt_cc 63) (jt_nl 63) (jt_ret 63)) := rfl
theorem jc_m_64 : jc_M 64 = true := by decide +kernel
set_option maxRecDepth 100000 in
theorem jc_mc_64 : (jt_tabs.getD 3 [])[197]? = some (.code (jt_y 64) (jt_cc 64) (jt_nl 64) (jt_ret 64)) := rfl
theorem jc_m_65 : jc_M 65 = true := by decide +kernel
set_option maxRecDepth 100000 in
theorem jc_mc_65 : (jt_tabs.getD 3 [])[201]? = some (.code (jt_y 65) (jt_cc 65) (jt_nl 65) (jt_ret 65)) := rfl
theorem jc_m_66 : jc_M 66 = true := by decide +kernel
set_option maxRecDepth 100000 in
theorem jc_mc_66 : (jt_tabs.getD 3 [])[210]? = some (.code (jt_y 66) (jt_cc 66) (jt_nl 66) (jt_ret 66)) := rfl
theorem jc_m_67 : jc_M 67 = true := by decide +kernel
set_option maxRecDepth 100000 in
theorem jc_mc_67 : (jt_tabs.getD 3 [])[226]? = some (.code (jt_y 67) (jt_cc 67) (jt_nl 67) (jt_ret 67)) := rfl
theorem jc_m_68 : jc_M 68 = true := by decide +kernel
set_option maxRecDepth 100000 in
theorem jc_mc_68 : (jt_tabs.getD 3 [])[94]? = some (.code (jt_y 68) (jt_cc 68) (jt_nl 68) (jt_ret 68)) := rfl
theorem jc_m_69 : jc_M 69 = true := by decide +kernel
set_option maxRecDepth 100000 in
theorem jc_mc_69 : (jt_tabs.getD 3 [])[103]? = some (.code (jt_y 69) (jt_cc 69) (jt_nl 69) (jt_ret 69)) := rfl
theorem jc_m_70 : jc_M 70 = true := by decide +kernel
set_option maxRecDepth 100000 in
theorem jc_mc_70 : (jt_tabs.getD 3 [])[181]? = some (.code (jt_y 70) (jt_cc 70) (jt_nl 70) (jt_ret 70)) := rfl
theorem jc_m_71 : jc_M 71 = true := by decide +kernel
set_option maxRecDepth 100000 in
theorem jc_mc_71 : (jt_tabs.getD 3 [])[145]? = some (.code (jt_y 71) (jt_cc 71) (jt_nl 71) (jt_ret 71)) := rfl
theorem jc_m_72 : jc_M 72 = true := by decide +kernel
set_option maxRecDepth 100000 in
theorem jc_mc_72 : (jt_tabs.getD 3 [])[117]? = some (.code (jt_y 72) (jt_cc 72) (jt_nl 72) (jt_ret 72)) := rfl
theorem jc_m_73 : jc_M 73 = true := by decide +kernel
set_option maxRecDepth 100000 in
theorem jc_mc_73 : (jt_tabs.getD 2 [])[10]? = some (.code (jt_y 73) (jt_cc 73) (jt_nl 73) (jt_ret 73)) := rfl
theorem jc_m_74 : jc_M 74 = true := by decide +kernel
set_option maxRecDepth 100000 in
theorem jc_mc_74 : (jt_tabs.getD 3 [])[71]? = some (.code (jt_y 74) (jt_cc 74) (jt_nl 74) (jt_ret 74)) := rfl
theorem jc_m_75 : jc_M 75 = true := by decide +kernel
set_option maxRecDepth 100000 in
theorem jc_mc_75 : (jt_tabs.getD 4 [])[66]? = some (.code (jt_y 75) (jt_cc 75) (jt_nl 75) (jt_ret 75)) := rfl
theorem jc_m_76 : jc_M 76 = true := by decide +kernel
set_option maxRecDepth 100000 in
theorem jc_mc_76 : (jt_tabs.getD 3 [])[133]? = some (.code (jt_y 76) (jt_cc 76) (jt_nl 76) (jt_ret 76)) := rfl
theorem jc_m_77 : jc_M 77 = true := by decide +kernel
set_option maxRecDepth 100000 in
theorem jc_mc_77 : (jt_tabs.getD 4 [])[145]? = some (.code (jt_y 77) (jt_cc 77) (jt_nl 77) (jt_ret 77)) := rfl
theorem jc_m_78 : jc_M 78 = true := by decide +kernel
set_option maxRecDepth 100000 in
theorem jc_mc_78 : (jt_tabs.getD 1 [])[43]? = some (.code (jt_y 78) (jt_cc 78) (jt_nl 78) (jt_ret 78)) := rfl
theorem jc_m_79 : jc_M 79 = true := by decide +kernel
set_option maxRecDepth 100000 in
theorem jc_mc_79 : (jt_tabs.getD 3 [])[55]? = some (.code (jt_y 79) (jt_cc 79) (jt_nl 79) (jt_ret 79)) := rfl
theorem jc_m_80 : jc_M 80 = true := by decide +kernel
set_option maxRecDepth 100000 in
theorem jc_mc_80 : (jt_tabs.getD 2 [])[14]? = some (.code (jt_y 80) (jt_cc 80) (jt_nl 80) (jt_ret 80)) := rfl
theorem jc_m_81 : jc_M 81 = true := by decide +kernel
set_option maxRecDepth 100000 in
theorem jc_mc_81 : (jt_tabs.getD 3 [])[232]? = some (.code (jt_y 81) (jt_cc 81) (jt_nl 81) (jt_ret 81)) := rfl
theorem jc_m_82 : jc_M 82 = true := by decide +kernel
set_option maxRecDepth 100000 in
theorem jc_mc_82 : (jt_tabs.getD 3 [])[43]? = some (.code (jt_y 82) (jt_cc 82) (jt_nl 82) (jt_ret 82)) := rfl
theorem jc_m_83 : jc_M 83 = true := by decide +kernel
set_option maxRecDepth 100000 in
theorem jc_mc_83 : (jt_tabs.getD 4 [])[2]? = some (.code (jt_y 83) (jt_cc 83) (jt_nl 83) (jt_ret 83)) := rfl
theorem jc_m_84 : jc_M 84 = true := by decide +kernel
set_option maxRecDepth 100000 in
theorem jc_mc_84 : (jt_tabs.getD 1 [])[164]? = some (.code (jt_y 84) (jt_cc 84) (jt_nl 84) (jt_ret 84)) := rfl
theorem jc_m_85 : jc_M 85 = true := by decide +kernel
set_option maxRecDepth 100000 in
theorem jc_mc_85 : (jt_tabs.getD 3 [])[47]? = some (.code (jt_y 85) (jt_cc 85) (jt_nl 85) (jt_ret 85)) := rfl
theorem jc_m_86 : jc_M 86 = true := by decide +kernel
set_option maxRecDepth 100000 in
theorem jc_mc_86 : (jt_tabs.getD 3 [])[51]? = some (.code (jt_y 86) (jt_cc 86) (jt_nl 86) (jt_ret 86)) := rfl
theorem jc_m_87 : jc_M 87 = true := by decide +kernel
set_option maxRecDepth 100000 in
theorem jc_mc_87 : (jt_tabs.getD 3 [])[98]? = some (.code (jt_y 87) (jt_cc 87) (jt_nl 87) (jt_ret 87)) := rfl
theorem jc_m_88 : jc_M 88 = true := by decide +kernel
set_option maxRecDepth 100000 in
theorem jc_mc_88 : (jt_tabs.getD 1 [])[196]? = some (.code (jt_y 88) (jt_cc 88) (jt_nl 88) (jt_ret 88)) := rfl
theorem jc_m_89 : jc_M 89 = true := by decide +kernel
set_option maxRecDepth 100000 in
theorem jc_mc_89 : (jt_tabs.getD 3 [])[59]? = some (.code (jt_y 89) (jt_cc 89) (jt_nl 89) (jt_ret 89)) := rfl
theorem jc_m_90 : jc_M 90 = true := by decide +kernel
set_option maxRecDepth 100000 in
theorem jc_mc_90 : (jt_tabs.getD 3 [])[63]? = some (.code (jt_y 90) (jt_cc 90) (jt_nl 90) (jt_ret 90)) := rfl
theorem jc_m_91 : jc_M 91 = true := by decide +kernel
set_option maxRecDepth 100000 in
theorem jc_mc_91 : (jt_tabs.getD 2 [])[141]? = some (.code (jt_y 91) (jt_cc 91) (jt_nl 91) (jt_ret 91)) := rfl
theorem jc_m_92 : jc_M 92 = true := by decide +kernel
set_option maxRecDepth 100000 in
theorem jc_mc_92 : (jt_tabs.getD 4 [])[11]? = some (.code (jt_y 92) (jt_cc 92) (jt_nl 92) (jt_ret 92)) := rfl
theorem jc_m_93 : jc_M 93 = true := by decide +kernel
set_option maxRecDepth 100000 in
theorem jc_mc_93 : (jt_tabs.getD 4 [])[221]? = some (.code (jt_y 93) (jt_cc 93) (jt_nl 93) (jt_ret 93)) := rfl
theorem jc_m_94 : jc_M 94 = true := by decide +kernel
set_option maxRecDepth 100000 in
theorem jc_mc_94 : (jt_tabs.getD 4 [])[233]? = some (.code (jt_y 94) (jt_cc 94) (jt_nl 94) (jt_ret 94)) := rfl
theorem jc_m_95 : jc_M 95 = true := by decide +kernel
set_option maxRecDepth 100000 in
theorem jc_mc_95 : (jt_tabs.getD 4 [])[17]? = some (.code (jt_y 95) (jt_cc 95) (jt_nl 95) (jt_ret 95)) := rfl
theorem jc_m_96 : jc_M 96 = true := by decide +kernel
set_option maxRecDepth 100000 in
theorem jc_mc_96 : (jt_tabs.getD 4 [])[17]? = some (.code (jt_y 96) (jt_cc 96) (jt_nl 96) (jt_ret 96)) := rfl
theorem jc_m_97 : jc_M 97 = true := by decide +kernel
set_option maxRecDepth 100000 in
theorem jc_mc_97 : (jt_tabs.getD 4 [])[17]? = some (.code (jt_y 97) (jt_cc 97) (jt_nl 97) (jt_ret 97)) := rfl
theorem jc_m_98 : jc_M 98 = true := by decide +kernel
set_option maxRecDepth 100000 in
theorem jc_mc_98 : (jt_tabs.getD 4 [])[17]? = some (.code (jt_y 98) (jt_cc 98) (jt_nl 98) (jt_ret 98)) := rfl
theorem jc_m_99 : jc_M 99 = true := by decide +kernel
set_option maxRecDepth 100000 in
theorem jc_mc_99 : (jt_tabs.getD 4 [])[17]? = some (.code (jt_y 99) (jt_cc 99) (jt_nl 99) (jt_ret 99)) := rfl
theorem jc_m_100 : jc_M 100 = true := by decide +kernel
set_option maxRecDepth 100000 in
theorem jc_mc_100 : (jt_tabs.getD 4 [])[17]? = some (.code (jt_y 100) (jt_cc 100) (jt_nl 100) (jt_ret 100)) := rfl
theorem jc_m_101 : jc_M 101 = true := by decide +kernel
set_option maxRecDepth 100000 in
theorem jc_mc_101 : (jt_tabs.getD 4 [])[24]? = some (.code (jt_y 101) (jt_cc 101) (jt_nl 101) (jt_ret 101)) := rfl
theorem jc_m_102 : jc_M 102 = true := by decide +kernel
set_option maxRecDepth 100000 in
theorem jc_mc_102 : (jt_tabs.getD 5 [])[0]? = some (.code (jt_y 102) (jt_cc 102) (jt_nl 102) (jt_ret 102)) := rfl
theorem jc_m_103 : jc_M 103 = true := by decide +kernel
set_option maxRecDepth 100000 in
theorem jc_mc_103 : (jt_tabs.getD 2 [])[97]? = some (.code (jt_y 103) (jt_cc 103) (jt_nl 103) (jt_ret 103)) := rfl
theorem jc_m_104 : jc_M 104 = true := by decide +kernel
set_option maxRecDepth 100000 in
theorem jc_mc_104 : (jt_tabs.getD 4 [])[70]? = some (.code (jt_y 104) (jt_cc 104) (jt_nl 104) (jt_ret 104)) := rfl
theorem jc_m_105 : jc_M 105 = true := by decide +kernel
set_option maxRecDepth 100000 in
theorem jc_mc_105 : (jt_tabs.getD 4 [])[37]? = some (.code (jt_y 105) (jt_cc 105) (jt_nl 105) (jt_ret 105)) := rfl
theorem jc_m_106 : jc_M 106 = true := by decide +kernel
set_option maxRecDepth 100000 in
theorem jc_mc_106 : (jt_tabs.getD 4 [])[190]? = some (.code (jt_y 106) (jt_cc 106) (jt_nl 106) (jt_ret 106)) := rfl
theorem jc_m_107 : jc_M 107 = true := by decide +kernel
set_option maxRecDepth 100000 in
theorem jc_mc_107 : (jt_tabs.getD 4 [])[44]? = some (.code (jt_y 107) (jt_cc 107) (jt_nl 107) (jt_ret 107)) := rfl
theorem jc_m_108 : jc_M 108 = true := by decide +kernel
set_option maxRecDepth 100000 in
theorem jc_mc_108 : (jt_tabs.getD 4 [])[49]? = some (.code (jt_y 108) (jt_cc 108) (jt_nl 108) (jt_ret 108)) := rfl
theorem jc_m_109 : jc_M 109 = true := by decide +kernel
set_option maxRecDepth 100000 in
theorem jc_mc_109 : (jt_tabs.getD 4 [])[74]? = some (.code (jt_y 109) (jt_cc 109) (jt_nl 109) (jt_ret 109)) := rfl
theorem jc_m_110 : jc_M 110 = true := by decide +kernel
set_option maxRecDepth 100000 in
theorem jc_mc_110 : (jt_tabs.getD 4 [])[78]? = some (.code (jt_y 110) (jt_cc 110) (jt_nl 110) (jt_ret 110)) := rfl
theorem jc_m_111 : jc_M 111 = true := by decide +kernel
set_option maxRecDepth 100000 in
theorem jc_mc_111 : (jt_tabs.getD 4 [])[83]? = some (.code (jt_y 111) (jt_cc 111) (jt_nl 111) (jt_ret 111)) := rfl
theorem jc_m_112 : jc_M 112 = true := by decide +kernel
set_option maxRecDepth 100000 in
theorem jc_mc_112 : (jt_tabs.getD 4 [])[95]? = some (.code (jt_y 112) (jt_cc 112) (jt_nl 112) (jt_ret 112)) := rfl
theorem jc_m_113 : jc_M 113 = true := by decide +kernel
set_option maxRecDepth 100000 in
theorem jc_mc_113 : (jt_tabs.getD 1 [])[29]? = some (.code (jt_y 113) (jt_cc 113) (jt_nl 113) (jt_ret 113)) := rfl
theorem jc_m_114 : jc_M 114 = true := by decide +kernel
set_option maxRecDepth 100000 in
theorem jc_mc_114 : (jt_tabs.getD 3 [])[18]? = some (.code (jt_y 114) (jt_cc 114) (jt_nl 114) (jt_ret 114)) := rfl
theorem jc_m_115 : jc_M 115 = true := by decide +kernel
set_option maxRecDepth 100000 in
theorem jc_mc_115 : (jt_tabs.getD 3 [])[27]? = some (.code (jt_y 115) (jt_cc 115) (jt_nl 115) (jt_ret 115)) := rfl
theorem jc_m_116 : jc_M 116 = true := by decide +kernel
set_option maxRecDepth 100000 in
theorem jc_mc_116 : (jt_tabs.getD 4 [])[105]? = some (.code (jt_y 116) (jt_cc 116) (jt_nl 116) (jt_ret 116)) := rfl
theorem jc_m_117 : jc_M 117 = true := by decide +kernel
set_option maxRecDepth 100000 in
theorem jc_mc_117 : (jt_tabs.getD 4 [])[109]? = some (.code (jt_y 117) (jt_cc 117) (jt_nl 117) (jt_ret 117)) := rfl
theorem jc_m_118 : jc_M 118 = true := by decide +kernel
set_option maxRecDepth 100000 in
theorem jc_mc_118 : (jt_tabs.getD 4 [])[113]? = some (.code (jt_y 118) (jt_cc 118) (jt_nl 118) (jt_ret 118)) := rfl
theorem jc_m_119 : jc_M 119 = true := by decide +kernel
set_option maxRecDepth 100000 in
theorem jc_mc_119 : (jt_tabs.getD 4 [])[123]? = some (.code (jt_y 119) (jt_cc 119) (jt_nl 119) (jt_ret 119)) := rfl
theorem jc_m_120 : jc_M 120 = true := by decide +kernel
set_option maxRecDepth 100000 in
theorem jc_mc_120 : (jt_tabs.getD 4 [])[132]? = some (.code (jt_y 120) (jt_cc 120) (jt_nl 120) (jt_ret 120)) := rfl
theorem jc_m_121 : jc_M 121 = true := by decide +kernel
set_option maxRecDepth 100000 in
theorem jc_mc_121 : (jt_tabs.getD 4 [])[151]? = some (.code (jt_y 121) (jt_cc 121) (jt_nl 121) (jt_ret 121)) := rfl
theorem jc_m_122 : jc_M 122 = true := by decide +kernel
set_option maxRecDepth 100000 in
theorem jc_mc_122 : (jt_tabs.getD 4 [])[156]? = some (.code (jt_y 122) (jt_cc 122) (jt_nl 122) (jt_ret 122)) := rfl
theorem jc_m_123 : jc_M 123 = true := by decide +kernel
set_option maxRecDepth 100000 in
theorem jc_mc_123 : (jt_tabs.getD 4 [])[170]? = some (.code (jt_y 123) (jt_cc 123) (jt_nl 123) (jt_ret 123)) := rfl
theorem jc_m_124 : jc_M 124 = true := by decide +kernel
set_option maxRecDepth 100000 in
theorem jc_mc_124 : (jt_tabs.getD 4 [])[174]? = some (.code (jt_y 124) (jt_cc 124) (jt_nl 124) (jt_ret 124)) := rfl
theorem jc_m_125 : jc_M 125 = true := by decide +kernel
set_option maxRecDepth 100000 in
theorem jc_mc_125 : (jt_tabs.getD 4 [])[178]? = some (.code (jt_y 125) (jt_cc 125) (jt_nl 125) (jt_ret 125)) := rfl
theorem jc_m_126 : jc_M 126 = true := by decide +kernel
set_option maxRecDepth 100000 in
theorem jc_mc_126 : (jt_tabs.getD 4 [])[182]? = some (.code (jt_y 126) (jt_cc 126) (jt_nl 126) (jt_ret 126)) := rfl
theorem jc_m_127 : jc_M 127 = true := by decide +kernel
set_option maxRecDepth 100000 in
theorem jc_mc_127 : (jt_tabs.getD 4 [])[194]? = some (.code (jt_y 127) (jt_cc 127) (jt_nl 127) (jt_ret 127)) := rfl
theorem jc_m_128 : jc_M 128 = true := by decide +kernel
set_option maxRecDepth 100000 in
theorem jc_mc_128 : (jt_tabs.getD 4 [])[198]? = some (.code (jt_y 128) (jt_cc 128) (jt_nl 128) (jt_ret 128)) := rfl
theorem jc_m_129 : jc_M 129 = true := by decide +kernel
set_option maxRecDepth 100000 in
theorem jc_mc_129 : (jt_tabs.getD 4 [])[209]? = some (.code (jt_y 129) (jt_cc 129) (jt_nl 129) (jt_ret 129)) := rfl
theorem jc_m_130 : jc_M 130 = true := by decide +kernel
set_option maxRecDepth 100000 in
theorem jc_mc_130 : (jt_tabs.getD 4 [])[213]? = some (.code (jt_y 130) (jt_cc 130) (jt_nl 130) (jt_ret 130)) := rfl
theorem jc_m_131 : jc_M 131 = true := by decide +kernel
set_option maxRecDepth 100000 in
theorem jc_mc_131 : (jt_tabs.getD 4 [])[217]? = some (.code (jt_y 131) (jt_cc 131) (jt_nl 131) (jt_ret 131)) := rfl
theorem jc_m_132 : jc_M 132 = true := by decide +kernel
set_option maxRecDepth 100000 in
theorem jc_mc_132 : (jt_tabs.getD 4 [])[225]? = some (.code (jt_y 132) (jt_cc 132) (jt_nl 132) (jt_ret 132)) := rfl
theorem jc_m_133 : jc_M 133 = true := by decide +kernel
set_option maxRecDepth 100000 in
theorem jc_mc_133 : (jt_tabs.getD 4 [])[237]? = some (.code (jt_y 133) (jt_cc 133) (jt_nl 133) (jt_ret 133)) := rfl
theorem jc_m_134 : jc_M 134 = true := by decide +kernel
set_option maxRecDepth 100000 in
theorem jc_mc_134 : (jt_tabs.getD 5 [])[11]? = some (.code (jt_y 134) (jt_cc 134) (jt_nl 134) (jt_ret 134)) := rfl
theorem jc_m_135 : jc_M 135 = true := by decide +kernel
set_option maxRecDepth 100000 in
theorem jc_mc_135 : (jt_tabs.getD 5 [])[16]? = some (.code (jt_y 135) (jt_cc 135) (jt_nl 135) (jt_ret 135)) := rfl
theorem jc_m_136 : jc_M 136 = true := by decide +kernel
set_option maxRecDepth 100000 in
theorem jc_mc_136 : (jt_tabs.getD 5 [])[40]? = some (.code (jt_y 136) (jt_cc 136) (jt_nl 136) (jt_ret 136)) := rfl
theorem jc_m_137 : jc_M 137 = true := by decide +kernel
set_option maxRecDepth 100000 in
theorem jc_mc_137 : (jt_tabs.getD 5 [])[44]? = some (.code (jt_y 137) (jt_cc 137) (jt_nl 137) (jt_ret 137)) := rfl
theorem jc_m_138 : jc_M 138 = true := by decide +kernel
set_option maxRecDepth 100000 in
theorem jc_mc_138 : (jt_tabs.getD 5 [])[81]? = some (.code (jt_y 138) (jt_cc 138) (jt_nl 138) (jt_ret 138)) := rfl
theorem jc_m_139 : jc_M 139 = true := by decide +kernel
set_option maxRecDepth 100000 in
theorem jc_mc_139 : (jt_tabs.getD 5 [])[85]? = some (.code (jt_y 139) (jt_cc 139) (jt_nl 139) (jt_ret 139)) := rfl
theorem jc_m_140 : jc_M 140 = true := by decide +kernel
set_option maxRecDepth 100000 in
theorem jc_mc_140 : (jt_tabs.getD 5 [])[89]? = some (.code (jt_y 140) (jt_cc 140) (jt_nl 140) (jt_ret 140)) := rfl
theorem jc_m_141 : jc_M 141 = true := by decide +kernel
set_option maxRecDepth 100000 in
theorem jc_mc_141 : (jt_tabs.getD 5 [])[97]? = some (.code (jt_y 141) (jt_cc 141) (jt_nl 141) (jt_ret 141)) := rfl
theorem jc_m_142 : jc_M 142 = true := by decide +kernel
set_option maxRecDepth 100000 in
theorem jc_mc_142 : (jt_tabs.getD 5 [])[101]? = some (.code (jt_y 142) (jt_cc 142) (jt_nl 142) (jt_ret 142)) := rfl
theorem jc_m_143 : jc_M 143 = true := by decide +kernel
set_option maxRecDepth 100000 in
theorem jc_mc_143 : (jt_tabs.getD 5 [])[105]? = some (.code (jt_y 143) (jt_cc 143) (jt_nl 143) (jt_ret 143)) := rfl
theorem jc_m_144 : jc_M 144 = true := by decide +kernel
set_option maxRecDepth 100000 in
theorem jc_mc_144 : (jt_tabs.getD 5 [])[127]? = some (.code (jt_y 144) (jt_cc 144) (jt_nl 144) (jt_ret 144)) := rfl
theorem jc_m_145 : jc_M 145 = true := by decide +kernel
set_option maxRecDepth 100000 in
theorem jc_mc_145 : (jt_tabs.getD 5 [])[131]? = some (.code (jt_y 145) (jt_cc 145) (jt_nl 145) (jt_ret 145)) := rfl
theorem jc_m_146 : jc_M 146 = true := by decide +kernel
set_option maxRecDepth 100000 in
theorem jc_mc_146 : (jt_tabs.getD 5 [])[145]? = some (.code (jt_y 146) (jt_cc 146) (jt_nl 146) (jt_ret 146)) := rfl
theorem jc_m_147 : jc_M 147 = true := by decide +kernel
set_option maxRecDepth 100000 in
theorem jc_mc_147 : (jt_tabs.getD 5 [])[152]? = some (.code (jt_y 147) (jt_cc 147) (jt_nl 147) (jt_ret 147)) := rfl
theorem jc_m_148 : jc_M 148 = true := by decide +kernel
set_option maxRecDepth 100000 in
theorem jc_mc_148 : (jt_tabs.getD 5 [])[169]? = some (.code (jt_y 148) (jt_cc 148) (jt_nl 148) (jt_ret 148)) := rfl
theorem jc_m_149 : jc_M 149 = true := by decide +kernel
set_option maxRecDepth 100000 in
theorem jc_mc_149 : (jt_tabs.getD 5 [])[186]? = some (.code (jt_y 149) (jt_cc 149) (jt_nl 149) (jt_ret 149)) := rfl
theorem jc_m_150 : jc_M 150 = true := by decide +kernel
set_option maxRecDepth 100000 in
theorem jc_mc_150 : (jt_tabs.getD 5 [])[190]? = some (.code (jt_y 150) (jt_cc 150) (jt_nl 150) (jt_ret 150)) := rfl
theorem jc_m_151 : jc_M 151 = true := by decide +kernel
set_option maxRecDepth 100000 in
theorem jc_mc_151 : (jt_tabs.getD 5 [])[199]? = some (.code (jt_y 151) (jt_cc 151) (jt_nl 151) (jt_ret 151)) := rfl
theorem jc_m_152 : jc_M 152 = true := by decide +kernel
set_option maxRecDepth 100000 in
theorem jc_mc_152 : (jt_tabs.getD 5 [])[203]? = some (.code (jt_y 152) (jt_cc 152) (jt_nl 152) (jt_ret 152)) := rfl
theorem jc_m_153 : jc_M 153 = true := by decide +kernel
set_option maxRecDepth 100000 in
theorem jc_mc_153 : (jt_tabs.getD 5 [])[208]? = some (.code (jt_y 153) (jt_cc 153) (jt_nl 153) (jt_ret 153)) := rfl
theorem jc_m_154 : jc_M 154 = true := by decide +kernel
set_option maxRecDepth 100000 in
theorem jc_mc_154 : (jt_tabs.getD 5 [])[212]? = some (.code (jt_y 154) (jt_cc 154) (jt_nl 154) (jt_ret 154)) := rfl
theorem jc_m_155 : jc_M 155 = true := by decide +kernel
set_option maxRecDepth 100000 in
theorem jc_mc_155 : (jt_tabs.getD 5 [])[237]? = some (.code (jt_y 155) (jt_cc 155) (jt_nl 155) (jt_ret 155)) := rfl
theorem jc_m_156 : jc_M 156 = true := by decide +kernel
set_option maxRecDepth 100000 in
theorem jc_mc_156 : (jt_tabs.getD 6 [])[1]? = some (.code (jt_y 156) (jt_cc 156) (jt_nl 156) (jt_ret 156)) := rfl
theorem jc_m_157 : jc_M 157 = true := by decide +kernel
set_option maxRecDepth 100000 in
theorem jc_mc_157 : (jt_tabs.getD 6 [])[9]? = some (.code (jt_y 157) (jt_cc 157) (jt_nl 157) (jt_ret 157)) := rfl
theorem jc_m_158 : jc_M 158 = true := by decide +kernel
set_option maxRecDepth 100000 in
theorem jc_mc_158 : (jt_tabs.getD 6 [])[17]? = some (.code (jt_y 158) (jt_cc 158) (jt_nl 158) (jt_ret 158)) := rfl
theorem jc_m_159 : jc_M 159 = true := by decide +kernel
set_option maxRecDepth 100000 in
theorem jc_mc_159 : (jt_tabs.getD 6 [])[25]? = some (.code (jt_y 159) (jt_cc 159) (jt_nl 159) (jt_ret 159)) := rfl
theorem jc_m_160 : jc_M 160 = true := by decide +kernel
set_option maxRecDepth 100000 in
theorem jc_mc_160 : (jt_tabs.getD 6 [])[45]? = some (.code (jt_y 160) (jt_cc 160) (jt_nl 160) (jt_ret 160)) := rfl
theorem jc_m_161 : jc_M 161 = true := by decide +kernel
set_option maxRecDepth 100000 in
theorem jc_mc_161 : (jt_tabs.getD 6 [])[33]? = some (.code (jt_y 161) (jt_cc 161) (jt_nl 161) (jt_ret 161)) := rfl
theorem jc_m_162 : jc_M 162 = true := by decide +kernel
set_option maxRecDepth 100000 in
theorem jc_mc_162 : (jt_tabs.getD 6 [])[37]? = some (.code (jt_y 162) (jt_cc 162) (jt_nl 162) (jt_ret 162)) := rfl
theorem jc_m_163 : jc_M 163 = true := by decide +kernel
set_option maxRecDepth 100000 in
theorem jc_mc_163 : (jt_tabs.getD 3 [])[31]? = some (.code (jt_y 163) (jt_cc 163) (jt_nl 163) (jt_ret 163)) := rfl
theorem jc_m_164 : jc_M 164 = true := by decide +kernel
set_option maxRecDepth 100000 in
theorem jc_mc_164 : (jt_tabs.getD 4 [])[101]? = some (.code (jt_y 164) (jt_cc 164) (jt_nl 164) (jt_ret 164)) := rfl
theorem jc_m_165 : jc_M 165 = true := by decide +kernel
set_option maxRecDepth 100000 in
theorem jc_mc_165 : (jt_tabs.getD 5 [])[216]? = some (.code (jt_y 165) (jt_cc 165) (jt_nl 165) (jt_ret 165)) := rfl
theorem jc_m_166 : jc_M 166 = true := by decide +kernel
set_option maxRecDepth 100000 in
theorem jc_mc_166 : (jt_tabs.getD 5 [])[233]? = some (.code (jt_y 166) (jt_cc 166) (jt_nl 166) (jt_ret 166)) := rfl
theorem jc_m_167 : jc_M 167 = true := by decide +kernel
set_option maxRecDepth 100000 in
theorem jc_mc_167 : (jt_tabs.getD 4 [])[186]? = some (.code (jt_y 167) (jt_cc 167) (jt_nl 167) (jt_ret 167)) := rfl
theorem jc_m_168 : jc_M 168 = true := by decide +kernel
set_option maxRecDepth 100000 in
theorem jc_mc_168 : (jt_tabs.getD 4 [])[117]? = some (.code (jt_y 168) (jt_cc 168) (jt_nl 168) (jt_ret 168)) := rfl
theorem jc_m_169 : jc_M 169 = true := by decide +kernel
set_option maxRecDepth 100000 in
theorem jc_mc_169 : (jt_tabs.getD 5 [])[135]? = some (.code (jt_y 169) (jt_cc 169) (jt_nl 169) (jt_ret 169)) := rfl
theorem jc_m_170 : jc_M 170 = true := by decide +kernel
set_option maxRecDepth 100000 in
theorem jc_mc_170 : (jt_tabs.getD 4 [])[136]? = some (.code (jt_y 170) (jt_cc 170) (jt_nl 170) (jt_ret 170)) := rfl
theorem jc_m_171 : jc_M 171 = true := by decide +kernel
set_option maxRecDepth 100000 in
theorem jc_mc_171 : (jt_tabs.getD 4 [])[164]? = some (.code (jt_y 171) (jt_cc 171) (jt_nl 171) (jt_ret 171)) := rfl
theorem jc_m_172 : jc_M 172 = true := by decide +kernel
set_option maxRecDepth 100000 in
theorem jc_mc_172 : (jt_tabs.getD 4 [])[229]? = some (.code (jt_y 172) (jt_cc 172) (jt_nl 172) (jt_ret 172)) := rfl
theorem jc_m_173 : jc_M 173 = true := by decide +kernel
set_option maxRecDepth 100000 in
theorem jc_mc_173 : (jt_tabs.getD 4 [])[160]? = some (.code (jt_y 173) (jt_cc 173) (jt_nl 173) (jt_ret 173)) := rfl
theorem jc_m_174 : jc_M 174 = true := by decide +kernel
set_option maxRecDepth 100000 in
theorem jc_mc_174 : (jt_tabs.getD 5 [])[20]? = some (.code (jt_y 174) (jt_cc 174) (jt_nl 174) (jt_ret 174)) := rfl
theorem jc_m_175 : jc_M 175 = true := by decide +kernel
set_option maxRecDepth 100000 in
theorem jc_mc_175 : (jt_tabs.getD 5 [])[93]? = some (.code (jt_y 175) (jt_cc 175) (jt_nl 175) (jt_ret 175)) := rfl
theorem jc_m_176 : jc_M 176 = true := by decide +kernel
set_option maxRecDepth 100000 in
theorem jc_mc_176 : (jt_tabs.getD 3 [])[22]? = some (.code (jt_y 176) (jt_cc 176) (jt_nl 176) (jt_ret 176)) := rfl
theorem jc_m_177 : jc_M 177 = true := by decide +kernel
set_option maxRecDepth 100000 in
theorem jc_mc_177 : (jt_tabs.getD 4 [])[33]? = some (.code (jt_y 177) (jt_cc 177) (jt_nl 177) (jt_ret 177)) := rfl
theorem jc_m_178 : jc_M 178 = true := by decide +kernel
set_option maxRecDepth 100000 in
theorem jc_mc_178 : (jt_tabs.getD 5 [])[28]? = some (.code (jt_y 178) (jt_cc 178) (jt_nl 178) (jt_ret 178)) := rfl
theorem jc_m_179 : jc_M 179 = true := by decide +kernel
set_option maxRecDepth 100000 in
theorem jc_mc_179 : (jt_tabs.getD 5 [])[24]? = some (.code (jt_y 179) (jt_cc 179) (jt_nl 179) (jt_ret 179)) := rfl
theorem jc_m_180 : jc_M 180 = true := by decide +kernel
set_option maxRecDepth 100000 in
theorem jc_mc_180 : (jt_tabs.getD 5 [])[194]? = some (.code (jt_y 180) (jt_cc 180) (jt_nl 180) (jt_ret 180)) := rfl
theorem jc_m_181 : jc_M 181 = true := by decide +kernel
set_option maxRecDepth 100000 in
theorem jc_mc_181 : (jt_tabs.getD 5 [])[174]? = some (.code (jt_y 181) (jt_cc 181) (jt_nl 181) (jt_ret 181)) := rfl
theorem jc_m_182 : jc_M 182 = true := by decide +kernel
set_option maxRecDepth 100000 in
theorem jc_mc_182 : (jt_tabs.getD 5 [])[182]? = some (.code (jt_y 182) (jt_cc 182) (jt_nl 182) (jt_ret 182)) := rfl
theorem jc_m_183 : jc_M 183 = true := by decide +kernel
set_option maxRecDepth 100000 in
theorem jc_mc_183 : (jt_tabs.getD 5 [])[7]? = some (.code (jt_y 183) (jt_cc 183) (jt_nl 183) (jt_ret 183)) := rfl
theorem jc_m_184 : jc_M 184 = true := by decide +kernel
set_option maxRecDepth 100000 in
theorem jc_mc_184 : (jt_tabs.getD 7 [])[33]? = some (.code (jt_y 184) (jt_cc 184) (jt_nl 184) (jt_ret 184)) := rfl
theorem jc_m_185 : jc_M 185 = true := by decide +kernel
set_option maxRecDepth 100000 in
theorem jc_mc_185 : (jt_tabs.getD 8 [])[24]? = some (.code (jt_y 185) (jt_cc 185) (jt_nl 185) (jt_ret 185)) := rfl
theorem jc_m_186 : jc_M 186 = true := by decide +kernel
set_option maxRecDepth 100000 in
theorem jc_mc_186 : (jt_tabs.getD 8 [])[47]? = some (.code (jt_y 186) (jt_cc 186) (jt_nl 186) (jt_ret 186)) := rfl
theorem jc_m_187 : jc_M 187 = true := by decide +kernel
set_option maxRecDepth 100000 in
theorem jc_mc_187 : (jt_tabs.getD 8 [])[187]? = some (.code (jt_y 187) (jt_cc 187) (jt_nl 187) (jt_ret 187)) := rfl
theorem jc_m_188 : jc_M 188 = true := by decide +kernel
set_option maxRecDepth 100000 in
theorem jc_mc_188 : (jt_tabs.getD 9 [])[96]? = some (.code (jt_y 188) (jt_cc 188) (jt_nl 188) (jt_ret 188)) := rfl
theorem jc_m_189 : jc_M 189 = true := by decide +kernel
set_option maxRecDepth 100000 in
theorem jc_mc_189 : (jt_tabs.getD 6 [])[115]? = some (.code (jt_y 189) (jt_cc 189) (jt_nl 189) (jt_ret 189)) := rfl
theorem jc_m_190 : jc_M 190 = true := by decide +kernel
set_option maxRecDepth 100000 in
theorem jc_mc_190 : (jt_tabs.getD 7 [])[16]? = some (.code (jt_y 190) (jt_cc 190) (jt_nl 190) (jt_ret 190)) := rfl
theorem jc_m_191 : jc_M 191 = true := by decide +kernel
set_option maxRecDepth 100000 in
theorem jc_mc_191 : (jt_tabs.getD 7 [])[28]? = some (.code (jt_y 191) (jt_cc 191) (jt_nl 191) (jt_ret 191)) := rfl
theorem jc_m_192 : jc_M 192 = true := by decide +kernel
set_option maxRecDepth 100000 in
theorem jc_mc_192 : (jt_tabs.getD 9 [])[182]? = some (.code (jt_y 192) (jt_cc 192) (jt_nl 192) (jt_ret 192)) := rfl
theorem jc_m_193 : jc_M 193 = true := by decide +kernel
set_option maxRecDepth 100000 in
theorem jc_mc_193 : (jt_tabs.getD 8 [])[109]? = some (.code (jt_y 193) (jt_cc 193) (jt_nl 193) (jt_ret 193)) := rfl
theorem jc_m_194 : jc_M 194 = true := by decide +kernel
set_option maxRecDepth 100000 in
theorem jc_mc_194 : (jt_tabs.getD 9 [])[190]? = some (.code (jt_y 194) (jt_cc 194) (jt_nl 194) (jt_ret 194)) := rfl
theorem jc_m_195 : jc_M 195 = true := by decide +kernel
set_option maxRecDepth 100000 in
theorem jc_mc_195 : (jt_tabs.getD 7 [])[232]? = some (.code (jt_y 195) (jt_cc 195) (jt_nl 195) (jt_ret 195)) := rfl
theorem jc_m_196 : jc_M 196 = true := by decide +kernel
set_option maxRecDepth 100000 in
theorem jc_mc_196 : (jt_tabs.getD 8 [])[99]? = some (.code (jt_y 196) (jt_cc 196) (jt_nl 196) (jt_ret 196)) := rfl
theorem jc_m_197 : jc_M 197 = true := by decide +kernel
set_option maxRecDepth 100000 in
theorem jc_mc_197 : (jt_tabs.getD 8 [])[180]? = some (.code (jt_y 197) (jt_cc 197) (jt_nl 197) (jt_ret 197)) := rfl
theorem jc_m_198 : jc_M 198 = true := by decide +kernel
set_option maxRecDepth 100000 in
theorem jc_mc_198 : (jt_tabs.getD 7 [])[179]? = some (.code (jt_y 198) (jt_cc 198) (jt_nl 198) (jt_ret 198)) := rfl
theorem jc_m_199 : jc_M 199 = true := by decide +kernel
set_option maxRecDepth 100000 in
theorem jc_mc_199 : (jt_tabs.getD 7 [])[182]? = some (.code (jt_y 199) (jt_cc 199) (jt_nl 199) (jt_ret 199)) := rfl
theorem jc_m_200 : jc_M 200 = true := by decide +kernel
set_option maxRecDepth 100000 in
theorem jc_mc_200 : (jt_tabs.getD 7 [])[186]? = some (.code (jt_y 200) (jt_cc 200) (jt_nl 200) (jt_ret 200)) := rfl
theorem jc_m_201 : jc_M 201 = true := by decide +kernel
set_option maxRecDepth 100000 in
theorem jc_mc_201 : (jt_tabs.getD 7 [])[202]? = some (.code (jt_y 201) (jt_cc 201) (jt_nl 201) (jt_ret 201)) := rfl
theorem jc_m_202 : jc_M 202 = true := by decide +kernel
set_option maxRecDepth 100000 in
theorem jc_mc_202 : (jt_tabs.getD 7 [])[175]? = some (.code (jt_y 202) (jt_cc 202) (jt_nl 202) (jt_ret 202)) := rfl
theorem jc_m_203 : jc_M 203 = true := by decide +kernel
set_option maxRecDepth 100000 in
theorem jc_mc_203 : (jt_tabs.getD 7 [])[212]? = some (.code (jt_y 203) (jt_cc 203) (jt_nl 203) (jt_ret 203)) := rfl
theorem jc_m_204 : jc_M 204 = true := by decide +kernel
set_option maxRecDepth 100000 in
theorem jc_mc_204 : (jt_tabs.getD 7 [])[199]? = some (.code (jt_y 204) (jt_cc 204) (jt_nl 204) (jt_ret 204)) := rfl
theorem jc_m_205 : jc_M 205 = true := by decide +kernel
set_option maxRecDepth 100000 in
theorem jc_mc_205 : (jt_tabs.getD 8 [])[75]? = some (.code (jt_y 205) (jt_cc 205) (jt_nl 205) (jt_ret 205)) := rfl
theorem jc_m_206 : jc_M 206 = true := by decide +kernel
set_option maxRecDepth 100000 in
theorem jc_mc_206 : (jt_tabs.getD 7 [])[221]? = some (.code (jt_y 206) (jt_cc 206) (jt_nl 206) (jt_ret 206)) := rfl
theorem jc_m_207 : jc_M 207 = true := by decide +kernel
set_option maxRecDepth 100000 in
theorem jc_mc_207 : (jt_tabs.getD 7 [])[229]? = some (.code (jt_y 207) (jt_cc 207) (jt_nl 207) (jt_ret 207)) := rfl
theorem jc_m_208 : jc_M 208 = true := by decide +kernel
set_option maxRecDepth 100000 in
theorem jc_mc_208 : (jt_tabs.getD 7 [])[225]? = some (.code (jt_y 208) (jt_cc 208) (jt_nl 208) (jt_ret 208)) := rfl
theorem jc_m_209 : jc_M 209 = true := by decide +kernel
set_option maxRecDepth 100000 in
theorem jc_mc_209 : (jt_tabs.getD 7 [])[217]? = some (.code (jt_y 209) (jt_cc 209) (jt_nl 209) (jt_ret 209)) := rfl
theorem jc_m_210 : jc_M 210 = true := by decide +kernel
set_option maxRecDepth 100000 in
theorem jc_mc_210 : (jt_tabs.getD 8 [])[71]? = some (.code (jt_y 210) (jt_cc 210) (jt_nl 210) (jt_ret 210)) := rfl
theorem jc_m_211 : jc_M 211 = true := by decide +kernel
set_option maxRecDepth 100000 in
theorem jc_mc_211 : (jt_tabs.getD 8 [])[11]? = some (.code (jt_y 211) (jt_cc 211) (jt_nl 211) (jt_ret 211)) := rfl
theorem jc_m_212 : jc_M 212 = true := by decide +kernel
set_option maxRecDepth 100000 in
theorem jc_mc_212 : (jt_tabs.getD 8 [])[3]? = some (.code (jt_y 212) (jt_cc 212) (jt_nl 212) (jt_ret 212)) := rfl
theorem jc_m_213 : jc_M 213 = true := by decide +kernel
set_option maxRecDepth 100000 in
theorem jc_mc_213 : (jt_tabs.getD 8 [])[7]? = some (.code (jt_y 213) (jt_cc 213) (jt_nl 213) (jt_ret 213)) := rfl
theorem jc_m_214 : jc_M 214 = true := by decide +kernel
set_option maxRecDepth 100000 in
theorem jc_mc_214 : (jt_tabs.getD 8 [])[31]? = some (.code (jt_y 214) (jt_cc 214) (jt_nl 214) (jt_ret 214)) := rfl
theorem jc_m_215 : jc_M 215 = true := by decide +kernel
set_option maxRecDepth 100000 in
theorem jc_mc_215 : (jt_tabs.getD 8 [])[43]? = some (.code (jt_y 215) (jt_cc 215) (jt_nl 215) (jt_ret 215)) := rfl
theorem jc_m_216 : jc_M 216 = true := by decide +kernel
set_option maxRecDepth 100000 in
theorem jc_mc_216 : (jt_tabs.getD 8 [])[39]? = some (.code (jt_y 216) (jt_cc 216) (jt_nl 216) (jt_ret 216)) := rfl
theorem jc_m_217 : jc_M 217 = true := by decide +kernel
set_option maxRecDepth 100000 in
theorem jc_mc_217 : (jt_tabs.getD 8 [])[63]? = some (.code (jt_y 217) (jt_cc 217) (jt_nl 217) (jt_ret 217)) := rfl
theorem jc_m_218 : jc_M 218 = true := by decide +kernel
set_option maxRecDepth 100000 in
theorem jc_mc_218 : (jt_tabs.getD 7 [])[190]? = some (.code (jt_y 218) (jt_cc 218) (jt_nl 218) (jt_ret 218)) := rfl
theorem jc_m_219 : jc_M 219 = true := by decide +kernel
set_option maxRecDepth 100000 in
theorem jc_mc_219 : (jt_tabs.getD 7 [])[194]? = some (.code (jt_y 219) (jt_cc 219) (jt_nl 219) (jt_ret 219)) := rfl
theorem jc_m_220 : jc_M 220 = true := by decide +kernel
set_option maxRecDepth 100000 in
theorem jc_mc_220 : (jt_tabs.getD 7 [])[208]? = some (.code (jt_y 220) (jt_cc 220) (jt_nl 220) (jt_ret 220)) := rfl
theorem jc_m_221 : jc_M 221 = true := by decide +kernel
set_option maxRecDepth 100000 in
theorem jc_mc_221 : (jt_tabs.getD 7 [])[239]? = some (.code (jt_y 221) (jt_cc 221) (jt_nl 221) (jt_ret 221)) := rfl
theorem jc_m_222 : jc_M 222 = true := by decide +kernel
set_option maxRecDepth 100000 in
theorem jc_mc_222 : (jt_tabs.getD 8 [])[35]? = some (.code (jt_y 222) (jt_cc 222) (jt_nl 222) (jt_ret 222)) := rfl
theorem jc_m_223 : jc_M 223 = true := by decide +kernel
set_option maxRecDepth 100000 in
theorem jc_mc_223 : (jt_tabs.getD 8 [])[52]? = some (.code (jt_y 223) (jt_cc 223) (jt_nl 223) (jt_ret 223)) := rfl
theorem jc_m_224 : jc_M 224 = true := by decide +kernel
set_option maxRecDepth 100000 in
theorem jc_mc_224 : (jt_tabs.getD 8 [])[67]? = some (.code (jt_y 224) (jt_cc 224) (jt_nl 224) (jt_ret 224)) := rfl
theorem jc_m_225 : jc_M 225 = true := by decide +kernel
set_option maxRecDepth 100000 in
theorem jc_mc_225 : (jt_tabs.getD 8 [])[79]? = some (.code (jt_y 225) (jt_cc 225) (jt_nl 225) (jt_ret 225)) := rfl
theorem jc_m_226 : jc_M 226 = true := by decide +kernel
set_option maxRecDepth 100000 in
theorem jc_mc_226 : (jt_tabs.getD 8 [])[83]? = some (.code (jt_y 226) (jt_cc 226) (jt_nl 226) (jt_ret 226)) := rfl
theorem jc_m_227 : jc_M 227 = true := by decide +kernel
set_option maxRecDepth 100000 in
theorem jc_mc_227 : (jt_tabs.getD 8 [])[87]? = some (.code (jt_y 227) (jt_cc 227) (jt_nl 227) (jt_ret 227)) := rfl
theorem jc_m_228 : jc_M 228 = true := by decide +kernel
set_option maxRecDepth 100000 in
theorem jc_mc_228 : (jt_tabs.getD 8 [])[91]? = some (.code (jt_y 228) (jt_cc 228) (jt_nl 228) (jt_ret 228)) := rfl
theorem jc_m_229 : jc_M 229 = true := by decide +kernel
set_option maxRecDepth 100000 in
theorem jc_mc_229 : (jt_tabs.getD 8 [])[96]? = some (.code (jt_y 229) (jt_cc 229) (jt_nl 229) (jt_ret 229)) := rfl
theorem jc_m_230 : jc_M 230 = true := by decide +kernel
set_option maxRecDepth 100000 in
theorem jc_mc_230 : (jt_tabs.getD 8 [])[103]? = some (.code (jt_y 230) (jt_cc 230) (jt_nl 230) (jt_ret 230)) := rfl
theorem jc_m_231 : jc_M 231 = true := by decide +kernel
set_option maxRecDepth 100000 in
theorem jc_mc_231 : (jt_tabs.getD 7 [])[20]? = some (.code (jt_y 231) (jt_cc 231) (jt_nl 231) (jt_ret 231)) := rfl
theorem jc_m_232 : jc_M 232 = true := by decide +kernel
set_option maxRecDepth 100000 in
theorem jc_mc_232 : (jt_tabs.getD 7 [])[24]? = some (.code (jt_y 232) (jt_cc 232) (jt_nl 232) (jt_ret 232)) := rfl
theorem jc_m_233 : jc_M 233 = true := by decide +kernel
set_option maxRecDepth 100000 in
theorem jc_mc_233 : (jt_tabs.getD 8 [])[113]? = some (.code (jt_y 233) (jt_cc 233) (jt_nl 233) (jt_ret 233)) := rfl
theorem jc_m_234 : jc_M 234 = true := by decide +kernel
set_option maxRecDepth 100000 in
theorem jc_mc_234 : (jt_tabs.getD 8 [])[117]? = some (.code (jt_y 234) (jt_cc 234) (jt_nl 234) (jt_ret 234)) := rfl
theorem jc_m_235 : jc_M 235 = true := by decide +kernel
set_option maxRecDepth 100000 in
theorem jc_mc_235 : (jt_tabs.getD 8 [])[137]? = some (.code (jt_y 235) (jt_cc 235) (jt_nl 235) (jt_ret 235)) := rfl
theorem jc_m_236 : jc_M 236 = true := by decide +kernel
set_option maxRecDepth 100000 in
theorem jc_mc_236 : (jt_tabs.getD 8 [])[125]? = some (.code (jt_y 236) (jt_cc 236) (jt_nl 236) (jt_ret 236)) := rfl
theorem jc_m_237 : jc_M 237 = true := by decide +kernel
set_option maxRecDepth 100000 in
theorem jc_mc_237 : (jt_tabs.getD 8 [])[153]? = some (.code (jt_y 237) (jt_cc 237) (jt_nl 237) (jt_ret 237)) := rfl
theorem jc_m_238 : jc_M 238 = true := by decide +kernel
set_option maxRecDepth 100000 in
theorem jc_mc_238 : (jt_tabs.getD 8 [])[169]? = some (.code (jt_y 238) (jt_cc 238) (jt_nl 238) (jt_ret 238)) := rfl
theorem jc_m_239 : jc_M 239 = true := by decide +kernel
set_option maxRecDepth 100000 in
theorem jc_mc_239 : (jt_tabs.getD 8 [])[165]? = some (.code (jt_y 239) (jt_cc 239) (jt_nl 239) (jt_ret 239)) := rfl
theorem jc_m_240 : jc_M 240 = true := by decide +kernel
set_option maxRecDepth 100000 in
theorem jc_mc_240 : (jt_tabs.getD 8 [])[161]? = some (.code (jt_y 240) (jt_cc 240) (jt_nl 240) (jt_ret 240)) := rfl
theorem jc_m_241 : jc_M 241 = true := by decide +kernel
set_option maxRecDepth 100000 in
theorem jc_mc_241 : (jt_tabs.getD 8 [])[177]? = some (.code (jt_y 241) (jt_cc 241) (jt_nl 241) (jt_ret 241)) := rfl
theorem jc_m_242 : jc_M 242 = true := by decide +kernel
set_option maxRecDepth 100000 in
theorem jc_mc_242 : (jt_tabs.getD 8 [])[157]? = some (.code (jt_y 242) (jt_cc 242) (jt_nl 242) (jt_ret 242)) := rfl
theorem jc_m_243 : jc_M 243 = true := by decide +kernel
set_option maxRecDepth 100000 in
theorem jc_mc_243 : (jt_tabs.getD 8 [])[173]? = some (.code (jt_y 243) (jt_cc 243) (jt_nl 243) (jt_ret 243)) := rfl
theorem jc_m_244 : jc_M 244 = true := by decide +kernel
set_option maxRecDepth 100000 in
theorem jc_mc_244 : (jt_tabs.getD 8 [])[207]? = some (.code (jt_y 244) (jt_cc 244) (jt_nl 244) (jt_ret 244)) := rfl
theorem jc_m_245 : jc_M 245 = true := by decide +kernel
set_option maxRecDepth 100000 in
theorem jc_mc_245 : (jt_tabs.getD 8 [])[149]? = some (.code (jt_y 245) (jt_cc 245) (jt_nl 245) (jt_ret 245)) := rfl
theorem jc_m_246 : jc_M 246 = true := by decide +kernel
set_option maxRecDepth 100000 in
theorem jc_mc_246 : (jt_tabs.getD 8 [])[121]? = some (.code (jt_y 246) (jt_cc 246) (jt_nl 246) (jt_ret 246)) := rfl
theorem jc_m_247 : jc_M 247 = true := by decide +kernel
set_option maxRecDepth 100000 in
theorem jc_mc_247 : (jt_tabs.getD 8 [])[129]? = some (.code (jt_y 247) (jt_cc 247) (jt_nl 247) (jt_ret 247)) := rfl
theorem jc_m_248 : jc_M 248 = true := by decide +kernel
set_option maxRecDepth 100000 in
theorem jc_mc_248 : (jt_tabs.getD 8 [])[133]? = some (.code (jt_y 248) (jt_cc 248) (jt_nl 248) (jt_ret 248)) := rfl
theorem jc_m_249 : jc_M 249 = true := by decide +kernel
set_option maxRecDepth 100000 in
theorem jc_mc_249 : (jt_tabs.getD 8 [])[141]? = some (.code (jt_y 249) (jt_cc 249) (jt_nl 249) (jt_ret 249)) := rfl
theorem jc_m_250 : jc_M 250 = true := by decide +kernel
set_option maxRecDepth 100000 in
theorem jc_mc_250 : (jt_tabs.getD 8 [])[145]? = some (.code (jt_y 250) (jt_cc 250) (jt_nl 250) (jt_ret 250)) := rfl
theorem jc_m_251 : jc_M 251 = true := by decide +kernel
set_option maxRecDepth 100000 in
theorem jc_mc_251 : (jt_tabs.getD 8 [])[191]? = some (.code (jt_y 251) (jt_cc 251) (jt_nl 251) (jt_ret 251)) := rfl
theorem jc_m_252 : jc_M 252 = true := by decide +kernel
set_option maxRecDepth 100000 in
theorem jc_mc_252 : (jt_tabs.getD 8 [])[195]? = some (.code (jt_y 252) (jt_cc 252) (jt_nl 252) (jt_ret 252)) := rfl
theorem jc_m_253 : jc_M 253 = true := by decide +kernel
set_option maxRecDepth 100000 in
theorem jc_mc_253 : (jt_tabs.getD 8 [])[199]? = some (.code (jt_y 253) (jt_cc 253) (jt_nl 253) (jt_ret 253)) := rfl
theorem jc_m_254 : jc_M 254 = true := by decide +kernel
set_option maxRecDepth 100000 in
theorem jc_mc_254 : (jt_tabs.getD 8 [])[203]? = some (.code (jt_y 254) (jt_cc 254) (jt_nl 254) (jt_ret 254)) := rfl
theorem jc_m_255 : jc_M 255 = true := by decide +kernel
set_option maxRecDepth 100000 in
theorem jc_mc_255 : (jt_tabs.getD 8 [])[211]? = some (.code (jt_y 255) (jt_cc 255) (jt_nl 255) (jt_ret 255)) := rfl
theorem jc_m_256 : jc_M 256 = true := by decide +kernel
set_option maxRecDepth 100000 in
theorem jc_mc_256 : (jt_tabs.getD 8 [])[215]? = some (.code (jt_y 256) (jt_cc 256) (jt_nl 256) (jt_ret 256)) := rfl
theorem jc_m_257 : jc_M 257 = true := by decide +kernel
set_option maxRecDepth 100000 in
theorem jc_mc_257 : (jt_tabs.getD 8 [])[219]? = some (.code (jt_y 257) (jt_cc 257) (jt_nl 257) (jt_ret 257)) := rfl
theorem jc_m_258 : jc_M 258 = true := by decide +kernel
set_option maxRecDepth 100000 in
theorem jc_mc_258 : (jt_tabs.getD 8 [])[223]? = some (.code (jt_y 258) (jt_cc 258) (jt_nl 258) (jt_ret 258)) := rfl
theorem jc_m_259 : jc_M 259 = true := by decide +kernel
set_option maxRecDepth 100000 in
theorem jc_mc_259 : (jt_tabs.getD 8 [])[235]? = some (.code (jt_y 259) (jt_cc 259) (jt_nl 259) (jt_ret 259)) := rfl
theorem jc_m_260 : jc_M 260 = true := by decide +kernel
set_option maxRecDepth 100000 in
theorem jc_mc_260 : (jt_tabs.getD 8 [])[231]? = some (.code (jt_y 260) (jt_cc 260) (jt_nl 260) (jt_ret 260)) := rfl
theorem jc_m_261 : jc_M 261 = true := by decide +kernel
set_option maxRecDepth 100000 in
theorem jc_mc_261 : (jt_tabs.getD 9 [])[7]? = some (.code (jt_y 261) (jt_cc 261) (jt_nl 261) (jt_ret 261)) := rfl
theorem jc_m_262 : jc_M 262 = true := by decide +kernel
set_option maxRecDepth 100000 in
theorem jc_mc_262 : (jt_tabs.getD 8 [])[227]? = some (.code (jt_y 262) (jt_cc 262) (jt_nl 262) (jt_ret 262)) := rfl
theorem jc_m_263 : jc_M 263 = true := by decide +kernel
set_option maxRecDepth 100000 in
theorem jc_mc_263 : (jt_tabs.getD 8 [])[239]? = some (.code (jt_y 263) (jt_cc 263) (jt_nl 263) (jt_ret 263)) := rfl
theorem jc_m_264 : jc_M 264 = true := by decide +kernel
set_option maxRecDepth 100000 in
theorem jc_mc_264 : (jt_tabs.getD 9 [])[16]? = some (.code (jt_y 264) (jt_cc 264) (jt_nl 264) (jt_ret 264)) := rfl
theorem jc_m_265 : jc_M 265 = true := by decide +kernel
set_option maxRecDepth 100000 in
theorem jc_mc_265 : (jt_tabs.getD 9 [])[13]? = some (.code (jt_y 265) (jt_cc 265) (jt_nl 265) (jt_ret 265)) := rfl
theorem jc_m_266 : jc_M 266 = true := by decide +kernel
set_option maxRecDepth 100000 in
theorem jc_mc_266 : (jt_tabs.getD 9 [])[3]? = some (.code (jt_y 266) (jt_cc 266) (jt_nl 266) (jt_ret 266)) := rfl
theorem jc_m_267 : jc_M 267 = true := by decide +kernel
set_option maxRecDepth 100000 in
theorem jc_mc_267 : (jt_tabs.getD 9 [])[20]? = some (.code (jt_y 267) (jt_cc 267) (jt_nl 267) (jt_ret 267)) := rfl
theorem jc_m_268 : jc_M 268 = true := by decide +kernel
set_option maxRecDepth 100000 in
theorem jc_mc_268 : (jt_tabs.getD 9 [])[28]? = some (.code (jt_y 268) (jt_cc 268) (jt_nl 268) (jt_ret 268)) := rfl
theorem jc_m_269 : jc_M 269 = true := by decide +kernel
set_option maxRecDepth 100000 in
theorem jc_mc_269 : (jt_tabs.getD 9 [])[32]? = some (.code (jt_y 269) (jt_cc 269) (jt_nl 269) (jt_ret 269)) := rfl
theorem jc_m_270 : jc_M 270 = true := by decide +kernel
set_option maxRecDepth 100000 in
theorem jc_mc_270 : (jt_tabs.getD 9 [])[24]? = some (.code (jt_y 270) (jt_cc 270) (jt_nl 270) (jt_ret 270)) := rfl
theorem jc_m_271 : jc_M 271 = true := by decide +kernel
set_option maxRecDepth 100000 in
theorem jc_mc_271 : (jt_tabs.getD 9 [])[36]? = some (.code (jt_y 271) (jt_cc 271) (jt_nl 271) (jt_ret 271)) := rfl
theorem jc_m_272 : jc_M 272 = true := by decide +kernel
set_option maxRecDepth 100000 in
theorem jc_mc_272 : (jt_tabs.getD 9 [])[52]? = some (.code (jt_y 272) (jt_cc 272) (jt_nl 272) (jt_ret 272)) := rfl
theorem jc_m_273 : jc_M 273 = true := by decide +kernel
set_option maxRecDepth 100000 in
theorem jc_mc_273 : (jt_tabs.getD 9 [])[48]? = some (.code (jt_y 273) (jt_cc 273) (jt_nl 273) (jt_ret 273)) := rfl
theorem jc_m_274 : jc_M 274 = true := by decide +kernel
set_option maxRecDepth 100000 in
theorem jc_mc_274 : (jt_tabs.getD 9 [])[44]? = some (.code (jt_y 274) (jt_cc 274) (jt_nl 274) (jt_ret 274)) := rfl
theorem jc_m_275 : jc_M 275 = true := by decide +kernel
set_option maxRecDepth 100000 in
theorem jc_mc_275 : (jt_tabs.getD 9 [])[40]? = some (.code (jt_y 275) (jt_cc 275) (jt_nl 275) (jt_ret 275)) := rfl
theorem jc_m_276 : jc_M 276 = true := by decide +kernel
set_option maxRecDepth 100000 in
theorem jc_mc_276 : (jt_tabs.getD 9 [])[56]? = some (.code (jt_y 276) (jt_cc 276) (jt_nl 276) (jt_ret 276)) := rfl
theorem jc_m_277 : jc_M 277 = true := by decide +kernel
set_option maxRecDepth 100000 in
theorem jc_mc_277 : (jt_tabs.getD 9 [])[60]? = some (.code (jt_y 277) (jt_cc 277) (jt_nl 277) (jt_ret 277)) := rfl
theorem jc_m_278 : jc_M 278 = true := by decide +kernel
set_option maxRecDepth 100000 in
theorem jc_mc_278 : (jt_tabs.getD 9 [])[68]? = some (.code (jt_y 278) (jt_cc 278) (jt_nl 278) (jt_ret 278)) := rfl
theorem jc_m_279 : jc_M 279 = true := by decide +kernel
set_option maxRecDepth 100000 in
theorem jc_mc_279 : (jt_tabs.getD 9 [])[64]? = some (.code (jt_y 279) (jt_cc 279) (jt_nl 279) (jt_ret 279)) := rfl
theorem jc_m_280 : jc_M 280 = true := by decide +kernel
set_option maxRecDepth 100000 in
theorem jc_mc_280 : (jt_tabs.getD 9 [])[76]? = some (.code (jt_y 280) (jt_cc 280) (jt_nl 280) (jt_ret 280)) := rfl
theorem jc_m_281 : jc_M 281 = true := by decide +kernel
set_option maxRecDepth 100000 in
theorem jc_mc_281 : (jt_tabs.getD 9 [])[72]? = some (.code (jt_y 281) (jt_cc 281) (jt_nl 281) (jt_ret 281)) := rfl
theorem jc_m_282 : jc_M 282 = true := by decide +kernel
set_option maxRecDepth 100000 in
theorem jc_mc_282 : (jt_tabs.getD 9 [])[80]? = some (.code (jt_y 282) (jt_cc 282) (jt_nl 282) (jt_ret 282)) := rfl
theorem jc_m_283 : jc_M 283 = true := by decide +kernel
set_option maxRecDepth 100000 in
theorem jc_mc_283 : (jt_tabs.getD 9 [])[92]? = some (.code (jt_y 283) (jt_cc 283) (jt_nl 283) (jt_ret 283)) := rfl
theorem jc_m_284 : jc_M 284 = true := by decide +kernel
set_option maxRecDepth 100000 in
theorem jc_mc_284 : (jt_tabs.getD 9 [])[88]? = some (.code (jt_y 284) (jt_cc 284) (jt_nl 284) (jt_ret 284)) := rfl
theorem jc_m_285 : jc_M 285 = true := by decide +kernel
set_option maxRecDepth 100000 in
theorem jc_mc_285 : (jt_tabs.getD 9 [])[84]? = some (.code (jt_y 285) (jt_cc 285) (jt_nl 285) (jt_ret 285)) := rfl
theorem jc_m_286 : jc_M 286 = true := by decide +kernel
set_option maxRecDepth 100000 in
theorem jc_mc_286 : (jt_tabs.getD 9 [])[101]? = some (.code (jt_y 286) (jt_cc 286) (jt_nl 286) (jt_ret 286)) := rfl
theorem jc_m_287 : jc_M 287 = true := by decide +kernel
set_option maxRecDepth 100000 in
theorem jc_mc_287 : (jt_tabs.getD 9 [])[113]? = some (.code (jt_y 287) (jt_cc 287) (jt_nl 287) (jt_ret 287)) := rfl
theorem jc_m_288 : jc_M 288 = true := by decide +kernel
set_option maxRecDepth 100000 in
theorem jc_mc_288 : (jt_tabs.getD 9 [])[109]? = some (.code (jt_y 288) (jt_cc 288) (jt_nl 288) (jt_ret 288)) := rfl
theorem jc_m_289 : jc_M 289 = true := by decide +kernel
set_option maxRecDepth 100000 in
theorem jc_mc_289 : (jt_tabs.getD 9 [])[105]? = some (.code (jt_y 289) (jt_cc 289) (jt_nl 289) (jt_ret 289)) := rfl
theorem jc_m_290 : jc_M 290 = true := by decide +kernel
set_option maxRecDepth 100000 in
theorem jc_mc_290 : (jt_tabs.getD 9 [])[117]? = some (.code (jt_y 290) (jt_cc 290) (jt_nl 290) (jt_ret 290)) := rfl
theorem jc_m_291 : jc_M 291 = true := by decide +kernel
set_option maxRecDepth 100000 in
theorem jc_mc_291 : (jt_tabs.getD 9 [])[125]? = some (.code (jt_y 291) (jt_cc 291) (jt_nl 291) (jt_ret 291)) := rfl
theorem jc_m_292 : jc_M 292 = true := by decide +kernel
set_option maxRecDepth 100000 in
theorem jc_mc_292 : (jt_tabs.getD 9 [])[129]? = some (.code (jt_y 292) (jt_cc 292) (jt_nl 292) (jt_ret 292)) := rfl
theorem jc_m_293 : jc_M 293 = true := by decide +kernel
set_option maxRecDepth 100000 in
theorem jc_mc_293 : (jt_tabs.getD 9 [])[133]? = some (.code (jt_y 293) (jt_cc 293) (jt_nl 293) (jt_ret 293)) := rfl
theorem jc_m_294 : jc_M 294 = true := by decide +kernel
set_option maxRecDepth 100000 in
theorem jc_mc_294 : (jt_tabs.getD 9 [])[121]? = some (.code (jt_y 294) (jt_cc 294) (jt_nl 294) (jt_ret 294)) := rfl
theorem jc_m_295 : jc_M 295 = true := by decide +kernel
set_option maxRecDepth 100000 in
theorem jc_mc_295 : (jt_tabs.getD 9 [])[141]? = some (.code (jt_y 295) (jt_cc 295) (jt_nl 295) (jt_ret 295)) := rfl
theorem jc_m_296 : jc_M 296 = true := by decide +kernel
set_option maxRecDepth 100000 in
theorem jc_mc_296 : (jt_tabs.getD 9 [])[145]? = some (.code (jt_y 296) (jt_cc 296) (jt_nl 296) (jt_ret 296)) := rfl
theorem jc_m_297 : jc_M 297 = true := by decide +kernel
set_option maxRecDepth 100000 in
theorem jc_mc_297 : (jt_tabs.getD 9 [])[137]? = some (.code (jt_y 297) (jt_cc 297) (jt_nl 297) (jt_ret 297)) := rfl
theorem jc_m_298 : jc_M 298 = true := by decide +kernel
set_option maxRecDepth 100000 in
theorem jc_mc_298 : (jt_tabs.getD 9 [])[149]? = some (.code (jt_y 298) (jt_cc 298) (jt_nl 298) (jt_ret 298)) := rfl
theorem jc_m_299 : jc_M 299 = true := by decide +kernel
set_option maxRecDepth 100000 in
theorem jc_mc_299 : (jt_tabs.getD 9 [])[161]? = some (.code (jt_y 299) (jt_cc 299) (jt_nl 299) (jt_ret 299)) := rfl
theorem jc_m_300 : jc_M 300 = true := by decide +kernel
set_option maxRecDepth 100000 in
theorem jc_mc_300 : (jt_tabs.getD 9 [])[157]? = some (.code (jt_y 300) (jt_cc 300) (jt_nl 300) (jt_ret 300)) := rfl
theorem jc_m_301 : jc_M 301 = true := by decide +kernel
set_option maxRecDepth 100000 in
theorem jc_mc_301 : (jt_tabs.getD 9 [])[153]? = some (.code (jt_y 301) (jt_cc 301) (jt_nl 301) (jt_ret 301)) := rfl
theorem jc_m_302 : jc_M 302 = true := by decide +kernel
set_option maxRecDepth 100000 in
theorem jc_mc_302 : (jt_tabs.getD 9 [])[165]? = some (.code (jt_y 302) (jt_cc 302) (jt_nl 302) (jt_ret 302)) := rfl
theorem jc_m_303 : jc_M 303 = true := by decide +kernel
set_option maxRecDepth 100000 in
theorem jc_mc_303 : (jt_tabs.getD 9 [])[169]? = some (.code (jt_y 303) (jt_cc 303) (jt_nl 303) (jt_ret 303)) := rfl
theorem jc_m_304 : jc_M 304 = true := by decide +kernel
set_option maxRecDepth 100000 in
theorem jc_mc_304 : (jt_tabs.getD 9 [])[174]? = some (.code (jt_y 304) (jt_cc 304) (jt_nl 304) (jt_ret 304)) := rfl
theorem jc_m_305 : jc_M 305 = true := by decide +kernel
set_option maxRecDepth 100000 in
theorem jc_mc_305 : (jt_tabs.getD 9 [])[186]? = some (.code (jt_y 305) (jt_cc 305) (jt_nl 305) (jt_ret 305)) := rfl
theorem jc_m_306 : jc_M 306 = true := by decide +kernel
set_option maxRecDepth 100000 in
theorem jc_mc_306 : (jt_tabs.getD 9 [])[178]? = some (.code (jt_y 306) (jt_cc 306) (jt_nl 306) (jt_ret 306)) := rfl
theorem jc_m_307 : jc_M 307 = true := by decide +kernel
set_option maxRecDepth 100000 in
theorem jc_mc_307 : (jt_tabs.getD 9 [])[194]? = some (.code (jt_y 307) (jt_cc 307) (jt_nl 307) (jt_ret 307)) := rfl
theorem jc_m_308 : jc_M 308 = true := by decide +kernel
set_option maxRecDepth 100000 in
theorem jc_mc_308 : (jt_tabs.getD 9 [])[198]? = some (.code (jt_y 308) (jt_cc 308) (jt_nl 308) (jt_ret 308)) := rfl
theorem jc_m_309 : jc_M 309 = true := by decide +kernel
set_option maxRecDepth 100000 in
theorem jc_mc_309 : (jt_tabs.getD 9 [])[202]? = some (.code (jt_y 309) (jt_cc 309) (jt_nl 309) (jt_ret 309)) := rfl
theorem jc_m_310 : jc_M 310 = true := by decide +kernel
set_option maxRecDepth 100000 in
theorem jc_mc_310 : (jt_tabs.getD 9 [])[206]? = some (.code (jt_y 310) (jt_cc 310) (jt_nl 310) (jt_ret 310)) := rfl
theorem jc_m_311 : jc_M 311 = true := by decide +kernel
set_option maxRecDepth 100000 in
theorem jc_mc_311 : (jt_tabs.getD 9 [])[210]? = some (.code (jt_y 311) (jt_cc 311) (jt_nl 311) (jt_ret 311)) := rfl
theorem jc_m_312 : jc_M 312 = true := by decide +kernel
set_option maxRecDepth 100000 in
theorem jc_mc_312 : (jt_tabs.getD 9 [])[214]? = some (.code (jt_y 312) (jt_cc 312) (jt_nl 312) (jt_ret 312)) := rfl
theorem jc_m_313 : jc_M 313 = true := by decide +kernel
set_option maxRecDepth 100000 in
theorem jc_mc_313 : (jt_tabs.getD 9 [])[218]? = some (.code (jt_y 313) (jt_cc 313) (jt_nl 313) (jt_ret 313)) := rfl
theorem jc_m_314 : jc_M 314 = true := by decide +kernel
set_option maxRecDepth 100000 in
theorem jc_mc_314 : (jt_tabs.getD 9 [])[222]? = some (.code (jt_y 314) (jt_cc 314) (jt_nl 314) (jt_ret 314)) := rfl
theorem jc_m_315 : jc_M 315 = true := by decide +kernel
set_option maxRecDepth 100000 in
theorem jc_mc_315 : (jt_tabs.getD 4 [])[201]? = some (.code (jt_y 315) (jt_cc 315) (jt_nl 315) (jt_ret 315)) := rfl
theorem jc_ms_20 : ∀ b, b < 20 → jc_M b = true := (lt_more (n := 19) jc_m_19 (lt_more (n := 18) jc_m_18 (lt_more (n := 17) jc_m_17 (lt_more (n := 16) jc_m_16 (lt_more (n := 15) jc_m_15 (lt_more (n := 14) jc_m_14 (lt_more (n := 13) jc_m_13 (lt_more (n := 12) jc_m_12 (lt_more (n := 11) jc_m_11 (lt_more (n := 10) jc_m_10 (lt_more (n := 9) jc_m_9 (lt_more (n := 8) jc_m_8 (lt_more (n := 7) jc_m_7 (lt_more (n := 6) jc_m_6 (lt_more (n := 5) jc_m_5 (lt_more (n := 4) jc_m_4 (lt_more (n := 3) jc_m_3 (lt_more (n := 2) jc_m_2 (lt_more (n := 1) jc_m_1 (lt_more (n := 0) jc_m_0 (fun b hb => absurd hb (Nat.not_lt_zero b))))))))))))))))))))))
theorem jc_ms_40 : ∀ b, b < 40 → jc_M b = true := (lt_more (n := 39) jc_m_39 (lt_more (n := 38) jc_m_38 (lt_more (n := 37) jc_m_37 (lt_more (n := 36) jc_m_36 (lt_more (n := 35) jc_m_35 (lt_more (n := 34) jc_m_34 (lt_more (n := 33) jc_m_33 (lt_more (n := 32) jc_m_32 (lt_more (n := 31) jc_m_31 (lt_more (n := 30) jc_m_30 (lt_more (n := 29) jc_m_29 (lt_more (n := 28) jc_m_28 (lt_more (n := 27) jc_m_27 (lt_more (n := 26) jc_m_26 (lt_more (n := 25) jc_m_25 (lt_more (n := 24) jc_m_24 (lt_more (n := 23) jc_m_23 (lt_more (n := 22) jc_m_22 (lt_more (n := 21) jc_m_21 (lt_more (n := 20) jc_m_20 jc_ms_20))))))))))))))))))))
theorem jc_ms_60 : ∀ b, b < 60 → jc_M b = true := (lt_more (n := 59) jc_m_59 (lt_more (n := 58) jc_m_58 (lt_more (n := 57) jc_m_57 (lt_more (n := 56) jc_m_56 (lt_more (n := 55) jc_m_55 (lt_more (n := 54) jc_m_54 (lt_more (n := 53) jc_m_53 (lt_more (n := 52) jc_m_52 (lt_more (n := 51) jc_m_51 (lt_more (n := 50) jc_m_50 (lt_more (n := 49) jc_m_49 (lt_more (n := 48) jc_m_48 (lt_more (n := 47) jc_m_47 (lt_more (n := 46) jc_m_46 (lt_more (n := 45) jc_m_45 (lt_more (n := 44) jc_m_44 (lt_more (n := 43) jc_m_43 (lt_more (n := 42) jc_m_42 (lt_more (n := 41) jc_m_41 (lt_more (n := 40) jc_m_40 jc_ms_40))))))))))))))))))))
theorem jc_ms_80 : ∀ b, b < 80 → jc_M b = true := (lt_more (n := 79) jc_m_79 (lt_more (n := 78) jc_m_78 (lt_more (n := 77) jc_m_77 (lt_more (n := 76) jc_m_76 (lt_more (n := 75) jc_m_75 (lt_more (n := 74) jc_m_74 (lt_more (n := 73) jc_m_73 (lt_more (n := 72) jc_m_72 (lt_more (n := 71) jc_m_71 (lt_more (n := 70) jc_m_70 (lt_more (n := 69) jc_m_69 (lt_more (n := 68) jc_m_68 (lt_more (n := 67) jc_m_67 (lt_more (n := 66) jc_m_66 (lt_more (n := 65) jc_m_65 (lt_more (n := 64) jc_m_64 (lt_more (n := 63) jc_m_63 (lt_more (n := 62) jc_m_62 (lt_more (n := 61) jc_m_61 (lt_more (n := 60) jc_m_60 jc_ms_60))))))))))))))))))))
theorem jc_ms_100 : ∀ b, b < 100 → jc_M b = true := (lt_more (n := 99) jc_m_99 (lt_more (n := 98) jc_m_98 (lt_more (n := 97) jc_m_97 (lt_more (n := 96) jc_m_96 (lt_more (n := 95) jc_m_95 (lt_more (n := 94) jc_m_94 (lt_more (n := 93) jc_m_93 (lt_more (n := 92) jc_m_92 (lt_more (n := 91) jc_m_91 (lt_more (n := 90) jc_m_90 (lt_more (n := 89) jc_m_89 (lt_more (n := 88) jc_m_88 (lt_more (n := 87) jc_m_87 (lt_more (n := 86) jc_m_86 (lt_more (n := 85) jc_m_85 (lt_more (n := 84) jc_m_84 (lt_more (n := 83) jc_m_83 (lt_more (n := 82) jc_m_82 (lt_more (n := 81) jc_m_81 (lt_more (n := 80) jc_m_80 jc_ms_80))))))))))))))))))))
theorem jc_ms_120 : ∀ b, b < 120 → jc_M b = true := (lt_more (n := 119) jc_m_119 (lt_more (n := 118) jc_m_118 (lt_more (n := 117) jc_m_117 (lt_more (n := 116) jc_m_116 (lt_more (n := 115) jc_m_115 (lt_more (n := 114) jc_m_114 (lt_more (n := 113) jc_m_113 (lt_more (n := 112) jc_m_112 (lt_more (n := 111) jc_m_111 (lt_more (n := 110) jc_m_110 (lt_more (n := 109) jc_m_109 (lt_more (n := 108) jc_m_108 (lt_more (n := 107) jc_m_107 (lt_more (n := 106) jc_m_106 (lt_more (n := 105) jc_m_105 (lt_more (n := 104) jc_m_104 (lt_more (n := 103) jc_m_103 (lt_more (n := 102) jc_m_102 (lt_more (n := 101) jc_m_101 (lt_more (n := 100) jc_m_100 jc_ms_100))))))))))))))))))))
theorem jc_ms_140 : ∀ b, b < 140 → jc_M b = true := (lt_more (n := 139) jc_m_139 (lt_more (n := 138) jc_m_138 (lt_more (n := 137) jc_m_137 (lt_more (n := 136) jc_m_136 (lt_more (n := 135) jc_m_135 (lt_more (n := 134) jc_m_134 (lt_more (n := 133) jc_m_133 (lt_more (n := 132) jc_m_132 (lt_more (n := 131) jc_m_131 (lt_more (n := 130) jc_m_130 (lt_more (n := 129) jc_m_129 (lt_more (n := 128) jc_m_128 (lt_more (n := 127) jc_m_127 (lt_more (n := 126) jc_m_126 (lt_more (n := 125) jc_m_125 (lt_more (n := 124) jc_m_124 (lt_more (n := 123) jc_m_123 (lt_more (n := 122) jc_m_122 (lt_more (n := 121) jc_m_121 (lt_more (n := 120) jc_m_120 jc_ms_120))))))))))))))))))))
theorem jc_ms_160 : ∀ b, b < 160 → jc_M b = true := (lt_more (n := 159) jc_m_159 (lt_more (n := 158) jc_m_158 (lt_more (n := 157) jc_m_157 (lt_more (n := 156) jc_m_156 (lt_more (n := 155) jc_m_155 (lt_more (n := 154) jc_m_154 (lt_more (n := 153) jc_m_153 (lt_more (n := 152) jc_m_152 (lt_more (n := 151) jc_m_151 (lt_more (n := 150) jc_m_150 (lt_more (n := 149) jc_m_149 (lt_more (n := 148) jc_m_148 (lt_more (n := 147) jc_m_147 (lt_more (n := 146) jc_m_146 (lt_more (n := 145) jc_m_145 (lt_more (n := 144) jc_m_144 (lt_more (n := 143) jc_m_143 (lt_more (n := 142) jc_m_142 (lt_more (n := 141) jc_m_141 (lt_more (n := 140) jc_m_140 jc_ms_140))))))))))))))))))))
theorem jc_ms_180 : ∀ b, b < 180 → jc_M b = true := (lt_more (n := 179) jc_m_179 (lt_more (n := 178) jc_m_178 (lt_more (n := 177) jc_m_177 (lt_more (n := 176) jc_m_176 (lt_more (n := 175) jc_m_175 (lt_more (n := 174) jc_m_174 (lt_more (n := 173) jc_m_173 (lt_more (n := 172) jc_m_172 (lt_more (n := 171) jc_m_171 (lt_more (n := 170) jc_m_170 (lt_more (n := 169) jc_m_169 (lt_more (n := 168) jc_m_168 (lt_more (n := 167) jc_m_167 (lt_more (n := 166) jc_m_166 (lt_more (n := 165) jc_m_165 (lt_more (n := 164) jc_m_164 (lt_more (n := 163) jc_m_163 (lt_more (n := 162) jc_m_162 (lt_more (n := 161) jc_m_161 (lt_more (n := 160) jc_m_160 jc_ms_160))))))))))))))))))))
theorem jc_ms_200 : ∀ b, b < 200 → jc_M b = true := (lt_more (n := 199) jc_m_199 (lt_more (n := 198) jc_m_198 (lt_more (n := 197) jc_m_197 (lt_more (n := 196) jc_m_196 (lt_more (n := 195) jc_m_195 (lt_more (n := 194) jc_m_194 (lt_more (n := 193) jc_m_193 (lt_more (n := 192) jc_m_192 (lt_more (n := 191) jc_m_191 (lt_more (n := 190) jc_m_190 (lt_more (n := 189) jc_m_189 (lt_more (n := 188) jc_m_188 (lt_more (n := 187) jc_m_187 (lt_more (n := 186) jc_m_186 (lt_more (n := 185) jc_m_185 (lt_more (n := 184) jc_m_184 (lt_more (n := 183) jc_m_183 (lt_more (n := 182) jc_m_182 (lt_more (n := 181) jc_m_181 (lt_more (n := 180) jc_m_180 jc_ms_180))))))))))))))))))))
theorem jc_ms_220 : ∀ b, b < 220 → jc_M b = true := (lt_more (n := 219) jc_m_219 (lt_more (n := 218) jc_m_218 (lt_more (n := 217) jc_m_217 (lt_more (n := 216) jc_m_216 (lt_more (n := 215) jc_m_215 (lt_more (n := 214) jc_m_214 (lt_more (n := 213) jc_m_213 (lt_more (n := 212) jc_m_212 (lt_more (n := 211) jc_m_211 (lt_more (n := 210) jc_m_210 (lt_more (n := 209) jc_m_209 (lt_more (n := 208) jc_m_208 (lt_more (n := 207) jc_m_207 (lt_more (n := 206) jc_m_206 (lt_more (n := 205) jc_m_205 (lt_more (n := 204) jc_m_204 (lt_more (n := 203) jc_m_203 (lt_more (n := 202) jc_m_202 (lt_more (n := 201) jc_m_201 (lt_more (n := 200) jc_m_200 jc_ms_200))))))))))))))))))))
theorem jc_ms_240 : ∀ b, b < 240 → jc_M b = true := (lt_more (n := 239) jc_m_239 (lt_more (n := 238) jc_m_238 (lt_more (n := 237) jc_m_237 (lt_more (n := 236) jc_m_236 (lt_more (n := 235) jc_m_235 (lt_more (n := 234) jc_m_234 (lt_more (n := 233) jc_m_233 (lt_more (n := 232) jc_m_232 (lt_more (n := 231) jc_m_231 (lt_more (n := 230) jc_m_230 (lt_more (n := 229) jc_m_229 (lt_more (n := 228) jc_m_228 (lt_more (n := 227) jc_m_227 (lt_more (n := 226) jc_m_226 (lt_more (n := 225) jc_m_225 (lt_more (n := 224) jc_m_224 (lt_more (n := 223) jc_m_223 (lt_more (n := 222) jc_m_222 (lt_more (n := 221) jc_m_221 (lt_more (n := 220) jc_m_220 jc_ms_220))))))))))))))))))))
theorem jc_ms_260 : ∀ b, b < 260 → jc_M b = true := (lt_more (n := 259) jc_m_259 (lt_more (n := 258) jc_m_258 (lt_more (n := 257) jc_m_257 (lt_more (n := 256) jc_m_256 (lt_more (n := 255) jc_m_255 (lt_more (n := 254) jc_m_254 (lt_more (n := 253) jc_m_253 (lt_more (n := 252) jc_m_252 (lt_more (n := 251) jc_m_251 (lt_more (n := 250) jc_m_250 (lt_more (n := 249) jc_m_249 (lt_more (n := 248) jc_m_248 (lt_more (n := 247) jc_m_247 (lt_more (n := 246) jc_m_246 (lt_more (n := 245) jc_m_245 (lt_more (n := 244) jc_m_244 (lt_more (n := 243) jc_m_243 (lt_more (n := 242) jc_m_242 (lt_more (n := 241) jc_m_241 (lt_more (n := 240) jc_m_240 jc_ms_240))))))))))))))))))))
theorem jc_ms_280 : ∀ b, b < 280 → jc_M b = true := (lt_more (n := 279) jc_m_279 (lt_more (n := 278) jc_m_278 (lt_more (n := 277) jc_m_277 (lt_more (n := 276) jc_m_276 (lt_more (n := 275) jc_m_275 (lt_more (n := 274) jc_m_274 (lt_more (n := 273) jc_m_273 (lt_more (n := 272) jc_m_272 (lt_more (n := 271) jc_m_271 (lt_more (n := 270) jc_m_270 (lt_more (n := 269) jc_m_269 (lt_more (n := 268) jc_m_268 (lt_more (n := 267) jc_m_267 (lt_more (n := 266) jc_m_266 (lt_more (n := 265) jc_m_265 (lt_more (n := 264) jc_m_264 (lt_more (n := 263) jc_m_263 (lt_more (n := 262) jc_m_262 (lt_more (n := 261) jc_m_261 (lt_more (n := 260) jc_m_260 jc_ms_260))))))))))))))))))))
theorem jc_ms_300 : ∀ b, b < 300 → jc_M b = true := (lt_more (n := 299) jc_m_299 (lt_more (n := 298) jc_m_298 (lt_more (n := 297) jc_m_297 (lt_more (n := 296) jc_m_296 (lt_more (n := 295) jc_m_295 (lt_more (n := 294) jc_m_294 (lt_more (n := 293) jc_m_293 (lt_more (n := 292) jc_m_292 (lt_more (n := 291) jc_m_291 (lt_more (n := 290) jc_m_290 (lt_more (n := 289) jc_m_289 (lt_more (n := 288) jc_m_288 (lt_more (n := 287) jc_m_287 (lt_more (n := 286) jc_m_286 (lt_more (n := 285) jc_m_285 (lt_more (n := 284) jc_m_284 (lt_more (n := 283) jc_m_283 (lt_more (n := 282) jc_m_282 (lt_more (n := 281) jc_m_281 (lt_more (n := 280) jc_m_280 jc_ms_280))))))))))))))))))))
theorem jc_M_ok : ∀ b, b < 316 → jc_M b = true := (lt_more (n := 315) jc_m_315 (lt_more (n := 314) jc_m_314 (lt_more (n := 313) jc_m_313 (lt_more (n := 312) jc_m_312 (lt_more (n := 311) jc_m_311 (lt_more (n := 310) jc_m_310 (lt_more (n := 309) jc_m_309 (lt_more (n := 308) jc_m_308 (lt_more (n := 307) jc_m_307 (lt_more (n := 306) jc_m_306 (lt_more (n := 305) jc_m_305 (lt_more (n := 304) jc_m_304 (lt_more (n := 303) jc_m_303 (lt_more (n := 302) jc_m_302 (lt_more (n := 301) jc_m_301 (lt_more (n := 300) jc_m_300 jc_ms_300))))))))))))))))
theorem jc_mcs_20 : ∀ b, b < 20 → Jvm.Cond.code (jt_y b) (jt_cc b) (jt_nl b) (jt_ret b) ∈ lw_tbl := (lt_more (n := 19) (jc_t_mem (i := 3162) jc_mc_19) (lt_more (n := 18) (jc_t_mem (i := 3137) jc_mc_18) (lt_more (n := 17) (jc_t_mem (i := 3121) jc_mc_17) (lt_more (n := 16) (jc_t_mem (i := 3080) jc_mc_16) (lt_more (n := 15) (jc_t_mem (i := 3039) jc_mc_15) (lt_more (n := 14) (jc_t_mem (i := 1037) jc_mc_14) (lt_more (n := 13) (jc_t_mem (i := 5075) jc_mc_13) (lt_more (n := 12) (jc_t_mem (i := 5069) jc_mc_12) (lt_more (n := 11) (jc_t_mem (i := 5060) jc_mc_11) (lt_more (n := 10) (jc_t_mem (i := 5056) jc_mc_10) (lt_more (n := 9) (jc_t_mem (i := 5048) jc_mc_9) (lt_more (n := 8) (jc_t_mem (i := 4029) jc_mc_8) (lt_more (n := 7) (jc_t_mem (i := 2156) jc_mc_7) (lt_more (n := 6) (jc_t_mem (i := 5224) jc_mc_6) (lt_more (n := 5) (jc_t_mem (i := 6029) jc_mc_5) (lt_more (n := 4) (jc_t_mem (i := 6021) jc_mc_4) (lt_more (n := 3) (jc_t_mem (i := 6013) jc_mc_3) (lt_more (n := 2) (jc_t_mem (i := 5220) jc_mc_2) (lt_more (n := 1) (jc_t_mem (i := 4007) jc_mc_1) (lt_more (n := 0) (jc_t_mem (i := 2071) jc_mc_0) (fun b hb => absurd hb (Nat.not_lt_zero b))))))))))))))))))))))
theorem jc_mcs_40 : ∀ b, b < 40 → Jvm.Cond.code (jt_y b) (jt_cc b) (jt_nl b) (jt_ret b) ∈ lw_tbl := (lt_more (n := 39) (jc_t_mem (i := 2057) jc_mc_39) (lt_more (n := 38) (jc_t_mem (i := 5159) jc_mc_38) (lt_more (n := 37) (jc_t_mem (i := 5164) jc_mc_37) (lt_more (n := 36) (jc_t_mem (i := 5156) jc_mc_36) (lt_more (n := 35) (jc_t_mem (i := 5118) jc_mc_35) (lt_more (n := 34) (jc_t_mem (i := 5121) jc_mc_34) (lt_more (n := 33) (jc_t_mem (i := 5148) jc_mc_33) (lt_more (n := 32) (jc_t_mem (i := 5138) jc_mc_32) (lt_more (n := 31) (jc_t_mem (i := 5109) jc_mc_31) (lt_more (n := 30) (jc_t_mem (i := 2198) jc_mc_30) (lt_more (n := 29) (jc_t_mem (i := 3206) jc_mc_29) (lt_more (n := 28) (jc_t_mem (i := 5114) jc_mc_28) (lt_more (n := 27) (jc_t_mem (i := 3218) jc_mc_27) (lt_more (n := 26) (jc_t_mem (i := 3214) jc_mc_26) (lt_more (n := 25) (jc_t_mem (i := 3157) jc_mc_25) (lt_more (n := 24) (jc_t_mem (i := 4091) jc_mc_24) (lt_more (n := 23) (jc_t_mem (i := 4128) jc_mc_23) (lt_more (n := 22) (jc_t_mem (i := 3130) jc_mc_22) (lt_more (n := 21) (jc_t_mem (i := 3222) jc_mc_21) (lt_more (n := 20) (jc_t_mem (i := 3193) jc_mc_20) jc_mcs_20))))))))))))))))))))
theorem jc_mcs_60 : ∀ b, b < 60 → Jvm.Cond.code (jt_y b) (jt_cc b) (jt_nl b) (jt_ret b) ∈ lw_tbl := (lt_more (n := 59) (jc_t_mem (i := 3170) jc_mc_59) (lt_more (n := 58) (jc_t_mem (i := 3166) jc_mc_58) (lt_more (n := 57) (jc_t_mem (i := 3152) jc_mc_57) (lt_more (n := 56) (jc_t_mem (i := 3141) jc_mc_56) (lt_more (n := 55) (jc_t_mem (i := 3089) jc_mc_55) (lt_more (n := 54) (jc_t_mem (i := 3084) jc_mc_54) (lt_more (n := 53) (jc_t_mem (i := 3067) jc_mc_53) (lt_more (n := 52) (jc_t_mem (i := 3107) jc_mc_52) (lt_more (n := 51) (jc_t_mem (i := 3076) jc_mc_51) (lt_more (n := 50) (jc_t_mem (i := 3035) jc_mc_50) (lt_more (n := 49) (jc_t_mem (i := 1156) jc_mc_49) (lt_more (n := 48) (jc_t_mem (i := 5229) jc_mc_48) (lt_more (n := 47) (jc_t_mem (i := 5036) jc_mc_47) (lt_more (n := 46) (jc_t_mem (i := 6005) jc_mc_46) (lt_more (n := 45) (jc_t_mem (i := 4054) jc_mc_45) (lt_more (n := 44) (jc_t_mem (i := 4063) jc_mc_44) (lt_more (n := 43) (jc_t_mem (i := 4059) jc_mc_43) (lt_more (n := 42) (jc_t_mem (i := 4140) jc_mc_42) (lt_more (n := 41) (jc_t_mem (i := 5032) jc_mc_41) (lt_more (n := 40) (jc_t_mem (i := 3238) jc_mc_40) jc_mcs_40))))))))))))))))))))
theorem jc_mcs_80 : ∀ b, b < 80 → Jvm.Cond.code (jt_y b) (jt_cc b) (jt_nl b) (jt_ret b) ∈ lw_tbl := (lt_more (n := 79) (jc_t_mem (i := 3055) jc_mc_79) (lt_more (n := 78) (jc_t_mem (i := 1043) jc_mc_78) (lt_more (n := 77) (jc_t_mem (i := 4145) jc_mc_77) (lt_more (n := 76) (jc_t_mem (i := 3133) jc_mc_76) (lt_more (n := 75) (jc_t_mem (i := 4066) jc_mc_75) (lt_more (n := 74) (jc_t_mem (i := 3071) jc_mc_74) (lt_more (n := 73) (jc_t_mem (i := 2010) jc_mc_73) (lt_more (n := 72) (jc_t_mem (i := 3117) jc_mc_72) (lt_more (n := 71) (jc_t_mem (i := 3145) jc_mc_71) (lt_more (n := 70) (jc_t_mem (i := 3181) jc_mc_70) (lt_more (n := 69) (jc_t_mem (i := 3103) jc_mc_69) (lt_more (n := 68) (jc_t_mem (i := 3094) jc_mc_68) (lt_more (n := 67) (jc_t_mem (i := 3226) jc_mc_67) (lt_more (n := 66) (jc_t_mem (i := 3210) jc_mc_66) (lt_more (n := 65) (jc_t_mem (i := 3201) jc_mc_65) (lt_more (n := 64) (jc_t_mem (i := 3197) jc_mc_64) (lt_more (n := 63) (jc_t_mem (i := 3189) jc_mc_63) (lt_more (n := 62) (jc_t_mem (i := 3185) jc_mc_62) (lt_more (n := 61) (jc_t_mem (i := 3126) jc_mc_61) (lt_more (n := 60) (jc_t_mem (i := 3113) jc_mc_60) jc_mcs_60))))))))))))))))))))
theorem jc_mcs_100 : ∀ b, b < 100 → Jvm.Cond.code (jt_y b) (jt_cc b) (jt_nl b) (jt_ret b) ∈ lw_tbl := (lt_more (n := 99) (jc_t_mem (i := 4017) jc_mc_99) (lt_more (n := 98) (jc_t_mem (i := 4017) jc_mc_98) (lt_more (n := 97) (jc_t_mem (i := 4017) jc_mc_97) (lt_more (n := 96) (jc_t_mem (i := 4017) jc_mc_96) (lt_more (n := 95) (jc_t_mem (i := 4017) jc_mc_95) (lt_more (n := 94) (jc_t_mem (i := 4233) jc_mc_94) (lt_more (n := 93) (jc_t_mem (i := 4221) jc_mc_93) (lt_more (n := 92) (jc_t_mem (i := 4011) jc_mc_92) (lt_more (n := 91) (jc_t_mem (i := 2141) jc_mc_91) (lt_more (n := 90) (jc_t_mem (i := 3063) jc_mc_90) (lt_more (n := 89) (jc_t_mem (i := 3059) jc_mc_89) (lt_more (n := 88) (jc_t_mem (i := 1196) jc_mc_88) (lt_more (n := 87) (jc_t_mem (i := 3098) jc_mc_87) (lt_more (n := 86) (jc_t_mem (i := 3051) jc_mc_86) (lt_more (n := 85) (jc_t_mem (i := 3047) jc_mc_85) (lt_more (n := 84) (jc_t_mem (i := 1164) jc_mc_84) (lt_more (n := 83) (jc_t_mem (i := 4002) jc_mc_83) (lt_more (n := 82) (jc_t_mem (i := 3043) jc_mc_82) (lt_more (n := 81) (jc_t_mem (i := 3232) jc_mc_81) (lt_more (n := 80) (jc_t_mem (i := 2014) jc_mc_80) jc_mcs_80))))))))))))))))))))
theorem jc_mcs_120 : ∀ b, b < 120 → Jvm.Cond.code (jt_y b) (jt_cc b) (jt_nl b) (jt_ret b) ∈ lw_tbl := (lt_more (n := 119) (jc_t_mem (i := 4123) jc_mc_119) (lt_more (n := 118) (jc_t_mem (i := 4113) jc_mc_118) (lt_more (n := 117) (jc_t_mem (i := 4109) jc_mc_117) (lt_more (n := 116) (jc_t_mem (i := 4105) jc_mc_116) (lt_more (n := 115) (jc_t_mem (i := 3027) jc_mc_115) (lt_more (n := 114) (jc_t_mem (i := 3018) jc_mc_114) (lt_more (n := 113) (jc_t_mem (i := 1029) jc_mc_113) (lt_more (n := 112) (jc_t_mem (i := 4095) jc_mc_112) (lt_more (n := 111) (jc_t_mem (i := 4083) jc_mc_111) (lt_more (n := 110) (jc_t_mem (i := 4078) jc_mc_110) (lt_more (n := 109) (jc_t_mem (i := 4074) jc_mc_109) (lt_more (n := 108) (jc_t_mem (i := 4049) jc_mc_108) (lt_more (n := 107) (jc_t_mem (i := 4044) jc_mc_107) (lt_more (n := 106) (jc_t_mem (i := 4190) jc_mc_106) (lt_more (n := 105) (jc_t_mem (i := 4037) jc_mc_105) (lt_more (n := 104) (jc_t_mem (i := 4070) jc_mc_104) (lt_more (n := 103) (jc_t_mem (i := 2097) jc_mc_103) (lt_more (n := 102) (jc_t_mem (i := 5000) jc_mc_102) (lt_more (n := 101) (jc_t_mem (i := 4024) jc_mc_101) (lt_more (n := 100) (jc_t_mem (i := 4017) jc_mc_100) jc_mcs_100))))))))))))))))))))
theorem jc_mcs_140 : ∀ b, b < 140 → Jvm.Cond.code (jt_y b) (jt_cc b) (jt_nl b) (jt_ret b) ∈ lw_tbl := (lt_more (n := 139) (jc_t_mem (i := 5085) jc_mc_139) (lt_more (n := 138) (jc_t_mem (i := 5081) jc_mc_138) (lt_more (n := 137) (jc_t_mem (i := 5044) jc_mc_137) (lt_more (n := 136) (jc_t_mem (i := 5040) jc_mc_136) (lt_more (n := 135) (jc_t_mem (i := 5016) jc_mc_135) (lt_more (n := 134) (jc_t_mem (i := 5011) jc_mc_134) (lt_more (n := 133) (jc_t_mem (i := 4237) jc_mc_133) (lt_more (n := 132) (jc_t_mem (i := 4225) jc_mc_132) (lt_more (n := 131) (jc_t_mem (i := 4217) jc_mc_131) (lt_more (n := 130) (jc_t_mem (i := 4213) jc_mc_130) (lt_more (n := 129) (jc_t_mem (i := 4209) jc_mc_129) (lt_more (n := 128) (jc_t_mem (i := 4198) jc_mc_128) (lt_more (n := 127) (jc_t_mem (i := 4194) jc_mc_127) (lt_more (n := 126) (jc_t_mem (i := 4182) jc_mc_126) (lt_more (n := 125) (jc_t_mem (i := 4178) jc_mc_125) (lt_more (n := 124) (jc_t_mem (i := 4174) jc_mc_124) (lt_more (n := 123) (jc_t_mem (i := 4170) jc_mc_123) (lt_more (n := 122) (jc_t_mem (i := 4156) jc_mc_122) (lt_more (n := 121) (jc_t_mem (i := 4151) jc_mc_121) (lt_more (n := 120) (jc_t_mem (i := 4132) jc_mc_120) jc_mcs_120))))))))))))))))))))
theorem jc_mcs_160 : ∀ b, b < 160 → Jvm.Cond.code (jt_y b) (jt_cc b) (jt_nl b) (jt_ret b) ∈ lw_tbl := (lt_more (n := 159) (jc_t_mem (i := 6025) jc_mc_159) (lt_more (n := 158) (jc_t_mem (i := 6017) jc_mc_158) (lt_more (n := 157) (jc_t_mem (i := 6009) jc_mc_157) (lt_more (n := 156) (jc_t_mem (i := 6001) jc_mc_156) (lt_more (n := 155) (jc_t_mem (i := 5237) jc_mc_155) (lt_more (n := 154) (jc_t_mem (i := 5212) jc_mc_154) (lt_more (n := 153) (jc_t_mem (i := 5208) jc_mc_153) (lt_more (n := 152) (jc_t_mem (i := 5203) jc_mc_152) (lt_more (n := 151) (jc_t_mem (i := 5199) jc_mc_151) (lt_more (n := 150) (jc_t_mem (i := 5190) jc_mc_150) (lt_more (n := 149) (jc_t_mem (i := 5186) jc_mc_149) (lt_more (n := 148) (jc_t_mem (i := 5169) jc_mc_148) (lt_more (n := 147) (jc_t_mem (i := 5152) jc_mc_147) (lt_more (n := 146) (jc_t_mem (i := 5145) jc_mc_146) (lt_more (n := 145) (jc_t_mem (i := 5131) jc_mc_145) (lt_more (n := 144) (jc_t_mem (i := 5127) jc_mc_144) (lt_more (n := 143) (jc_t_mem (i := 5105) jc_mc_143) (lt_more (n := 142) (jc_t_mem (i := 5101) jc_mc_142) (lt_more (n := 141) (jc_t_mem (i := 5097) jc_mc_141) (lt_more (n := 140) (jc_t_mem (i := 5089) jc_mc_140) jc_mcs_140))))))))))))))))))))
theorem jc_mcs_180 : ∀ b, b < 180 → Jvm.Cond.code (jt_y b) (jt_cc b) (jt_nl b) (jt_ret b) ∈ lw_tbl := (lt_more (n := 179) (jc_t_mem (i := 5024) jc_mc_179) (lt_more (n := 178) (jc_t_mem (i := 5028) jc_mc_178) (lt_more (n := 177) (jc_t_mem (i := 4033) jc_mc_177) (lt_more (n := 176) (jc_t_mem (i := 3022) jc_mc_176) (lt_more (n := 175) (jc_t_mem (i := 5093) jc_mc_175) (lt_more (n := 174) (jc_t_mem (i := 5020) jc_mc_174) (lt_more (n := 173) (jc_t_mem (i := 4160) jc_mc_173) (lt_more (n := 172) (jc_t_mem (i := 4229) jc_mc_172) (lt_more (n := 171) (jc_t_mem (i := 4164) jc_mc_171) (lt_more (n := 170) (jc_t_mem (i := 4136) jc_mc_170) (lt_more (n := 169) (jc_t_mem (i := 5135) jc_mc_169) (lt_more (n := 168) (jc_t_mem (i := 4117) jc_mc_168) (lt_more (n := 167) (jc_t_mem (i := 4186) jc_mc_167) (lt_more (n := 166) (jc_t_mem (i := 5233) jc_mc_166) (lt_more (n := 165) (jc_t_mem (i := 5216) jc_mc_165) (lt_more (n := 164) (jc_t_mem (i := 4101) jc_mc_164) (lt_more (n := 163) (jc_t_mem (i := 3031) jc_mc_163) (lt_more (n := 162) (jc_t_mem (i := 6037) jc_mc_162) (lt_more (n := 161) (jc_t_mem (i := 6033) jc_mc_161) (lt_more (n := 160) (jc_t_mem (i := 6045) jc_mc_160) jc_mcs_160))))))))))))))))))))
theorem jc_mcs_200 : ∀ b, b < 200 → Jvm.Cond.code (jt_y b) (jt_cc b) (jt_nl b) (jt_ret b) ∈ lw_tbl := (lt_more (n := 199) (jc_t_mem (i := 7182) jc_mc_199) (lt_more (n := 198) (jc_t_mem (i := 7179) jc_mc_198) (lt_more (n := 197) (jc_t_mem (i := 8180) jc_mc_197) (lt_more (n := 196) (jc_t_mem (i := 8099) jc_mc_196) (lt_more (n := 195) (jc_t_mem (i := 7232) jc_mc_195) (lt_more (n := 194) (jc_t_mem (i := 9190) jc_mc_194) (lt_more (n := 193) (jc_t_mem (i := 8109) jc_mc_193) (lt_more (n := 192) (jc_t_mem (i := 9182) jc_mc_192) (lt_more (n := 191) (jc_t_mem (i := 7028) jc_mc_191) (lt_more (n := 190) (jc_t_mem (i := 7016) jc_mc_190) (lt_more (n := 189) (jc_t_mem (i := 6115) jc_mc_189) (lt_more (n := 188) (jc_t_mem (i := 9096) jc_mc_188) (lt_more (n := 187) (jc_t_mem (i := 8187) jc_mc_187) (lt_more (n := 186) (jc_t_mem (i := 8047) jc_mc_186) (lt_more (n := 185) (jc_t_mem (i := 8024) jc_mc_185) (lt_more (n := 184) (jc_t_mem (i := 7033) jc_mc_184) (lt_more (n := 183) (jc_t_mem (i := 5007) jc_mc_183) (lt_more (n := 182) (jc_t_mem (i := 5182) jc_mc_182) (lt_more (n := 181) (jc_t_mem (i := 5174) jc_mc_181) (lt_more (n := 180) (jc_t_mem (i := 5194) jc_mc_180) jc_mcs_180))))))))))))))))))))
theorem jc_mcs_220 : ∀ b, b < 220 → Jvm.Cond.code (jt_y b) (jt_cc b) (jt_nl b) (jt_ret b) ∈ lw_tbl := (lt_more (n := 219) (jc_t_mem (i := 7194) jc_mc_219) (lt_more (n := 218) (jc_t_mem (i := 7190) jc_mc_218) (lt_more (n := 217) (jc_t_mem (i := 8063) jc_mc_217) (lt_more (n := 216) (jc_t_mem (i := 8039) jc_mc_216) (lt_more (n := 215) (jc_t_mem (i := 8043) jc_mc_215) (lt_more (n := 214) (jc_t_mem (i := 8031) jc_mc_214) (lt_more (n := 213) (jc_t_mem (i := 8007) jc_mc_213) (lt_more (n := 212) (jc_t_mem (i := 8003) jc_mc_212) (lt_more (n := 211) (jc_t_mem (i := 8011) jc_mc_211) (lt_more (n := 210) (jc_t_mem (i := 8071) jc_mc_210) (lt_more (n := 209) (jc_t_mem (i := 7217) jc_mc_209) (lt_more (n := 208) (jc_t_mem (i := 7225) jc_mc_208) (lt_more (n := 207) (jc_t_mem (i := 7229) jc_mc_207) (lt_more (n := 206) (jc_t_mem (i := 7221) jc_mc_206) (lt_more (n := 205) (jc_t_mem (i := 8075) jc_mc_205) (lt_more (n := 204) (jc_t_mem (i := 7199) jc_mc_204) (lt_more (n := 203) (jc_t_mem (i := 7212) jc_mc_203) (lt_more (n := 202) (jc_t_mem (i := 7175) jc_mc_202) (lt_more (n := 201) (jc_t_mem (i := 7202) jc_mc_201) (lt_more (n := 200) (jc_t_mem (i := 7186) jc_mc_200) jc_mcs_200))))))))))))))))))))
theorem jc_mcs_240 : ∀ b, b < 240 → Jvm.Cond.code (jt_y b) (jt_cc b) (jt_nl b) (jt_ret b) ∈ lw_tbl := (lt_more (n := 239) (jc_t_mem (i := 8165) jc_mc_239) (lt_more (n := 238) (jc_t_mem (i := 8169) jc_mc_238) (lt_more (n := 237) (jc_t_mem (i := 8153) jc_mc_237) (lt_more (n := 236) (jc_t_mem (i := 8125) jc_mc_236) (lt_more (n := 235) (jc_t_mem (i := 8137) jc_mc_235) (lt_more (n := 234) (jc_t_mem (i := 8117) jc_mc_234) (lt_more (n := 233) (jc_t_mem (i := 8113) jc_mc_233) (lt_more (n := 232) (jc_t_mem (i := 7024) jc_mc_232) (lt_more (n := 231) (jc_t_mem (i := 7020) jc_mc_231) (lt_more (n := 230) (jc_t_mem (i := 8103) jc_mc_230) (lt_more (n := 229) (jc_t_mem (i := 8096) jc_mc_229) (lt_more (n := 228) (jc_t_mem (i := 8091) jc_mc_228) (lt_more (n := 227) (jc_t_mem (i := 8087) jc_mc_227) (lt_more (n := 226) (jc_t_mem (i := 8083) jc_mc_226) (lt_more (n := 225) (jc_t_mem (i := 8079) jc_mc_225) (lt_more (n := 224) (jc_t_mem (i := 8067) jc_mc_224) (lt_more (n := 223) (jc_t_mem (i := 8052) jc_mc_223) (lt_more (n := 222) (jc_t_mem (i := 8035) jc_mc_222) (lt_more (n := 221) (jc_t_mem (i := 7239) jc_mc_221) (lt_more (n := 220) (jc_t_mem (i := 7208) jc_mc_220) jc_mcs_220))))))))))))))))))))
theorem jc_mcs_260 : ∀ b, b < 260 → Jvm.Cond.code (jt_y b) (jt_cc b) (jt_nl b) (jt_ret b) ∈ lw_tbl := (lt_more (n := 259) (jc_t_mem (i := 8235) jc_mc_259) (lt_more (n := 258) (jc_t_mem (i := 8223) jc_mc_258) (lt_more (n := 257) (jc_t_mem (i := 8219) jc_mc_257) (lt_more (n := 256) (jc_t_mem (i := 8215) jc_mc_256) (lt_more (n := 255) (jc_t_mem (i := 8211) jc_mc_255) (lt_more (n := 254) (jc_t_mem (i := 8203) jc_mc_254) (lt_more (n := 253) (jc_t_mem (i := 8199) jc_mc_253) (lt_more (n := 252) (jc_t_mem (i := 8195) jc_mc_252) (lt_more (n := 251) (jc_t_mem (i := 8191) jc_mc_251) (lt_more (n := 250) (jc_t_mem (i := 8145) jc_mc_250) (lt_more (n := 249) (jc_t_mem (i := 8141) jc_mc_249) (lt_more (n := 248) (jc_t_mem (i := 8133) jc_mc_248) (lt_more (n := 247) (jc_t_mem (i := 8129) jc_mc_247) (lt_more (n := 246) (jc_t_mem (i := 8121) jc_mc_246) (lt_more (n := 245) (jc_t_mem (i := 8149) jc_mc_245) (lt_more (n := 244) (jc_t_mem (i := 8207) jc_mc_244) (lt_more (n := 243) (jc_t_mem (i := 8173) jc_mc_243) (lt_more (n := 242) (jc_t_mem (i := 8157) jc_mc_242) (lt_more (n := 241) (jc_t_mem (i := 8177) jc_mc_241) (lt_more (n := 240) (jc_t_mem (i := 8161) jc_mc_240) jc_mcs_240))))))))))))))))))))
theorem jc_mcs_280 : ∀ b, b < 280 → Jvm.Cond.code (jt_y b) (jt_cc b) (jt_nl b) (jt_ret b) ∈ lw_tbl := (lt_more (n := 279) (jc_t_mem (i := 9064) jc_mc_279) (lt_more (n := 278) (jc_t_mem (i := 9068) jc_mc_278) (lt_more (n := 277) (jc_t_mem (i := 9060) jc_mc_277) (lt_more (n := 276) (jc_t_mem (i := 9056) jc_mc_276) (lt_more (n := 275) (jc_t_mem (i := 9040) jc_mc_275) (lt_more (n := 274) (jc_t_mem (i := 9044) jc_mc_274) (lt_more (n := 273) (jc_t_mem (i := 9048) jc_mc_273) (lt_more (n := 272) (jc_t_mem (i := 9052) jc_mc_272) (lt_more (n := 271) (jc_t_mem (i := 9036) jc_mc_271) (lt_more (n := 270) (jc_t_mem (i := 9024) jc_mc_270) (lt_more (n := 269) (jc_t_mem (i := 9032) jc_mc_269) (lt_more (n := 268) (jc_t_mem (i := 9028) jc_mc_268) (lt_more (n := 267) (jc_t_mem (i := 9020) jc_mc_267) (lt_more (n := 266) (jc_t_mem (i := 9003) jc_mc_266) (lt_more (n := 265) (jc_t_mem (i := 9013) jc_mc_265) (lt_more (n := 264) (jc_t_mem (i := 9016) jc_mc_264) (lt_more (n := 263) (jc_t_mem (i := 8239) jc_mc_263) (lt_more (n := 262) (jc_t_mem (i := 8227) jc_mc_262) (lt_more (n := 261) (jc_t_mem (i := 9007) jc_mc_261) (lt_more (n := 260) (jc_t_mem (i := 8231) jc_mc_260) jc_mcs_260))))))))))))))))))))
theorem jc_mcs_300 : ∀ b, b < 300 → Jvm.Cond.code (jt_y b) (jt_cc b) (jt_nl b) (jt_ret b) ∈ lw_tbl := (lt_more (n := 299) (jc_t_mem (i := 9161) jc_mc_299) (lt_more (n := 298) (jc_t_mem (i := 9149) jc_mc_298) (lt_more (n := 297) (jc_t_mem (i := 9137) jc_mc_297) (lt_more (n := 296) (jc_t_mem (i := 9145) jc_mc_296) (lt_more (n := 295) (jc_t_mem (i := 9141) jc_mc_295) (lt_more (n := 294) (jc_t_mem (i := 9121) jc_mc_294) (lt_more (n := 293) (jc_t_mem (i := 9133) jc_mc_293) (lt_more (n := 292) (jc_t_mem (i := 9129) jc_mc_292) (lt_more (n := 291) (jc_t_mem (i := 9125) jc_mc_291) (lt_more (n := 290) (jc_t_mem (i := 9117) jc_mc_290) (lt_more (n := 289) (jc_t_mem (i := 9105) jc_mc_289) (lt_more (n := 288) (jc_t_mem (i := 9109) jc_mc_288) (lt_more (n := 287) (jc_t_mem (i := 9113) jc_mc_287) (lt_more (n := 286) (jc_t_mem (i := 9101) jc_mc_286) (lt_more (n := 285) (jc_t_mem (i := 9084) jc_mc_285) (lt_more (n := 284) (jc_t_mem (i := 9088) jc_mc_284) (lt_more (n := 283) (jc_t_mem (i := 9092) jc_mc_283) (lt_more (n := 282) (jc_t_mem (i := 9080) jc_mc_282) (lt_more (n := 281) (jc_t_mem (i := 9072) jc_mc_281) (lt_more (n := 280) (jc_t_mem (i := 9076) jc_mc_280) jc_mcs_280))))))))))))))))))))
theorem jc_code_ok : ∀ b, b < 316 → Jvm.Cond.code (jt_y b) (jt_cc b) (jt_nl b) (jt_ret b) ∈ lw_tbl := (lt_more (n := 315) (jc_t_mem (i := 4201) jc_mc_315) (lt_more (n := 314) (jc_t_mem (i := 9222) jc_mc_314) (lt_more (n := 313) (jc_t_mem (i := 9218) jc_mc_313) (lt_more (n := 312) (jc_t_mem (i := 9214) jc_mc_312) (lt_more (n := 311) (jc_t_mem (i := 9210) jc_mc_311) (lt_more (n := 310) (jc_t_mem (i := 9206) jc_mc_310) (lt_more (n := 309) (jc_t_mem (i := 9202) jc_mc_309) (lt_more (n := 308) (jc_t_mem (i := 9198) jc_mc_308) (lt_more (n := 307) (jc_t_mem (i := 9194) jc_mc_307) (lt_more (n := 306) (jc_t_mem (i := 9178) jc_mc_306) (lt_more (n := 305) (jc_t_mem (i := 9186) jc_mc_305) (lt_more (n := 304) (jc_t_mem (i := 9174) jc_mc_304) (lt_more (n := 303) (jc_t_mem (i := 9169) jc_mc_303) (lt_more (n := 302) (jc_t_mem (i := 9165) jc_mc_302) (lt_more (n := 301) (jc_t_mem (i := 9153) jc_mc_301) (lt_more (n := 300) (jc_t_mem (i := 9157) jc_mc_300) jc_mcs_300))))))))))))))))
theorem jc_b_0 : jc_J 0 := jc_J_of (by decide +kernel) (by decide +kernel)
theorem jc_b_1 : jc_J 1 := jc_J_of (by decide +kernel) (by decide +kernel)
theorem jc_b_2 : jc_J 2 := jc_J_of (by decide +kernel) (by decide +kernel)
theorem jc_b_3 : jc_J 3 := jc_J_of (by decide +kernel) (by decide +kernel)
theorem jc_b_4 : jc_J 4 := jc_J_of (by decide +kernel) (by decide +kernel)
theorem jc_b_5 : jc_J 5 := jc_J_of (by decide +kernel) (by decide +kernel)
theorem jc_b_6 : jc_J 6 := jc_J_of (by decide +kernel) (by decide +kernel)
theorem jc_b_7 : jc_J 7 := jc_J_of (by decide +kernel) (by decide +kernel)
theorem jc_b_8 : jc_J 8 := jc_J_of (by decide +kernel) (by decide +kernel)
theorem jc_b_9 : jc_J 9 := jc_J_of (by decide +kernel) (by decide +kernel)
theorem jc_b_10 : jc_J 10 := jc_J_of (by decide +kernel) (by decide +kernel)
theorem jc_b_11 : jc_J 11 := jc_J_of (by decide +kernel) (by decide +kernel)
theorem jc_b_12 : jc_J 12 := jc_J_of (by decide +kernel) (by decide +kernel)
theorem jc_b_13 : jc_J 13 := jc_J_of (by decide +kernel) (by decide +kernel)
theorem jc_b_14 : jc_J 14 := jc_J_of (by decide +kernel) (by decide +kernel)
theorem jc_b_15 : jc_J 15 := jc_J_of (by decide +kernel) (by decide +kernel)
theorem jc_b_16 : jc_J 16 := jc_J_of (by decide +kernel) (by decide +kernel)
theorem jc_b_17 : jc_J 17 := jc_J_of (by decide +kernel) (by decide +kernel)
theorem jc_b_18 : jc_J 18 := jc_J_of (by decide +kernel) (by decide +kernel)
theorem jc_b_19 : jc_J 19 := jc_J_of (by decide +kernel) (by decide +kernel)
theorem jc_b_20 : jc_J 20 := jc_J_of (by decide +kernel) (by decide +kernel)
theorem jc_b_21 : jc_J 21 := jc_J_of (by decide +kernel) (by decide +kernel)
theorem jc_b_22 : jc_J 22 := jc_J_of (by decide +kernel) (by decide +kernel)
theorem jc_b_23 : jc_J 23 := jc_J_of (by decide +kernel) (by decide +kernel)
theorem jc_b_24 : jc_J 24 := jc_J_of (by decide +kernel) (by decide +kernel)
theorem jc_b_25 : jc_J 25 := jc_J_of (by decide +kernel) (by decide +kernel)
theorem jc_b_26 : jc_J 26 := jc_J_of (by decide +kernel) (by decide +kernel)
theorem jc_b_27 : jc_J 27 := jc_J_of (by decide +kernel) (by decide +kernel)
theorem jc_b_28 : jc_J 28 := jc_J_of (by decide +kernel) (by decide +kernel)
theorem jc_b_29 : jc_J 29 := jc_J_of (by decide +kernel) (by decide +kernel)
theorem jc_b_30 : jc_J 30 := jc_J_of (by decide +kernel) (by decide +kernel)
theorem jc_b_31 : jc_J 31 := jc_J_of (by decide +kernel) (by decide +kernel)
theorem jc_b_32 : jc_J 32 := jc_J_of (by decide +kernel) (by decide +kernel)
theorem jc_b_33 : jc_J 33 := jc_J_of (by decide +kernel) (by decide +kernel)
theorem jc_b_34 : jc_J 34 := jc_J_of (by decide +kernel) (by decide +kernel)
theorem jc_b_35 : jc_J 35 := jc_J_of (by decide +kernel) (by decide +kernel)
theorem jc_b_36 : jc_J 36 := jc_J_of (by decide +kernel) (by decide +kernel)
theorem jc_b_37 : jc_J 37 := jc_J_of (by decide +kernel) (by decide +kernel)
theorem jc_b_38 : jc_J 38 := jc_J_of (by decide +kernel) (by decide +kernel)
theorem jc_b_39 : jc_J 39 := jc_J_of (by decide +kernel) (by decide +kernel)
theorem jc_b_40 : jc_J 40 := jc_J_of (by decide +kernel) (by decide +kernel)
theorem jc_b_41 : jc_J 41 := jc_J_of (by decide +kernel) (by decide +kernel)
theorem jc_b_42 : jc_J 42 := jc_J_of (by decide +kernel) (by decide +kernel)
theorem jc_b_43 : jc_J 43 := jc_J_of (by decide +kernel) (by decide +kernel)
theorem jc_b_44 : jc_J 44 := jc_J_of (by decide +kernel) (by decide +kernel)
theorem jc_b_45 : jc_J 45 := jc_J_of (by decide +kernel) (by decide +kernel)
theorem jc_b_46 : jc_J 46 := jc_J_of (by decide +kernel) (by decide +kernel)
theorem jc_b_47 : jc_J 47 := jc_J_of (by decide +kernel) (by decide +kernel)
theorem jc_b_48 : jc_J 48 := jc_J_of (by decide +kernel) (by decide +kernel)
theorem jc_b_49 : jc_J 49 := jc_J_of (by decide +kernel) (by decide +kernel)
theorem jc_b_50 : jc_J 50 := jc_J_of (by decide +kernel) (by decide +kernel)
theorem jc_b_51 : jc_J 51 := jc_J_of (by decide +kernel) (by decide +kernel)
theorem jc_b_52 : jc_J 52 := jc_J_of (by decide +kernel) (by decide +kernel)
theorem jc_b_53 : jc_J 53 := jc_J_of (by decide +kernel) (by decide +kernel)
theorem jc_b_54 : jc_J 54 := jc_J_of (by decide +kernel) (by decide +kernel)
theorem jc_b_55 : jc_J 55 := jc_J_of (by decide +kernel) (by decide +kernel)
theorem jc_b_56 : jc_J 56 := jc_J_of (by decide +kernel) (by decide +kernel)
theorem jc_b_57 : jc_J 57 := jc_J_of (by decide +kernel) (by decide +kernel)
theorem jc_b_58 : jc_J 58 := jc_J_of (by decide +kernel) (by decide +kernel)
theorem jc_b_59 : jc_J 59 := jc_J_of (by decide +kernel) (by decide +kernel)
theorem jc_b_60 : jc_J 60 := jc_J_of (by decide +kernel) (by decide +kernel)
theorem jc_b_61 : jc_J 61 := jc_J_of (by decide +kernel) (by decide +kernel)
theorem jc_b_62 : jc_J 62 := jc_J_of (by decide +kernel) (by decide +kernel)
theorem jc_b_63 : jc_J 63 := jc_J_of (by decide +kernel) (by decide +kernel)
theorem jc_b_64 : jc_J 64 := jc_J_of (by decide +kernel) (by decide +kernel)
theorem jc_b_65 : jc_J 65 := jc_J_of (by decide +kernel) (by decide +kernel)
theorem jc_b_66 : jc_J 66 := jc_J_of (by decide +kernel) (by decide +kernel)
theorem jc_b_67 : jc_J 67 := jc_J_of (by decide +kernel) (by decide +kernel)
theorem jc_b_68 : jc_J 68 := jc_J_of (by decide +kernel) (by decide +kernel)
theorem jc_b_69 : jc_J 69 := jc_J_of (by decide +kernel) (by decide +kernel)
theorem jc_b_70 : jc_J 70 := jc_J_of (by decide +kernel) (by decide +kernel)
theorem jc_b_71 : jc_J 71 := jc_J_of (by decide +kernel) (by decide +kernel)
theorem jc_b_72 : jc_J 72 := jc_J_of (by decide +kernel) (by decide +kernel)
theorem jc_b_73 : jc_J 73 := jc_J_of (by decide +kernel) (by decide +kernel)
theorem jc_b_74 : jc_J 74 := jc_J_of (by decide +kernel) (by decide +kernel)
theorem jc_b_75 : jc_J 75 := jc_J_of (by decide +kernel) (by decide +kernel)
theorem jc_b_76 : jc_J 76 := jc_J_of (by decide +kernel) (by decide +kernel)
theorem jc_b_77 : jc_J 77 := jc_J_of (by decide +kernel) (by decide +kernel)
theorem jc_b_78 : jc_J 78 := jc_J_of (by decide +kernel) (by decide +kernel)
theorem jc_b_79 : jc_J 79 := jc_J_of (by decide +kernel) (by decide +kernel)
theorem jc_b_80 : jc_J 80 := jc_J_of (by decide +kernel) (by decide +kernel)
theorem jc_b_81 : jc_J 81 := jc_J_of (by decide +kernel) (by decide +kernel)
theorem jc_b_82 : jc_J 82 := jc_J_of (by decide +kernel) (by decide +kernel)
theorem jc_b_83 : jc_J 83 := jc_J_of (by decide +kernel) (by decide +kernel)
theorem jc_b_84 : jc_J 84 := jc_J_of (by decide +kernel) (by decide +kernel)
theorem jc_b_85 : jc_J 85 := jc_J_of (by decide +kernel) (by decide +kernel)
theorem jc_b_86 : jc_J 86 := jc_J_of (by decide +kernel) (by decide +kernel)
theorem jc_b_87 : jc_J 87 := jc_J_of (by decide +kernel) (by decide +kernel)
theorem jc_b_88 : jc_J 88 := jc_J_of (by decide +kernel) (by decide +kernel)
theorem jc_b_89 : jc_J 89 := jc_J_of (by decide +kernel) (by decide +kernel)
theorem jc_b_90 : jc_J 90 := jc_J_of (by decide +kernel) (by decide +kernel)
theorem jc_b_91 : jc_J 91 := jc_J_of (by decide +kernel) (by decide +kernel)
theorem jc_b_92 : jc_J 92 := jc_J_of (by decide +kernel) (by decide +kernel)
theorem jc_b_93 : jc_J 93 := jc_J_of (by decide +kernel) (by decide +kernel)
theorem jc_b_94 : jc_J 94 := jc_J_of (by decide +kernel) (by decide +kernel)
theorem jc_b_95 : jc_J 95 := jc_J_of (by decide +kernel) (by decide +kernel)
theorem jc_b_96 : jc_J 96 := jc_J_of (by decide +kernel) (by decide +kernel)
theorem jc_b_97 : jc_J 97 := jc_J_of (by decide +kernel) (by decide +kernel)
theorem jc_b_98 : jc_J 98 := jc_J_of (by decide +kernel) (by decide +kernel)
theorem jc_b_99 : jc_J 99 := jc_J_of (by decide +kernel) (by decide +kernel)
theorem jc_b_100 : jc_J 100 := jc_J_of (by decide +kernel) (by decide +kernel)
theorem jc_b_101 : jc_J 101 := jc_J_of (by decide +kernel) (by decide +kernel)
theorem jc_b_102 : jc_J 102 := jc_J_of (by decide +kernel) (by decide +kernel)
theorem jc_b_103 : jc_J 103 := jc_J_of (by decide +kernel) (by decide +kernel)
theorem jc_b_104 : jc_J 104 := jc_J_of (by decide +kernel) (by decide +kernel)
theorem jc_b_105 : jc_J 105 := jc_J_of (by decide +kernel) (by decide +kernel)
theorem jc_b_106 : jc_J 106 := jc_J_of (by decide +kernel) (by decide +kernel)
theorem jc_b_107 : jc_J 107 := jc_J_of (by decide +kernel) (by decide +kernel)
theorem jc_b_108 : jc_J 108 := jc_J_of (by decide +kernel) (by decide +kernel)
theorem jc_b_109 : jc_J 109 := jc_J_of (by decide +kernel) (by decide +kernel)
theorem jc_b_110 : jc_J 110 := jc_J_of (by decide +kernel) (by decide +kernel)
theorem jc_b_111 : jc_J 111 := jc_J_of (by decide +kernel) (by decide +kernel)
theorem jc_b_112 : jc_J 112 := jc_J_of (by decide +kernel) (by decide +kernel)
theorem jc_b_113 : jc_J 113 := jc_J_of (by decide +kernel) (by decide +kernel)
theorem jc_b_114 : jc_J 114 := jc_J_of (by decide +kernel) (by decide +kernel)
theorem jc_b_115 : jc_J 115 := jc_J_of (by decide +kernel) (by decide +kernel)
theorem jc_b_116 : jc_J 116 := jc_J_of (by decide +kernel) (by decide +kernel)
theorem jc_b_117 : jc_J 117 := jc_J_of (by decide +kernel) (by decide +kernel)
theorem jc_b_118 : jc_J 118 := jc_J_of (by decide +kernel) (by decide +kernel)
theorem jc_b_119 : jc_J 119 := jc_J_of (by decide +kernel) (by decide +kernel)
theorem jc_b_120 : jc_J 120 := jc_J_of (by decide +kernel) (by decide +kernel)
theorem jc_b_121 : jc_J 121 := jc_J_of (by decide +kernel) (by decide +kernel)
theorem jc_b_122 : jc_J 122 := jc_J_of (by decide +kernel) (by decide +kernel)
theorem jc_b_123 : jc_J 123 := jc_J_of (by decide +kernel) (by decide +kernel)
theorem jc_b_124 : jc_J 124 := jc_J_of (by decide +kernel) (by decide +kernel)
theorem jc_b_125 : jc_J 125 := jc_J_of (by decide +kernel) (by decide +kernel)
theorem jc_b_126 : jc_J 126 := jc_J_of (by decide +kernel) (by decide +kernel)
theorem jc_b_127 : jc_J 127 := jc_J_of (by decide +kernel) (by decide +kernel)
theorem jc_b_128 : jc_J 128 := jc_J_of (by decide +kernel) (by decide +kernel)
theorem jc_b_129 : jc_J 129 := jc_J_of (by decide +kernel) (by decide +kernel)
theorem jc_b_130 : jc_J 130 := jc_J_of (by decide +kernel) (by decide +kernel)
theorem jc_b_131 : jc_J 131 := jc_J_of (by decide +kernel) (by decide +kernel)
theorem jc_b_132 : jc_J 132 := jc_J_of (by decide +kernel) (by decide +kernel)
theorem jc_b_133 : jc_J 133 := jc_J_of (by decide +kernel) (by decide +kernel)
theorem jc_b_134 : jc_J 134 := jc_J_of (by decide +kernel) (by decide +kernel)
theorem jc_b_135 : jc_J 135 := jc_J_of (by decide +kernel) (by decide +kernel)
theorem jc_b_136 : jc_J 136 := jc_J_of (by decide +kernel) (by decide +kernel)
theorem jc_b_137 : jc_J 137 := jc_J_of (by decide +kernel) (by decide +kernel)
theorem jc_b_138 : jc_J 138 := jc_J_of (by decide +kernel) (by decide +kernel)
theorem jc_b_139 : jc_J 139 := jc_J_of (by decide +kernel) (by decide +kernel)
theorem jc_b_140 : jc_J 140 := jc_J_of (by decide +kernel) (by decide +kernel)
theorem jc_b_141 : jc_J 141 := jc_J_of (by decide +kernel) (by decide +kernel)
theorem jc_b_142 : jc_J 142 := jc_J_of (by decide +kernel) (by decide +kernel)
theorem jc_b_143 : jc_J 143 := jc_J_of (by decide +kernel) (by decide +kernel)
theorem jc_b_144 : jc_J 144 := jc_J_of (by decide +kernel) (by decide +kernel)
theorem jc_b_145 : jc_J 145 := jc_J_of (by decide +kernel) (by decide +kernel)
theorem jc_b_146 : jc_J 146 := jc_J_of (by decide +kernel) (by decide +kernel)
theorem jc_b_147 : jc_J 147 := jc_J_of (by decide +kernel) (by decide +kernel)
theorem jc_b_148 : jc_J 148 := jc_J_of (by decide +kernel) (by decide +kernel)
theorem jc_b_149 : jc_J 149 := jc_J_of (by decide +kernel) (by decide +kernel)
theorem jc_b_150 : jc_J 150 := jc_J_of (by decide +kernel) (by decide +kernel)
theorem jc_b_151 : jc_J 151 := jc_J_of (by decide +kernel) (by decide +kernel)
theorem jc_b_152 : jc_J 152 := jc_J_of (by decide +kernel) (by decide +kernel)
theorem jc_b_153 : jc_J 153 := jc_J_of (by decide +kernel) (by decide +kernel)
theorem jc_b_154 : jc_J 154 := jc_J_of (by decide +kernel) (by decide +kernel)
theorem jc_b_155 : jc_J 155 := jc_J_of (by decide +kernel) (by decide +kernel)
theorem jc_b_156 : jc_J 156 := jc_J_of (by decide +kernel) (by decide +kernel)
theorem jc_b_157 : jc_J 157 := jc_J_of (by decide +kernel) (by decide +kernel)
theorem jc_b_158 : jc_J 158 := jc_J_of (by decide +kernel) (by decide +kernel)
theorem jc_b_159 : jc_J 159 := jc_J_of (by decide +kernel) (by decide +kernel)
theorem jc_b_160 : jc_J 160 := jc_J_of (by decide +kernel) (by decide +kernel)
theorem jc_b_161 : jc_J 161 := jc_J_of (by decide +kernel) (by decide +kernel)
theorem jc_b_162 : jc_J 162 := jc_J_of (by decide +kernel) (by decide +kernel)
theorem jc_b_163 : jc_J 163 := jc_J_of (by decide +kernel) (by decide +kernel)
theorem jc_b_164 : jc_J 164 := jc_J_of (by decide +kernel) (by decide +kernel)
theorem jc_b_165 : jc_J 165 := jc_J_of (by decide +kernel) (by decide +kernel)
theorem jc_b_166 : jc_J 166 := jc_J_of (by decide +kernel) (by decide +kernel)
theorem jc_b_167 : jc_J 167 := jc_J_of (by decide +kernel) (by decide +kernel)
theorem jc_b_168 : jc_J 168 := jc_J_of (by decide +kernel) (by decide +kernel)
theorem jc_b_169 : jc_J 169 := jc_J_of (by decide +kernel) (by decide +kernel)
theorem jc_b_170 : jc_J 170 := jc_J_of (by decide +kernel) (by decide +kernel)
theorem jc_b_171 : jc_J 171 := jc_J_of (by decide +kernel) (by decide +kernel)
theorem jc_b_172 : jc_J 172 := jc_J_of (by decide +kernel) (by decide +kernel)
theorem jc_b_173 : jc_J 173 := jc_J_of (by decide +kernel) (by decide +kernel)
theorem jc_b_174 : jc_J 174 := jc_J_of (by decide +kernel) (by decide +kernel)
theorem jc_b_175 : jc_J 175 := jc_J_of (by decide +kernel) (by decide +kernel)
theorem jc_b_176 : jc_J 176 := jc_J_of (by decide +kernel) (by decide +kernel)
theorem jc_b_177 : jc_J 177 := jc_J_of (by decide +kernel) (by decide +kernel)
theorem jc_b_178 : jc_J 178 := jc_J_of (by decide +kernel) (by decide +kernel)
theorem jc_b_179 : jc_J 179 := jc_J_of (by decide +kernel) (by decide +kernel)
theorem jc_b_180 : jc_J 180 := jc_J_of (by decide +kernel) (by decide +kernel)
theorem jc_b_181 : jc_J 181 := jc_J_of (by decide +kernel) (by decide +kernel)
theorem jc_b_182 : jc_J 182 := jc_J_of (by decide +kernel) (by decide +kernel)
theorem jc_b_183 : jc_J 183 := jc_J_of (by decide +kernel) (by decide +kernel)
theorem jc_b_184 : jc_J 184 := jc_J_of (by decide +kernel) (by decide +kernel)
theorem jc_b_185 : jc_J 185 := jc_J_of (by decide +kernel) (by decide +kernel)
theorem jc_b_186 : jc_J 186 := jc_J_of (by decide +kernel) (by decide +kernel)
theorem jc_b_187 : jc_J 187 := jc_J_of (by decide +kernel) (by decide +kernel)
theorem jc_b_188 : jc_J 188 := jc_J_of (by decide +kernel) (by decide +kernel)
theorem jc_b_189 : jc_J 189 := jc_J_of (by decide +kernel) (by decide +kernel)
theorem jc_b_190 : jc_J 190 := jc_J_of (by decide +kernel) (by decide +kernel)
theorem jc_b_191 : jc_J 191 := jc_J_of (by decide +kernel) (by decide +kernel)
theorem jc_b_192 : jc_J 192 := jc_J_of (by decide +kernel) (by decide +kernel)
theorem jc_b_193 : jc_J 193 := jc_J_of (by decide +kernel) (by decide +kernel)
theorem jc_b_194 : jc_J 194 := jc_J_of (by decide +kernel) (by decide +kernel)
theorem jc_b_195 : jc_J 195 := jc_J_of (by decide +kernel) (by decide +kernel)
theorem jc_b_196 : jc_J 196 := jc_J_of (by decide +kernel) (by decide +kernel)
theorem jc_b_197 : jc_J 197 := jc_J_of (by decide +kernel) (by decide +kernel)
theorem jc_b_198 : jc_J 198 := jc_J_of (by decide +kernel) (by decide +kernel)
theorem jc_b_199 : jc_J 199 := jc_J_of (by decide +kernel) (by decide +kernel)
theorem jc_b_200 : jc_J 200 := jc_J_of (by decide +kernel) (by decide +kernel)
theorem jc_b_201 : jc_J 201 := jc_J_of (by decide +kernel) (by decide +kernel)
theorem jc_b_202 : jc_J 202 := jc_J_of (by decide +kernel) (by decide +kernel)
theorem jc_b_203 : jc_J 203 := jc_J_of (by decide +kernel) (by decide +kernel)
theorem jc_b_204 : jc_J 204 := jc_J_of (by decide +kernel) (by decide +kernel)
theorem jc_b_205 : jc_J 205 := jc_J_of (by decide +kernel) (by decide +kernel)
theorem jc_b_206 : jc_J 206 := jc_J_of (by decide +kernel) (by decide +kernel)
theorem jc_b_207 : jc_J 207 := jc_J_of (by decide +kernel) (by decide +kernel)
theorem jc_b_208 : jc_J 208 := jc_J_of (by decide +kernel) (by decide +kernel)
theorem jc_b_209 : jc_J 209 := jc_J_of (by decide +kernel) (by decide +kernel)
theorem jc_b_210 : jc_J 210 := jc_J_of (by decide +kernel) (by decide +kernel)
theorem jc_b_211 : jc_J 211 := jc_J_of (by decide +kernel) (by decide +kernel)
theorem jc_b_212 : jc_J 212 := jc_J_of (by decide +kernel) (by decide +kernel)
theorem jc_b_213 : jc_J 213 := jc_J_of (by decide +kernel) (by decide +kernel)
theorem jc_b_214 : jc_J 214 := jc_J_of (by decide +kernel) (by decide +kernel)
theorem jc_b_215 : jc_J 215 := jc_J_of (by decide +kernel) (by decide +kernel)
theorem jc_b_216 : jc_J 216 := jc_J_of (by decide +kernel) (by decide +kernel)
theorem jc_b_217 : jc_J 217 := jc_J_of (by decide +kernel) (by decide +kernel)
theorem jc_b_218 : jc_J 218 := jc_J_of (by decide +kernel) (by decide +kernel)
theorem jc_b_219 : jc_J 219 := jc_J_of (by decide +kernel) (by decide +kernel)
theorem jc_b_220 : jc_J 220 := jc_J_of (by decide +kernel) (by decide +kernel)
theorem jc_b_221 : jc_J 221 := jc_J_of (by decide +kernel) (by decide +kernel)
theorem jc_b_222 : jc_J 222 := jc_J_of (by decide +kernel) (by decide +kernel)
theorem jc_b_223 : jc_J 223 := jc_J_of (by decide +kernel) (by decide +kernel)
theorem jc_b_224 : jc_J 224 := jc_J_of (by decide +kernel) (by decide +kernel)
theorem jc_b_225 : jc_J 225 := jc_J_of (by decide +kernel) (by decide +kernel)
theorem jc_b_226 : jc_J 226 := jc_J_of (by decide +kernel) (by decide +kernel)
theorem jc_b_227 : jc_J 227 := jc_J_of (by decide +kernel) (by decide +kernel)
theorem jc_b_228 : jc_J 228 := jc_J_of (by decide +kernel) (by decide +kernel)
theorem jc_b_229 : jc_J 229 := jc_J_of (by decide +kernel) (by decide +kernel)
theorem jc_b_230 : jc_J 230 := jc_J_of (by decide +kernel) (by decide +kernel)
theorem jc_b_231 : jc_J 231 := jc_J_of (by decide +kernel) (by decide +kernel)
theorem jc_b_232 : jc_J 232 := jc_J_of (by decide +kernel) (by decide +kernel)
theorem jc_b_233 : jc_J 233 := jc_J_of (by decide +kernel) (by decide +kernel)
theorem jc_b_234 : jc_J 234 := jc_J_of (by decide +kernel) (by decide +kernel)
theorem jc_b_235 : jc_J 235 := jc_J_of (by decide +kernel) (by decide +kernel)
theorem jc_b_236 : jc_J 236 := jc_J_of (by decide +kernel) (by decide +kernel)
theorem jc_b_237 : jc_J 237 := jc_J_of (by decide +kernel) (by decide +kernel)
theorem jc_b_238 : jc_J 238 := jc_J_of (by decide +kernel) (by decide +kernel)
theorem jc_b_239 : jc_J 239 := jc_J_of (by decide +kernel) (by decide +kernel)
theorem jc_b_240 : jc_J 240 := jc_J_of (by decide +kernel) (by decide +kernel)
theorem jc_b_241 : jc_J 241 := jc_J_of (by decide +kernel) (by decide +kernel)
theorem jc_b_242 : jc_J 242 := jc_J_of (by decide +kernel) (by decide +kernel)
theorem jc_b_243 : jc_J 243 := jc_J_of (by decide +kernel) (by decide +kernel)
theorem jc_b_244 : jc_J 244 := jc_J_of (by decide +kernel) (by decide +kernel)
theorem jc_b_245 : jc_J 245 := jc_J_of (by decide +kernel) (by decide +kernel)
theorem jc_b_246 : jc_J 246 := jc_J_of (by decide +kernel) (by decide +kernel)
theorem jc_b_247 : jc_J 247 := jc_J_of (by decide +kernel) (by decide +kernel)
theorem jc_b_248 : jc_J 248 := jc_J_of (by decide +kernel) (by decide +kernel)
theorem jc_b_249 : jc_J 249 := jc_J_of (by decide +kernel) (by decide +kernel)
theorem jc_b_250 : jc_J 250 := jc_J_of (by decide +kernel) (by decide +kernel)
theorem jc_b_251 : jc_J 251 := jc_J_of (by decide +kernel) (by decide +kernel)
theorem jc_b_252 : jc_J 252 := jc_J_of (by decide +kernel) (by decide +kernel)
theorem jc_b_253 : jc_J 253 := jc_J_of (by decide +kernel) (by decide +kernel)
theorem jc_b_254 : jc_J 254 := jc_J_of (by decide +kernel) (by decide +kernel)
theorem jc_b_255 : jc_J 255 := jc_J_of (by decide +kernel) (by decide +kernel)
theorem jc_b_256 : jc_J 256 := jc_J_of (by decide +kernel) (by decide +kernel)
theorem jc_b_257 : jc_J 257 := jc_J_of (by decide +kernel) (by decide +kernel)
theorem jc_b_258 : jc_J 258 := jc_J_of (by decide +kernel) (by decide +kernel)
theorem jc_b_259 : jc_J 259 := jc_J_of (by decide +kernel) (by decide +kernel)
theorem jc_b_260 : jc_J 260 := jc_J_of (by decide +kernel) (by decide +kernel)
theorem jc_b_261 : jc_J 261 := jc_J_of (by decide +kernel) (by decide +kernel)
theorem jc_b_262 : jc_J 262 := jc_J_of (by decide +kernel) (by decide +kernel)
theorem jc_b_263 : jc_J 263 := jc_J_of (by decide +kernel) (by decide +kernel)
theorem jc_b_264 : jc_J 264 := jc_J_of (by decide +kernel) (by decide +kernel)
theorem jc_b_265 : jc_J 265 := jc_J_of (by decide +kernel) (by decide +kernel)
theorem jc_b_266 : jc_J 266 := jc_J_of (by decide +kernel) (by decide +kernel)
theorem jc_b_267 : jc_J 267 := jc_J_of (by decide +kernel) (by decide +kernel)
theorem jc_b_268 : jc_J 268 := jc_J_of (by decide +kernel) (by decide +kernel)
theorem jc_b_269 : jc_J 269 := jc_J_of (by decide +kernel) (by decide +kernel)
theorem jc_b_270 : jc_J 270 := jc_J_of (by decide +kernel) (by decide +kernel)
theorem jc_b_271 : jc_J 271 := jc_J_of (by decide +kernel) (by decide +kernel)
theorem jc_b_272 : jc_J 272 := jc_J_of (by decide +kernel) (by decide +kernel)
theorem jc_b_273 : jc_J 273 := jc_J_of (by decide +kernel) (by decide +kernel)
theorem jc_b_274 : jc_J 274 := jc_J_of (by decide +kernel) (by decide +kernel)
theorem jc_b_275 : jc_J 275 := jc_J_of (by decide +kernel) (by decide +kernel)
theorem jc_b_276 : jc_J 276 := jc_J_of (by decide +kernel) (by decide +kernel)
theorem jc_b_277 : jc_J 277 := jc_J_of (by decide +kernel) (by decide +kernel)
theorem jc_b_278 : jc_J 278 := jc_J_of (by decide +kernel) (by decide +kernel)
theorem jc_b_279 : jc_J 279 := jc_J_of (by decide +kernel) (by decide +kernel)
theorem jc_b_280 : jc_J 280 := jc_J_of (by decide +kernel) (by decide +kernel)
theorem jc_b_281 : jc_J 281 := jc_J_of (by decide +kernel) (by decide +kernel)
theorem jc_b_282 : jc_J 282 := jc_J_of (by decide +kernel) (by decide +kernel)
theorem jc_b_283 : jc_J 283 := jc_J_of (by decide +kernel) (by decide +kernel)
theorem jc_b_284 : jc_J 284 := jc_J_of (by decide +kernel) (by decide +kernel)
theorem jc_b_285 : jc_J 285 := jc_J_of (by decide +kernel) (by decide +kernel)
theorem jc_b_286 : jc_J 286 := jc_J_of (by decide +kernel) (by decide +kernel)
theorem jc_b_287 : jc_J 287 := jc_J_of (by decide +kernel) (by decide +kernel)
theorem jc_b_288 : jc_J 288 := jc_J_of (by decide +kernel) (by decide +kernel)
theorem jc_b_289 : jc_J 289 := jc_J_of (by decide +kernel) (by decide +kernel)
theorem jc_b_290 : jc_J 290 := jc_J_of (by decide +kernel) (by decide +kernel)
theorem jc_b_291 : jc_J 291 := jc_J_of (by decide +kernel) (by decide +kernel)
theorem jc_b_292 : jc_J 292 := jc_J_of (by decide +kernel) (by decide +kernel)
theorem jc_b_293 : jc_J 293 := jc_J_of (by decide +kernel) (by decide +kernel)
theorem jc_b_294 : jc_J 294 := jc_J_of (by decide +kernel) (by decide +kernel)
theorem jc_b_295 : jc_J 295 := jc_J_of (by decide +kernel) (by decide +kernel)
theorem jc_b_296 : jc_J 296 := jc_J_of (by decide +kernel) (by decide +kernel)
theorem jc_b_297 : jc_J 297 := jc_J_of (by decide +kernel) (by decide +kernel)
theorem jc_b_298 : jc_J 298 := jc_J_of (by decide +kernel) (by decide +kernel)
theorem jc_b_299 : jc_J 299 := jc_J_of (by decide +kernel) (by decide +kernel)
theorem jc_b_300 : jc_J 300 := jc_J_of (by decide +kernel) (by decide +kernel)
theorem jc_b_301 : jc_J 301 := jc_J_of (by decide +kernel) (by decide +kernel)
theorem jc_b_302 : jc_J 302 := jc_J_of (by decide +kernel) (by decide +kernel)
theorem jc_b_303 : jc_J 303 := jc_J_of (by decide +kernel) (by decide +kernel)
theorem jc_b_304 : jc_J 304 := jc_J_of (by decide +kernel) (by decide +kernel)
theorem jc_b_305 : jc_J 305 := jc_J_of (by decide +kernel) (by decide +kernel)
theorem jc_b_306 : jc_J 306 := jc_J_of (by decide +kernel) (by decide +kernel)
theorem jc_b_307 : jc_J 307 := jc_J_of (by decide +kernel) (by decide +kernel)
theorem jc_b_308 : jc_J 308 := jc_J_of (by decide +kernel) (by decide +kernel)
theorem jc_b_309 : jc_J 309 := jc_J_of (by decide +kernel) (by decide +kernel)
theorem jc_b_310 : jc_J 310 := jc_J_of (by decide +kernel) (by decide +kernel)
theorem jc_b_311 : jc_J 311 := jc_J_of (by decide +kernel) (by decide +kernel)
theorem jc_b_312 : jc_J 312 := jc_J_of (by decide +kernel) (by decide +kernel)
theorem jc_b_313 : jc_J 313 := jc_J_of (by decide +kernel) (by decide +kernel)
theorem jc_b_314 : jc_J 314 := jc_J_of (by decide +kernel) (by decide +kernel)
theorem jc_b_315 : jc_J 315 := jc_J_of (by decide +kernel) (by decide +kernel)
theorem jc_b_316_0 : jc_Jb 316 0 = true := by decide +kernel
theorem jc_b_316_1 : jc_Jb 316 1 = true := by decide +kernel
theorem jc_b_316_2 : jc_Jb 316 2 = true := by decide +kernel
theorem jc_b_316_3 : jc_Jb 316 3 = true := by decide +kernel
theorem jc_b_316_4 : jc_Jb 316 4 = true := by decide +kernel
theorem jc_b_316_5 : jc_Jb 316 5 = true := by decide +kernel
theorem jc_b_316_6 : jc_Jb 316 6 = true := by decide +kernel
theorem jc_b_316_7 : jc_Jb 316 7 = true := by decide +kernel
theorem jc_b_316_8 : jc_Jb 316 8 = true := by decide +kernel
theorem jc_b_316_9 : jc_Jb 316 9 = true := by decide +kernel
theorem jc_b_316_10 : jc_Jb 316 10 = true := by decide +kernel
theorem jc_b_316_11 : jc_Jb 316 11 = true := by decide +kernel
theorem jc_b_316_12 : jc_Jb 316 12 = true := by decide +kernel
theorem jc_b_316_13 : jc_Jb 316 13 = true := by decide +kernel
theorem jc_b_316_14 : jc_Jb 316 14 = true := by decide +kernel
theorem jc_b_316_15 : jc_Jb 316 15 = true := by decide +kernel
theorem jc_b_316_16 : jc_Jb 316 16 = true := by decide +kernel
theorem jc_b_316_17 : jc_Jb 316 17 = true := by decide +kernel
theorem jc_b_316_18 : jc_Jb 316 18 = true := by decide +kernel
theorem jc_b_316_19 : jc_Jb 316 19 = true := by decide +kernel
theorem jc_b_316_20 : jc_Jb 316 20 = true := by decide +kernel
theorem jc_b_316_21 : jc_Jb 316 21 = true := by decide +kernel
theorem jc_b_316_22 : jc_Jb 316 22 = true := by decide +kernel
theorem jc_b_316_23 : jc_Jb 316 23 = true := by decide +kernel
theorem jc_b_316_24 : jc_Jb 316 24 = true := by decide +kernel
theorem jc_b_316_25 : jc_Jb 316 25 = true := by decide +kernel
theorem jc_b_316_26 : jc_Jb 316 26 = true := by decide +kernel
theorem jc_b_316_27 : jc_Jb 316 27 = true := by decide +kernel
theorem jc_b_316_28 : jc_Jb 316 28 = true := by decide +kernel
theorem jc_b_316_29 : jc_Jb 316 29 = true := by decide +kernel
theorem jc_b_316_30 : jc_Jb 316 30 = true := by decide +kernel
theorem jc_b_316_31 : jc_Jb 316 31 = true := by decide +kernel
theorem jc_b_316_32 : jc_Jb 316 32 = true := by decide +kernel
theorem jc_b_316_33 : jc_Jb 316 33 = true := by decide +kernel
theorem jc_b_316_34 : jc_Jb 316 34 = true := by decide +kernel
theorem jc_b_316_35 : jc_Jb 316 35 = true := by decide +kernel
theorem jc_b_316_36 : jc_Jb 316 36 = true := by decide +kernel
theorem jc_b_316_37 : jc_Jb 316 37 = true := by decide +kernel
theorem jc_b_316_38 : jc_Jb 316 38 = true := by decide +kernel
theorem jc_b_316_39 : jc_Jb 316 39 = true := by decide +kernel
theorem jc_b_316_40 : jc_Jb 316 40 = true := by decide +kernel
theorem jc_b_316_41 : jc_Jb 316 41 = true := by decide +kernel
theorem jc_b_316_42 : jc_Jb 316 42 = true := by decide +kernel
theorem jc_b_316_43 : jc_Jb 316 43 = true := by decide +kernel
theorem jc_b_316_44 : jc_Jb 316 44 = true := by decide +kernel
theorem jc_b_316_45 : jc_Jb 316 45 = true := by decide +kernel
theorem jc_b_316_46 : jc_Jb 316 46 = true := by decide +kernel
theorem jc_b_316_47 : jc_Jb 316 47 = true := by decide +kernel
theorem jc_b_316_48 : jc_Jb 316 48 = true := by decide +kernel
theorem jc_b_316_49 : jc_Jb 316 49 = true := by decide +kernel
theorem jc_b_316_50 : jc_Jb 316 50 = true := by decide +kernel
theorem jc_b_316_51 : jc_Jb 316 51 = true := by decide +kernel
theorem jc_b_316_52 : jc_Jb 316 52 = true := by decide +kernel
theorem jc_b_316_53 : jc_Jb 316 53 = true := by decide +kernel
theorem jc_b_316_54 : jc_Jb 316 54 = true := by decide +kernel
theorem jc_b_316_55 : jc_Jb 316 55 = true := by decide +kernel
theorem jc_b_316_56 : jc_Jb 316 56 = true := by decide +kernel
theorem jc_b_316_57 : jc_Jb 316 57 = true := by decide +kernel
theorem jc_b_316_58 : jc_Jb 316 58 = true := by decide +kernel
theorem jc_b_316_59 : jc_Jb 316 59 = true := by decide +kernel
theorem jc_b_316_60 : jc_Jb 316 60 = true := by decide +kernel
theorem jc_b_316_61 : jc_Jb 316 61 = true := by decide +kernel
theorem jc_b_316_62 : jc_Jb 316 62 = true := by decide +kernel
theorem jc_b_316_63 : jc_Jb 316 63 = true := by decide +kernel
theorem jc_b_316_64 : jc_Jb 316 64 = true := by decide +kernel
theorem jc_b_316_65 : jc_Jb 316 65 = true := by decide +kernel
theorem jc_b_316_66 : jc_Jb 316 66 = true := by decide +kernel
theorem jc_b_316_67 : jc_Jb 316 67 = true := by decide +kernel
theorem jc_b_316_68 : jc_Jb 316 68 = true := by decide +kernel
theorem jc_b_316_69 : jc_Jb 316 69 = true := by decide +kernel
theorem jc_b_316_70 : jc_Jb 316 70 = true := by decide +kernel
theorem jc_b_316_c_20 : ∀ b, b < 20 → jc_Jb 316 b = true := (lt_more (n := 19) jc_b_316_19 (lt_more (n := 18) jc_b_316_18 (lt_more (n := 17) jc_b_316_17 (lt_more (n := 16) jc_b_316_16 (lt_more (n := 15) jc_b_316_15 (lt_more (n := 14) jc_b_316_14 (lt_more (n := 13) jc_b_316_13 (lt_more (n := 12) jc_b_316_12 (lt_more (n := 11) jc_b_316_11 (lt_more (n := 10) jc_b_316_10 (lt_more (n := 9) jc_b_316_9 (lt_more (n := 8) jc_b_316_8 (lt_more (n := 7) jc_b_316_7 (lt_more (n := 6) jc_b_316_6 (lt_more (n := 5) jc_b_316_5 (lt_more (n := 4) jc_b_316_4 (lt_more (n := 3) jc_b_316_3 (lt_more (n := 2) jc_b_316_2 (lt_more (n := 1) jc_b_316_1 (lt_more (n := 0) jc_b_316_0 (fun b hb => absurd hb (Nat.not_lt_zero b))))))))))))))))))))))
theorem jc_b_316_c_40 : ∀ b, b < 40 → jc_Jb 316 b = true := (lt_more (n := 39) jc_b_316_39 (lt_more (n := 38) jc_b_316_38 (lt_more (n := 37) jc_b_316_37 (lt_more (n := 36) jc_b_316_36 (lt_more (n := 35) jc_b_316_35 (lt_more (n := 34) jc_b_316_34 (lt_more (n := 33) jc_b_316_33 (lt_more (n := 32) jc_b_316_32 (lt_more (n := 31) jc_b_316_31 (lt_more (n := 30) jc_b_316_30 (lt_more (n := 29) jc_b_316_29 (lt_more (n := 28) jc_b_316_28 (lt_more (n := 27) jc_b_316_27 (lt_more (n := 26) jc_b_316_26 (lt_more (n := 25) jc_b_316_25 (lt_more (n := 24) jc_b_316_24 (lt_more (n := 23) jc_b_316_23 (lt_more (n := 22) jc_b_316_22 (lt_more (n := 21) jc_b_316_21 (lt_more (n := 20) jc_b_316_20 jc_b_316_c_20))))))))))))))))))))
theorem jc_b_316_c_60 : ∀ b, b < 60 → jc_Jb 316 b = true := (lt_more (n := 59) jc_b_316_59 (lt_more (n := 58) jc_b_316_58 (lt_more (n := 57) jc_b_316_57 (lt_more (n := 56) jc_b_316_56 (lt_more (n := 55) jc_b_316_55 (lt_more (n := 54) jc_b_316_54 (lt_more (n := 53) jc_b_316_53 (lt_more (n := 52) jc_b_316_52 (lt_more (n := 51) jc_b_316_51 (lt_more (n := 50) jc_b_316_50 (lt_more (n := 49) jc_b_316_49 (lt_more (n := 48) jc_b_316_48 (lt_more (n := 47) jc_b_316_47 (lt_more (n := 46) jc_b_316_46 (lt_more (n := 45) jc_b_316_45 (lt_more (n := 44) jc_b_316_44 (lt_more (n := 43) jc_b_316_43 (lt_more (n := 42) jc_b_316_42 (lt_more (n := 41) jc_b_316_41 (lt_more (n := 40) jc_b_316_40 jc_b_316_c_40))))))))))))))))))))
theorem jc_b_316_all : ∀ b, b < 71 → jc_Jb 316 b = true := (lt_more (n := 70) jc_b_316_70 (lt_more (n := 69) jc_b_316_69 (lt_more (n := 68) jc_b_316_68 (lt_more (n := 67) jc_b_316_67 (lt_more (n := 66) jc_b_316_66 (lt_more (n := 65) jc_b_316_65 (lt_more (n := 64) jc_b_316_64 (lt_more (n := 63) jc_b_316_63 (lt_more (n := 62) jc_b_316_62 (lt_more (n := 61) jc_b_316_61 (lt_more (n := 60) jc_b_316_60 jc_b_316_c_60)))))))))))
theorem jc_b_316 : jc_J 316 := ⟨by decide +kernel, by decide +kernel, jc_b_316_all⟩
theorem jc_bs_20 : ∀ b, b < 20 → jc_J b := (lt_more (n := 19) jc_b_19 (lt_more (n := 18) jc_b_18 (lt_more (n := 17) jc_b_17 (lt_more (n := 16) jc_b_16 (lt_more (n := 15) jc_b_15 (lt_more (n := 14) jc_b_14 (lt_more (n := 13) jc_b_13 (lt_more (n := 12) jc_b_12 (lt_more (n := 11) jc_b_11 (lt_more (n := 10) jc_b_10 (lt_more (n := 9) jc_b_9 (lt_more (n := 8) jc_b_8 (lt_more (n := 7) jc_b_7 (lt_more (n := 6) jc_b_6 (lt_more (n := 5) jc_b_5 (lt_more (n := 4) jc_b_4 (lt_more (n := 3) jc_b_3 (lt_more (n := 2) jc_b_2 (lt_more (n := 1) jc_b_1 (lt_more (n := 0) jc_b_0 (fun b hb => absurd hb (Nat.not_lt_zero b))))))))))))))))))))))
theorem jc_bs_40 : ∀ b, b < 40 → jc_J b := (lt_more (n := 39) jc_b_39 (lt_more (n := 38) jc_b_38 (lt_more (n := 37) jc_b_37 (lt_more (n := 36) jc_b_36 (lt_more (n := 35) jc_b_35 (lt_more (n := 34) jc_b_34 (lt_more (n := 33) jc_b_33 (lt_more (n := 32) jc_b_32 (lt_more (n := 31) jc_b_31 (lt_more (n := 30) jc_b_30 (lt_more (n := 29) jc_b_29 (lt_more (n := 28) jc_b_28 (lt_more (n := 27) jc_b_27 (lt_more (n := 26) jc_b_26 (lt_more (n := 25) jc_b_25 (lt_more (n := 24) jc_b_24 (lt_more (n := 23) jc_b_23 (lt_more (n := 22) jc_b_22 (lt_more (n := 21) jc_b_21 (lt_more (n := 20) jc_b_20 jc_bs_20))))))))))))))))))))
theorem jc_bs_60 : ∀ b, b < 60 → jc_J b := (lt_more (n := 59) jc_b_59 (lt_more (n := 58) jc_b_58 (lt_more (n := 57) jc_b_57 (lt_more (n := 56) jc_b_56 (lt_more (n := 55) jc_b_55 (lt_more (n := 54) jc_b_54 (lt_more (n := 53) jc_b_53 (lt_more (n := 52) jc_b_52 (lt_more (n := 51) jc_b_51 (lt_more (n := 50) jc_b_50 (lt_more (n := 49) jc_b_49 (lt_more (n := 48) jc_b_48 (lt_more (n := 47) jc_b_47 (lt_more (n := 46) jc_b_46 (lt_more (n := 45) jc_b_45 (lt_more (n := 44) jc_b_44 (lt_more (n := 43) jc_b_43 (lt_more (n := 42) jc_b_42 (lt_more (n := 41) jc_b_41 (lt_more (n := 40) jc_b_40 jc_bs_40))))))))))))))))))))
theorem jc_bs_80 : ∀ b, b < 80 → jc_J b := (lt_more (n := 79) jc_b_79 (lt_more (n := 78) jc_b_78 (lt_more (n := 77) jc_b_77 (lt_more (n := 76) jc_b_76 (lt_more (n := 75) jc_b_75 (lt_more (n := 74) jc_b_74 (lt_more (n := 73) jc_b_73 (lt_more (n := 72) jc_b_72 (lt_more (n := 71) jc_b_71 (lt_more (n := 70) jc_b_70 (lt_more (n := 69) jc_b_69 (lt_more (n := 68) jc_b_68 (lt_more (n := 67) jc_b_67 (lt_more (n := 66) jc_b_66 (lt_more (n := 65) jc_b_65 (lt_more (n := 64) jc_b_64 (lt_more (n := 63) jc_b_63 (lt_more (n := 62) jc_b_62 (lt_more (n := 61) jc_b_61 (lt_more (n := 60) jc_b_60 jc_bs_60))))))))))))))))))))
theorem jc_bs_100 : ∀ b, b < 100 → jc_J b := (lt_more (n := 99) jc_b_99 (lt_more (n := 98) jc_b_98 (lt_more (n := 97) jc_b_97 (lt_more (n := 96) jc_b_96 (lt_more (n := 95) jc_b_95 (lt_more (n := 94) jc_b_94 (lt_more (n := 93) jc_b_93 (lt_more (n := 92) jc_b_92 (lt_more (n := 91) jc_b_91 (lt_more (n := 90) jc_b_90 (lt_more (n := 89) jc_b_89 (lt_more (n := 88) jc_b_88 (lt_more (n := 87) jc_b_87 (lt_more (n := 86) jc_b_86 (lt_more (n := 85) jc_b_85 (lt_more (n := 84) jc_b_84 (lt_more (n := 83) jc_b_83 (lt_more (n := 82) jc_b_82 (lt_more (n := 81) jc_b_81 (lt_more (n := 80) jc_b_80 jc_bs_80))))))))))))))))))))
theorem jc_bs_120 : ∀ b, b < 120 → jc_J b := (lt_more (n := 119) jc_b_119 (lt_more (n := 118) jc_b_118 (lt_more (n := 117) jc_b_117 (lt_more (n := 116) jc_b_116 (lt_more (n := 115) jc_b_115 (lt_more (n := 114) jc_b_114 (lt_more (n := 113) jc_b_113 (lt_more (n := 112) jc_b_112 (lt_more (n := 111) jc_b_111 (lt_more (n := 110) jc_b_110 (lt_more (n := 109) jc_b_109 (lt_more (n := 108) jc_b_108 (lt_more (n := 107) jc_b_107 (lt_more (n := 106) jc_b_106 (lt_more (n := 105) jc_b_105 (lt_more (n := 104) jc_b_104 (lt_more (n := 103) jc_b_103 (lt_more (n := 102) jc_b_102 (lt_more (n := 101) jc_b_101 (lt_more (n := 100) jc_b_100 jc_bs_100))))))))))))))))))))
theorem jc_bs_140 : ∀ b, b < 140 → jc_J b := (lt_more (n := 139) jc_b_139 (lt_more (n := 138) jc_b_138 (lt_more (n := 137) jc_b_137 (lt_more (n := 136) jc_b_136 (lt_more (n := 135) jc_b_135 (lt_more (n := 134) jc_b_134 (lt_more (n := 133) jc_b_133 (lt_more (n := 132) jc_b_132 (lt_more (n := 131) jc_b_131 (lt_more (n := 130) jc_b_130 (lt_more (n := 129) jc_b_129 (lt_more (n := 128) jc_b_128 (lt_more (n := 127) jc_b_127 (lt_more (n := 126) jc_b_126 (lt_more (n := 125) jc_b_125 (lt_more (n := 124) jc_b_124 (lt_more (n := 123) jc_b_123 (lt_more (n := 122) jc_b_122 (lt_more (n := 121) jc_b_121 (lt_more (n := 120) jc_b_120 jc_bs_120))))))))))))))))))))
theorem jc_bs_160 : ∀ b, b < 160 → jc_J b := (lt_more (n := 159) jc_b_159 (lt_more (n := 158) jc_b_158 (lt_more (n := 157) jc_b_157 (lt_more (n := 156) jc_b_156 (lt_more (n := 155) jc_b_155 (lt_more (n := 154) jc_b_154 (lt_more (n := 153) jc_b_153 (lt_more (n := 152) jc_b_152 (lt_more (n := 151) jc_b_151 (lt_more (n := 150) jc_b_150 (lt_more (n := 149) jc_b_149 (lt_more (n := 148) jc_b_148 (lt_more (n := 147) jc_b_147 (lt_more (n := 146) jc_b_146 (lt_more (n := 145) jc_b_145 (lt_more (n := 144) jc_b_144 (lt_more (n := 143) jc_b_143 (lt_more (n := 142) jc_b_142 (lt_more (n := 141) jc_b_141 (lt_more (n := 140) jc_b_140 jc_bs_140))))))))))))))))))))
theorem jc_bs_180 : ∀ b, b < 180 → jc_J b := (lt_more (n := 179) jc_b_179 (lt_more (n := 178) jc_b_178 (lt_more (n := 177) jc_b_177 (lt_more (n := 176) jc_b_176 (lt_more (n := 175) jc_b_175 (lt_more (n := 174) jc_b_174 (lt_more (n := 173) jc_b_173 (lt_more (n := 172) jc_b_172 (lt_more (n := 171) jc_b_171 (lt_more (n := 170) jc_b_170 (lt_more (n := 169) jc_b_169 (lt_more (n := 168) jc_b_168 (lt_more (n := 167) jc_b_167 (lt_more (n := 166) jc_b_166 (lt_more (n := 165) jc_b_165 (lt_more (n := 164) jc_b_164 (lt_more (n := 163) jc_b_163 (lt_more (n := 162) jc_b_162 (lt_more (n := 161) jc_b_161 (lt_more (n := 160) jc_b_160 jc_bs_160))))))))))))))))))))
theorem jc_bs_200 : ∀ b, b < 200 → jc_J b := (lt_more (n := 199) jc_b_199 (lt_more (n := 198) jc_b_198 (lt_more (n := 197) jc_b_197 (lt_more (n := 196) jc_b_196 (lt_more (n := 195) jc_b_195 (lt_more (n := 194) jc_b_194 (lt_more (n := 193) jc_b_193 (lt_more (n := 192) jc_b_192 (lt_more (n := 191) jc_b_191 (lt_more (n := 190) jc_b_190 (lt_more (n := 189) jc_b_189 (lt_more (n := 188) jc_b_188 (lt_more (n := 187) jc_b_187 (lt_more (n := 186) jc_b_186 (lt_more (n := 185) jc_b_185 (lt_more (n := 184) jc_b_184 (lt_more (n := 183) jc_b_183 (lt_more (n := 182) jc_b_182 (lt_more (n := 181) jc_b_181 (lt_more (n := 180) jc_b_180 jc_bs_180))))))))))))))))))))
theorem jc_bs_220 : ∀ b, b < 220 → jc_J b := (lt_more (n := 219) jc_b_219 (lt_more (n := 218) jc_b_218 (lt_more (n := 217) jc_b_217 (lt_more (n := 216) jc_b_216 (lt_more (n := 215) jc_b_215 (lt_more (n := 214) jc_b_214 (lt_more (n := 213) jc_b_213 (lt_more (n := 212) jc_b_212 (lt_more (n := 211) jc_b_211 (lt_more (n := 210) jc_b_210 (lt_more (n := 209) jc_b_209 (lt_more (n := 208) jc_b_208 (lt_more (n := 207) jc_b_207 (lt_more (n := 206) jc_b_206 (lt_more (n := 205) jc_b_205 (lt_more (n := 204) jc_b_204 (lt_more (n := 203) jc_b_203 (lt_more (n := 202) jc_b_202 (lt_more (n := 201) jc_b_201 (lt_more (n := 200) jc_b_200 jc_bs_200))))))))))))))))))))
theorem jc_bs_240 : ∀ b, b < 240 → jc_J b := (lt_more (n := 239) jc_b_239 (lt_more (n := 238) jc_b_238 (lt_more (n := 237) jc_b_237 (lt_more (n := 236) jc_b_236 (lt_more (n := 235) jc_b_235 (lt_more (n := 234) jc_b_234 (lt_more (n := 233) jc_b_233 (lt_more (n := 232) jc_b_232 (lt_more (n := 231) jc_b_231 (lt_more (n := 230) jc_b_230 (lt_more (n := 229) jc_b_229 (lt_more (n := 228) jc_b_228 (lt_more (n := 227) jc_b_227 (lt_more (n := 226) jc_b_226 (lt_more (n := 225) jc_b_225 (lt_more (n := 224) jc_b_224 (lt_more (n := 223) jc_b_223 (lt_more (n := 222) jc_b_222 (lt_more (n := 221) jc_b_221 (lt_more (n := 220) jc_b_220 jc_bs_220))))))))))))))))))))
theorem jc_bs_260 : ∀ b, b < 260 → jc_J b := (lt_more (n := 259) jc_b_259 (lt_more (n := 258) jc_b_258 (lt_more (n := 257) jc_b_257 (lt_more (n := 256) jc_b_256 (lt_more (n := 255) jc_b_255 (lt_more (n := 254) jc_b_254 (lt_more (n := 253) jc_b_253 (lt_more (n := 252) jc_b_252 (lt_more (n := 251) jc_b_251 (lt_more (n := 250) jc_b_250 (lt_more (n := 249) jc_b_249 (lt_more (n := 248) jc_b_248 (lt_more (n := 247) jc_b_247 (lt_more (n := 246) jc_b_246 (lt_more (n := 245) jc_b_245 (lt_more (n := 244) jc_b_244 (lt_more (n := 243) jc_b_243 (lt_more (n := 242) jc_b_242 (lt_more (n := 241) jc_b_241 (lt_more (n := 240) jc_b_240 jc_bs_240))))))))))))))))))))
theorem jc_bs_280 : ∀ b, b < 280 → jc_J b := (lt_more (n := 279) jc_b_279 (lt_more (n := 278) jc_b_278 (lt_more (n := 277) jc_b_277 (lt_more (n := 276) jc_b_276 (lt_more (n := 275) jc_b_275 (lt_more (n := 274) jc_b_274 (lt_more (n := 273) jc_b_273 (lt_more (n := 272) jc_b_272 (lt_more (n := 271) jc_b_271 (lt_more (n := 270) jc_b_270 (lt_more (n := 269) jc_b_269 (lt_more (n := 268) jc_b_268 (lt_more (n := 267) jc_b_267 (lt_more (n := 266) jc_b_266 (lt_more (n := 265) jc_b_265 (lt_more (n := 264) jc_b_264 (lt_more (n := 263) jc_b_263 (lt_more (n := 262) jc_b_262 (lt_more (n := 261) jc_b_261 (lt_more (n := 260) jc_b_260 jc_bs_260))))))))))))))))))))
theorem jc_bs_300 : ∀ b, b < 300 → jc_J b := (lt_more (n := 299) jc_b_299 (lt_more (n := 298) jc_b_298 (lt_more (n := 297) jc_b_297 (lt_more (n := 296) jc_b_296 (lt_more (n := 295) jc_b_295 (lt_more (n := 294) jc_b_294 (lt_more (n := 293) jc_b_293 (lt_more (n := 292) jc_b_292 (lt_more (n := 291) jc_b_291 (lt_more (n := 290) jc_b_290 (lt_more (n := 289) jc_b_289 (lt_more (n := 288) jc_b_288 (lt_more (n := 287) jc_b_287 (lt_more (n := 286) jc_b_286 (lt_more (n := 285) jc_b_285 (lt_more (n := 284) jc_b_284 (lt_more (n := 283) jc_b_283 (lt_more (n := 282) jc_b_282 (lt_more (n := 281) jc_b_281 (lt_more (n := 280) jc_b_280 jc_bs_280))))))))))))))))))))
theorem jc_J_ok : ∀ b, b < 317 → jc_J b := (lt_more (n := 316) jc_b_316 (lt_more (n := 315) jc_b_315 (lt_more (n := 314) jc_b_314 (lt_more (n := 313) jc_b_313 (lt_more (n := 312) jc_b_312 (lt_more (n := 311) jc_b_311 (lt_more (n := 310) jc_b_310 (lt_more (n := 309) jc_b_309 (lt_more (n := 308) jc_b_308 (lt_more (n := 307) jc_b_307 (lt_more (n := 306) jc_b_306 (lt_more (n := 305) jc_b_305 (lt_more (n := 304) jc_b_304 (lt_more (n := 303) jc_b_303 (lt_more (n := 302) jc_b_302 (lt_more (n := 301) jc_b_301 (lt_more (n := 300) jc_b_300 jc_bs_300)))))))))))))))))
theorem jc_c_0 : jc_Cl 0 2068 1011 = true := by decide +kernel
theorem jc_c_1 : jc_Cl 1 2153 1014 = true := by decide +kernel
theorem jc_c_2 : jc_Cl 2 1034 1002 = true := by decide +kernel
theorem jc_c_3 : jc_Cl 3 2195 1015 = true := by decide +kernel
theorem jc_c_4 : jc_Cl 4 2054 1010 = true := by decide +kernel
theorem jc_c_5 : jc_Cl 5 1153 1004 = true := by decide +kernel
theorem jc_c_6 : jc_Cl 6 1040 1003 = true := by decide +kernel
theorem jc_c_7 : jc_Cl 7 1161 1005 = true := by decide +kernel
theorem jc_c_8 : jc_Cl 8 2138 1013 = true := by decide +kernel
theorem jc_c_9 : jc_Cl 9 2094 1012 = true := by decide +kernel
theorem jc_c_10 : jc_Cl 10 1026 1001 = true := by decide +kernel
theorem jc_c_11 : jc_Cl 11 7030 1019 = true := by decide +kernel
theorem jc_c_12 : jc_Cl 12 6112 1016 = true := by decide +kernel
theorem jc_Cl_ok : ∀ b, b < 13 → ∃ i n, jc_Cl b i n = true := (lt_more (n := 12) ⟨_, _, jc_c_12⟩ (lt_more (n := 11) ⟨_, _, jc_c_11⟩ (lt_more (n := 10) ⟨_, _, jc_c_10⟩ (lt_more (n := 9) ⟨_, _, jc_c_9⟩ (lt_more (n := 8) ⟨_, _, jc_c_8⟩ (lt_more (n := 7) ⟨_, _, jc_c_7⟩ (lt_more (n := 6) ⟨_, _, jc_c_6⟩ (lt_more (n := 5) ⟨_, _, jc_c_5⟩ (lt_more (n := 4) ⟨_, _, jc_c_4⟩ (lt_more (n := 3) ⟨_, _, jc_c_3⟩ (lt_more (n := 2) ⟨_, _, jc_c_2⟩ (lt_more (n := 1) ⟨_, _, jc_c_1⟩ (lt_more (n := 0) ⟨_, _, jc_c_0⟩ (fun b hb => absurd hb (Nat.not_lt_zero b)))))))))))))))
