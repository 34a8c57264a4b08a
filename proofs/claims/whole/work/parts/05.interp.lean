/-! THE SMALL MACHINE: an instruction, a block -/
section JX
variable {ρ : Type}
def jx_pi (st : List Value) (f : Int32 → List Value → Option ρ) : Option ρ := match st with
  | .int x :: r => f x r
  | _ => none
def jx_pl (st : List Value) (f : Int64 → List Value → Option ρ) : Option ρ := match st with
  | .long x :: r => f x r
  | _ => none
def jx_pr (st : List Value) (f : Nat → List Value → Option ρ) : Option ρ := match st with
  | .ref x :: r => f x r
  | _ => none
def jx_gi (ls : jL) (i : Nat) (f : Int32 → Option ρ) : Option ρ := match ls[i]? with
  | some (some (.int x)) => f x
  | _ => none
def jx_gl (ls : jL) (i : Nat) (f : Int64 → Option ρ) : Option ρ := match ls[i]? with
  | some (some (.long x)) => f x
  | _ => none
def jx_gr (ls : jL) (i : Nat) (f : Nat → Option ρ) : Option ρ := match ls[i]? with
  | some (some (.ref x)) => f x
  | _ => none
def jx_ck (b : Bool) (o : Option ρ) : Option ρ := match b with
  | true => o
  | false => none
def jx_cat (st : List Value) : Nat := (st.map fun v => v.category).sum
def jx_rc (rc : Nat) (as : List Value) (M : jM) (o : Option ρ) : Option ρ := match rc with
  | 0 => o
  | c + 1 => match as with
    | .ref a :: _ => if jm_k M a = c + 1 then o else none
    | _ => none
end JX
/-- the place ahead, if a long begins there, is lost -/
def jx_kill (ls : jL) (i : Nat) : jL := match i with
  | 0 => ls
  | j + 1 => match ls[j]? with
    | some (some (.long _)) => ls.set j none
    | some (some (.double _)) => ls.set j none
    | _ => ls
def jx_set1 (ls : jL) (i : Nat) (v : Value) : jL := (jx_kill ls i).set i (some v)
def jx_set2 (ls : jL) (i : Nat) (v : Value) : jL := ((jx_kill ls i).set i (some v)).set (i + 1) none
def jx_mk : List Bool → jL → jL
  | b :: bs, v :: vs => (match b with | true => v | false => none) :: jx_mk bs vs
  | _, vs => vs.map fun _ => none
def jx_en1 : List Value → jL
  | [] => []
  | .long x :: vs => some (.long x) :: none :: jx_en1 vs
  | .double x :: vs => some (.double x) :: none :: jx_en1 vs
  | v :: vs => some v :: jx_en1 vs
def jx_pad (n : Nat) (ls : jL) : jL := ls ++ List.replicate (n - ls.length) none
def jx_en (n : Nat) (as : List Value) : jL := jx_pad n (jx_en1 as)
def jx_ri (o : Option jR) (f : Int32 → jM → Option jR) : Option jR := match o with
  | some (some (.int x), M) => f x M
  | _ => none
def jx_rl (o : Option jR) (f : Int64 → jM → Option jR) : Option jR := match o with
  | some (some (.long x), M) => f x M
  | _ => none
def jx_rv (o : Option jR) (f : jM → Option jR) : Option jR := match o with
  | some (none, M) => f M
  | _ => none
/-- a call that may throw: 0 and its answer, or 1 -/
def jx_rt (o : Option jR) (f : Int32 → jM → Option jR) (g : jM → Option jR) : Option jR := match o with
  | some (some (.int x), M) => f x M
  | some (some .null, M) => g M
  | _ => none
/-- the kinds of calls: 0 void, 1 an int, 2 a long; 10 Object's; 11 .. 13 max, min, max of longs; 14, 15 a text's length, its char at; 16 the law's led -/
def jx_call (tx : Nat → List Int32) (D : Nat → List Value → jM → Option jR) (x : jX) (ls : jL) (st : List Value) (M : jM) (k : jL → List Value → jM → Option jR) : Option jR :=
  match x.2.2.2.2.1 with
  | 0 => jx_ck (Nat.ble (x.2.2.2.1) st.length) (jx_ck (Nat.ble (jx_cat (st.drop x.2.2.2.1)) 8) (jx_rc x.2.2.2.2.2 (st.take x.2.2.2.1).reverse M (jx_rv (D x.2.2.1 (st.take x.2.2.2.1).reverse M) fun M' => k ls (st.drop x.2.2.2.1) M')))
  | 1 => jx_ck (Nat.ble (x.2.2.2.1) st.length) (jx_ck (Nat.ble (jx_cat (st.drop x.2.2.2.1)) 8) (jx_rc x.2.2.2.2.2 (st.take x.2.2.2.1).reverse M (jx_ri (D x.2.2.1 (st.take x.2.2.2.1).reverse M) fun v M' => k ls (.int v :: st.drop x.2.2.2.1) M')))
  | 2 => jx_ck (Nat.ble (x.2.2.2.1) st.length) (jx_ck (Nat.ble (jx_cat (st.drop x.2.2.2.1)) 8) (jx_rc x.2.2.2.2.2 (st.take x.2.2.2.1).reverse M (jx_rl (D x.2.2.1 (st.take x.2.2.2.1).reverse M) fun v M' => k ls (.long v :: st.drop x.2.2.2.1) M')))
  | 10 => jx_pr st fun _ st => jx_ck (Nat.ble (jx_cat st) 8) (k ls st M)
  | 11 => jx_pi st fun b st => jx_pi st fun a st => jx_ck (Nat.ble (jx_cat st) 8) (k ls (.int (if a < b then b else a) :: st) M)
  | 12 => jx_pi st fun b st => jx_pi st fun a st => jx_ck (Nat.ble (jx_cat st) 8) (k ls (.int (if b < a then b else a) :: st) M)
  | 13 => jx_pl st fun b st => jx_pl st fun a st => jx_ck (Nat.ble (jx_cat st) 8) (k ls (.long (if b < a then a else b) :: st) M)
  | 14 => jx_pr st fun a st => jx_ck (Nat.ble (jx_cat st) 8) (if jm_k M a = 40 then k ls (.int (Int32.ofNat (tx a).length) :: st) M else none)
  | 15 => jx_pi st fun i st => jx_pr st fun a st => jx_ck (Nat.ble (jx_cat st) 8) (if jm_k M a = 40 then if i < 0 ∨ (tx a).length ≤ i.toNatClampNeg then none else k ls (.int ((tx a).getD i.toNatClampNeg 0) :: st) M else none)
  | 16 => jx_pr st fun o st => jx_pi st fun p st => jx_pr st fun a st => jx_ck (Nat.ble (jx_cat st) 8) (if jm_k M a = x.2.2.2.2.2 then if jm_k M o = 21 then
      jx_rt (D x.2.2.1 [.ref a, .int p] M) (fun v M' => if jm_z M' o = 0 then none else if jm_k M' o = 21 then k ls (.int 0 :: st) (jm_sl M' o 0 v.toInt64) else none) (fun M' => k ls (.int 1 :: st) M') else none else none)
  | _ => none
/-- where a switch goes: the least, the blocks, the block for all others -/
def jx_sw (t : Int × List Nat × Nat) (x : Int32) : Nat := if x.toInt < t.1 ∨ t.1 + t.2.1.length ≤ x.toInt then t.2.2 else t.2.1.getD (x.toInt - t.1).toNat 0
def jx_1 (tx : Nat → List Int32) (sw : Nat → Int × List Nat × Nat) (D : Nat → List Value → jM → Option jR) (J : Nat → jL → List Value → jM → Option jR) (x : jX) (ls : jL) (st : List Value) (M : jM) (k : jL → List Value → jM → Option jR) : Option jR :=
  match x.1 with
  | .aconst_null => k ls (.null :: st) M
  | .iconst _ => k ls (x.2.1 :: st) M
  | .lconst _ => k ls (x.2.1 :: st) M
  | .bipush _ => k ls (x.2.1 :: st) M
  | .sipush _ => k ls (x.2.1 :: st) M
  | .ldc _ => k ls (x.2.1 :: st) M
  | .ldc_w _ => k ls (x.2.1 :: st) M
  | .ldc2_w _ => k ls (x.2.1 :: st) M
  | .iload i => jx_gi ls i fun v => k ls (.int v :: st) M
  | .iload_n i => jx_gi ls i.val fun v => k ls (.int v :: st) M
  | .lload i => jx_gl ls i fun v => k ls (.long v :: st) M
  | .lload_n i => jx_gl ls i.val fun v => k ls (.long v :: st) M
  | .aload i => jx_gr ls i fun v => k ls (.ref v :: st) M
  | .aload_n i => jx_gr ls i.val fun v => k ls (.ref v :: st) M
  | .istore i => jx_pi st fun v st => jx_ck (Nat.blt i ls.length) (k (jx_set1 ls i (.int v)) st M)
  | .istore_n i => jx_pi st fun v st => jx_ck (Nat.blt i.val ls.length) (k (jx_set1 ls i.val (.int v)) st M)
  | .lstore i => jx_pl st fun v st => jx_ck (Nat.blt (i + 1) ls.length) (k (jx_set2 ls i (.long v)) st M)
  | .lstore_n i => jx_pl st fun v st => jx_ck (Nat.blt (i.val + 1) ls.length) (k (jx_set2 ls i.val (.long v)) st M)
  | .astore i => jx_pr st fun v st => jx_ck (Nat.blt i ls.length) (k (jx_set1 ls i (.ref v)) st M)
  | .astore_n i => jx_pr st fun v st => jx_ck (Nat.blt i.val ls.length) (k (jx_set1 ls i.val (.ref v)) st M)
  | .iinc i _ => jx_gi ls i fun v => match x.2.1 with
    | .int c => jx_ck (Nat.blt i ls.length) (k (jx_set1 ls i (.int (v + c))) st M)
    | _ => none
  | .iadd => jx_pi st fun b st => jx_pi st fun a st => k ls (.int (a + b) :: st) M
  | .isub => jx_pi st fun b st => jx_pi st fun a st => k ls (.int (a - b) :: st) M
  | .imul => jx_pi st fun b st => jx_pi st fun a st => k ls (.int (a * b) :: st) M
  | .idiv => jx_pi st fun b st => jx_pi st fun a st => if b = 0 then none else k ls (.int (a / b) :: st) M
  | .irem => jx_pi st fun b st => jx_pi st fun a st => if b = 0 then none else k ls (.int (a - a / b * b) :: st) M
  | .ineg => jx_pi st fun a st => k ls (.int (-a) :: st) M
  | .iand => jx_pi st fun b st => jx_pi st fun a st => k ls (.int (a &&& b) :: st) M
  | .ior => jx_pi st fun b st => jx_pi st fun a st => k ls (.int (a ||| b) :: st) M
  | .ixor => jx_pi st fun b st => jx_pi st fun a st => k ls (.int (a ^^^ b) :: st) M
  | .ishl => jx_pi st fun b st => jx_pi st fun a st => k ls (.int (a <<< (b &&& 31)) :: st) M
  | .ishr => jx_pi st fun b st => jx_pi st fun a st => k ls (.int (a >>> (b &&& 31)) :: st) M
  | .iushr => jx_pi st fun b st => jx_pi st fun a st => k ls (.int (a.toUInt32 >>> (b.toUInt32 &&& Int32.toUInt32 31)).toInt32 :: st) M
  | .ladd => jx_pl st fun b st => jx_pl st fun a st => k ls (.long (a + b) :: st) M
  | .lsub => jx_pl st fun b st => jx_pl st fun a st => k ls (.long (a - b) :: st) M
  | .lmul => jx_pl st fun b st => jx_pl st fun a st => k ls (.long (a * b) :: st) M
  | .ldiv => jx_pl st fun b st => jx_pl st fun a st => if b = 0 then none else k ls (.long (a / b) :: st) M
  | .lrem => jx_pl st fun b st => jx_pl st fun a st => if b = 0 then none else k ls (.long (a - a / b * b) :: st) M
  | .lshl => jx_pi st fun b st => jx_pl st fun a st => k ls (.long (a <<< (b.toInt64 &&& 63)) :: st) M
  | .lcmp => jx_pl st fun b st => jx_pl st fun a st => k ls (.int (lg_cmp a b) :: st) M
  | .i2l => jx_pi st fun a st => k ls (.long a.toInt64 :: st) M
  | .l2i => jx_pl st fun a st => k ls (.int a.toInt32 :: st) M
  | .i2b => jx_pi st fun a st => k ls (.int a.toInt8.toInt32 :: st) M
  | .dup => match st with
    | v :: st => jx_ck (Nat.beq v.category 1) (k ls (v :: v :: st) M)
    | _ => none
  | .pop => match st with
    | v :: st => jx_ck (Nat.beq v.category 1) (k ls st M)
    | _ => none
  | .dup2 => match st with
    | v :: w :: st => jx_ck (Nat.beq v.category 1) (jx_ck (Nat.beq w.category 1) (k ls (v :: w :: v :: w :: st) M))
    | _ => none
  | .dup_x1 => match st with
    | v :: w :: st => jx_ck (Nat.beq v.category 1) (jx_ck (Nat.beq w.category 1) (k ls (v :: w :: v :: st) M))
    | _ => none
  | .goto _ => J x.2.2.1 ls st M
  | .ifCond .eq _ => jx_pi st fun a st => if a = 0 then J x.2.2.1 ls st M else k ls st M
  | .ifCond .ne _ => jx_pi st fun a st => if a = 0 then k ls st M else J x.2.2.1 ls st M
  | .ifCond .lt _ => jx_pi st fun a st => if a < 0 then J x.2.2.1 ls st M else k ls st M
  | .ifCond .ge _ => jx_pi st fun a st => if 0 ≤ a then J x.2.2.1 ls st M else k ls st M
  | .ifCond .gt _ => jx_pi st fun a st => if 0 < a then J x.2.2.1 ls st M else k ls st M
  | .ifCond .le _ => jx_pi st fun a st => if a ≤ 0 then J x.2.2.1 ls st M else k ls st M
  | .if_icmp .eq _ => jx_pi st fun b st => jx_pi st fun a st => if a = b then J x.2.2.1 ls st M else k ls st M
  | .if_icmp .ne _ => jx_pi st fun b st => jx_pi st fun a st => if a = b then k ls st M else J x.2.2.1 ls st M
  | .if_icmp .lt _ => jx_pi st fun b st => jx_pi st fun a st => if a < b then J x.2.2.1 ls st M else k ls st M
  | .if_icmp .ge _ => jx_pi st fun b st => jx_pi st fun a st => if b ≤ a then J x.2.2.1 ls st M else k ls st M
  | .if_icmp .gt _ => jx_pi st fun b st => jx_pi st fun a st => if b < a then J x.2.2.1 ls st M else k ls st M
  | .if_icmp .le _ => jx_pi st fun b st => jx_pi st fun a st => if a ≤ b then J x.2.2.1 ls st M else k ls st M
  | .ifnull _ => match st with
    | .null :: st => J x.2.2.1 ls st M
    | .ref _ :: st => k ls st M
    | _ => none
  | .ifnonnull _ => match st with
    | .null :: st => k ls st M
    | .ref _ :: st => J x.2.2.1 ls st M
    | _ => none
  | .tableswitch _ _ _ _ => jx_pi st fun a st => J (jx_sw (sw x.2.2.1) a) ls st M
  | .getfield _ => jx_pr st fun a st => if jm_k M a = x.2.2.1 + 1 then (match x.2.2.2.2.1 with
    | 0 => k ls (.int (jm_i M a x.2.2.2.1) :: st) M
    | 1 => k ls (.long (jm_l M a x.2.2.2.1) :: st) M
    | 2 => if jm_r M a x.2.2.2.1 = 0 then none else k ls (.ref (jm_r M a x.2.2.2.1) :: st) M
    | 3 => if jm_r M a x.2.2.2.1 = 0 then k ls (.null :: st) M else k ls (.ref (jm_r M a x.2.2.2.1) :: st) M
    | _ => none) else none
  | .putfield _ => (match x.2.2.2.2.1 with
    | 0 => jx_pi st fun v st => jx_pr st fun a st => if jm_k M a = x.2.2.1 + 1 then k ls st (jm_si M a x.2.2.2.1 v) else none
    | 1 => jx_pl st fun v st => jx_pr st fun a st => if jm_k M a = x.2.2.1 + 1 then k ls st (jm_sl M a x.2.2.2.1 v) else none
    | 2 => jx_pr st fun v st => jx_pr st fun a st => if v = 0 then none else if jm_k M a = x.2.2.1 + 1 then k ls st (jm_sr M a x.2.2.2.1 v) else none
    | _ => none)
  | .new _ => (match x.2.2.2.2.1 with
    | 0 => k ls (.ref (jm_n M) :: st) (jm_new M (x.2.2.1 + 1) 0 x.2.2.2.1)
    | _ => jx_ck (Nat.beq (jx_cat st) 0) (some (some .null, (M.1, M.2.1, M.2.2.1, M.2.2.2.1, M.2.2.2.2.1, jm_n M + x.2.2.1, jm_w M + x.2.2.2.1))))
  | .newarray _ => jx_pi st fun n st => if n < 0 then none else if 1000000 ≤ n.toNatClampNeg then none else k ls (.ref (jm_n M) :: st) (jm_new M x.2.2.1 n.toNatClampNeg n.toNatClampNeg)
  | .arraylength => jx_pr st fun a st => if 20 ≤ jm_k M a ∧ jm_k M a ≤ 30 then k ls (.int (Int32.ofNat (jm_z M a)) :: st) M else none
  | .iaload => jx_pi st fun i st => jx_pr st fun a st => if jm_k M a = 20 ∨ jm_k M a = 30 then if i < 0 ∨ jm_z M a ≤ i.toNatClampNeg then none else k ls (.int (jm_i M a i.toNatClampNeg) :: st) M else none
  | .laload => jx_pi st fun i st => jx_pr st fun a st => if jm_k M a = 21 then if i < 0 ∨ jm_z M a ≤ i.toNatClampNeg then none else k ls (.long (jm_l M a i.toNatClampNeg) :: st) M else none
  | .baload => jx_pi st fun i st => jx_pr st fun a st => if jm_k M a = 22 then if i < 0 ∨ jm_z M a ≤ i.toNatClampNeg then none else k ls (.int (jm_i M a i.toNatClampNeg) :: st) M else none
  | .iastore => jx_pi st fun v st => jx_pi st fun i st => jx_pr st fun a st => if jm_k M a = 20 then if i < 0 ∨ jm_z M a ≤ i.toNatClampNeg then none else k ls st (jm_si M a i.toNatClampNeg v) else none
  | .lastore => jx_pl st fun v st => jx_pi st fun i st => jx_pr st fun a st => if jm_k M a = 21 then if i < 0 ∨ jm_z M a ≤ i.toNatClampNeg then none else k ls st (jm_sl M a i.toNatClampNeg v) else none
  | .bastore => jx_pi st fun v st => jx_pi st fun i st => jx_pr st fun a st => if jm_k M a = 22 then if i < 0 ∨ jm_z M a ≤ i.toNatClampNeg then none else k ls st (jm_si M a i.toNatClampNeg v.toInt8.toInt32) else none
  | .invokevirtual _ => jx_call tx D x ls st M k
  | .invokespecial _ => jx_call tx D x ls st M k
  | .invokestatic _ => jx_call tx D x ls st M k
  | .ireturn => (match st with
    | [.int v] => (match x.2.2.1 with
      | 0 => some (some (.int v), M)
      | _ => if v = 0 ∨ v = 1 then some (some (.int v), M) else none)
    | _ => none)
  | .lreturn => (match st with
    | [.long v] => some (some (.long v), M)
    | _ => none)
  | .return_ => (match st with
    | [] => some (none, M)
    | _ => none)
  | _ => none
def jx_ex (tx : Nat → List Int32) (sw : Nat → Int × List Nat × Nat) (D : Nat → List Value → jM → Option jR) (J : Nat → jL → List Value → jM → Option jR) (nx : Nat) : List jX → jL → List Value → jM → Option jR
  | [], ls, st, M => J nx ls st M
  | x :: xs, ls, st, M => jx_1 tx sw D J x ls st M (fun ls st M => jx_ex tx sw D J nx xs ls st M)
