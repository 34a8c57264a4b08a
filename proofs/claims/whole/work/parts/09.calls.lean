/-! NEW CELLS, ARRAYS, CALLS -/
def jc_okty : FieldType → Bool
  | .int => true
  | .long => true
  | .object _ => true
  | .array _ => true
  | _ => false
theorem jc_ty_ok : ∀ ci, ci < 13 → ∀ k, k < jc_N ci → jc_okty (jc_ty ci k) = true := by decide +kernel
theorem jc_arrI : Jvm.Cond.arrayClass .int ∈ jc_gw := jc_w_mem (i := 1049) (by decide +kernel)
theorem jc_arrJ : Jvm.Cond.arrayClass .long ∈ jc_gw := jc_w_mem (i := 1192) (by decide +kernel)
theorem jc_arrB : Jvm.Cond.arrayClass .byte ∈ jc_gw := jc_w_mem (i := 2052) (by decide +kernel)
theorem jc_fk0 {ci k : Nat} (h : jc_fk ci k = 0) : jc_ty ci k = .int := by
  unfold jc_fk at h
  cases hq : jc_ty ci k <;> rw [hq] at h <;> first | rfl | cases h
theorem jc_fk1 {ci k : Nat} (h : jc_fk ci k = 1) : jc_ty ci k = .long := by
  unfold jc_fk at h
  cases hq : jc_ty ci k <;> rw [hq] at h <;> first | rfl | cases h
theorem jc_fk2 {ci k : Nat} (hci : ci < 13) (hk : k < jc_N ci) (h : jc_fk ci k = 2) : (∃ s, jc_ty ci k = .object s) ∨ ∃ t, jc_ty ci k = .array t := by
  have h1 := jc_ty_ok ci hci k hk
  unfold jc_fk at h
  cases hq : jc_ty ci k <;> rw [hq] at h h1 <;> first | exact Or.inl ⟨_, rfl⟩ | exact Or.inr ⟨_, rfl⟩ | (simp [jc_okty] at h1; done) | (simp at h; done)
theorem jc_fk_le (ci k : Nat) : jc_fk ci k = 0 ∨ jc_fk ci k = 1 ∨ jc_fk ci k = 2 := by
  unfold jc_fk
  split <;> simp
theorem jw_store_i (cA : ClassId) (n k : Nat) (f g : Nat → Int32) (x : Int32) (hg : ∀ y, g y = if y = k then x else f y) : (vp_cell cA (n, .inl f)).setSlot k (.int x) = vp_cell cA (n, .inl g) := by
  rw [vp_cell_i, vp_cell_i, arrV_store]
  congr 1
  funext q
  rw [hg]
  unfold updV
  split <;> rfl
theorem jw_store_l (cA : ClassId) (n k : Nat) (f g : Nat → Int64) (x : Int64) (hg : ∀ y, g y = if y = k then x else f y) : (vp_cell cA (n, .inr (.inl f))).setSlot k (.long x) = vp_cell cA (n, .inr (.inl g)) := by
  rw [vp_cell_l, vp_cell_l, arrV_store]
  congr 1
  funext q
  rw [hg]
  unfold updV
  split <;> rfl
theorem jm_up_self {α : Type} (f : Nat → Nat → α) (a k : Nat) (v : α) (y : Nat) : jm_up f a k v a y = if y = k then v else f a y := by
  unfold jm_up
  by_cases h : y = k <;> simp [h]
theorem jm_up_ne {α : Type} (f : Nat → Nat → α) {a x : Nat} (k : Nat) (v : α) (h : x ≠ a) : jm_up f a k v x = f x := by
  funext y
  unfold jm_up
  rw [if_neg (fun q => h q.1)]
theorem jm_row_ne {α : Type} (f : Nat → Nat → α) {a x : Nat} (v : α) (h : x ≠ a) : jm_row f a v x = f x := by
  funext y
  unfold jm_row
  rw [if_neg h]
theorem jm_row_self {α : Type} (f : Nat → Nat → α) (a : Nat) (v : α) : jm_row f a v a = fun _ => v := by
  funext y
  unfold jm_row
  rw [if_pos rfl]
theorem jm_at_ne {α : Type} (f : Nat → α) {a x : Nat} (v : α) (h : x ≠ a) : jm_at f a v x = f x := if_neg h
theorem jm_at_self {α : Type} (f : Nat → α) (a : Nat) (v : α) : jm_at f a v a = v := if_pos rfl
section JS2
variable {p : Program} {l : Launch} {e : Env} {R : Room} {s s0 : State} {m : MethodId} {args : Array Value} {below : List Frame} {meth : Method} {c : Code} {Q : State → Prop} {D : va_G} {cI cJ cB : ClassId} {sp : Nat → Nat} {L b0 : Nat} {xs : Nat → Int32} {n0 w0 j : Nat}
variable {M : jM} {ls : jL} {st : List Value} {pc : Nat}
theorem js_new (Cc : jw_C s0 D cI cJ cB sp L b0 xs) (F : jw_F p s s0 m meth c j) {ci i : Nat} (hci : ci < vwCl.length) (hlink : (Cond.classLink (jt_on (jt_o j)) i (jc_C ci)).before args s = true) (hd : decode (jt_cc j) pc = .ok (.new i, 3))
    (hn : n0 ≤ jm_n M) (hw : w0 ≤ jm_w M) (hRc : jm_n M + 1 - n0 ≤ R.cells) (hRs : jm_w M + jc_N ci - w0 ≤ R.slots) (kk : jw_W p l e R s s0 m args below meth c Q D cI cJ cB sp L xs n0 w0 (jt_nl j) (jm_new M (ci + 1) 0 (jc_N ci)) ls (.ref (jm_n M) :: st) (pc + 3)) : jw_W p l e R s s0 m args below meth c Q D cI cJ cB sp L xs n0 w0 (jt_nl j) M ls st pc := fun H locs ar hH hL hl => by
  have hl13 : vwCl.length = 13 := rfl
  obtain ⟨hin, hnm, hty, hins, hini⟩ := jc_Cl_spec hci
  have hts := jw_ts (args := args) Cc F
  have hKn := (jw_K Cc F).1 ci _ (jc_cl_get hci)
  refine W.newcK F.1 F.2.1 F.2.2.2.1 hlink (hts _ hins) (hts _ hini) rfl hd (by omega) (by omega) hKn.2.1 rfl fun H1 kC hkC e1 z1 o1 => ?_
  have hb := u_born (jc_ty ci) hts hin hKn hkC e1 hty
  obtain ⟨M', hM'⟩ : ∃ M', M' = jm_new M (ci + 1) 0 (jc_N ci) := ⟨_, rfl⟩
  have hat : va_at D vwCl (H.size, jw_ent (jw_ad s0.heap.size sp) cI cJ cB M' (jm_n M)) H1 := by
    have ek : jm_k M' (jm_n M) = ci + 1 := by rw [hM']; exact jm_at_self _ _ _
    have ee : jw_ent (jw_ad s0.heap.size sp) cI cJ cB M' (jm_n M) = .inr (ci, jw_fs (jw_ad s0.heap.size sp) M' (jm_n M) ci) := by
      unfold jw_ent
      rw [ek, if_neg (by omega), if_neg (by omega), if_neg (by omega)]
      rfl
    rw [ee]
    refine ⟨_, jc_cl_get hci, hb.to fun k hk => ?_⟩
    unfold vp_V
    rw [List.getD_eq_getElem?_getD, jw_fs_get hk]
    show _ = jw_fv _ M' (jm_n M) ci k
    have ei : jm_i M' (jm_n M) = fun _ => 0 := by rw [hM']; exact jm_row_self _ _ _
    have el : jm_l M' (jm_n M) = fun _ => 0 := by rw [hM']; exact jm_row_self _ _ _
    have er : jm_r M' (jm_n M) = fun _ => 0 := by rw [hM']; exact jm_row_self _ _ _
    unfold jw_fv
    rcases jc_fk_le ci k with q | q | q
    · rw [q, jc_fk0 q, ei]; rfl
    · rw [q, jc_fk1 q, el]; rfl
    · rw [q, er]
      rcases jc_fk2 (by omega) hk q with ⟨t, h⟩ | ⟨t, h⟩ <;> rw [h] <;> rfl
  obtain ⟨hH', ea⟩ := jw_push hH (M' := M') (by rw [hM']; rfl) z1 o1 (fun x hx => by rw [hM']; exact jm_at_ne _ _ hx) (fun x hx => by rw [hM']; exact jm_at_ne _ _ hx) (fun x hx => by rw [hM']; exact jm_row_ne _ _ hx) (fun x hx => by rw [hM']; exact jm_row_ne _ _ hx) (fun x hx => by rw [hM']; exact jm_row_ne _ _ hx) hat
  have hk := kk H1 locs ar (hM' ▸ hH') hL hl
  rw [List.map_cons, show jw_v (jw_ad s0.heap.size sp) (.ref (jm_n M)) = .ref H.size by show Value.ref _ = _; rw [ea], show jm_n (jm_new M (ci + 1) 0 (jc_N ci)) - n0 = jm_n M - n0 + 1 by show jm_n M + 1 - n0 = _; omega, show jm_w (jm_new M (ci + 1) 0 (jc_N ci)) - w0 = jm_w M - w0 + jc_N ci by show jm_w M + jc_N ci - w0 = _; omega] at hk
  exact hk
theorem js_newa_int (Cc : jw_C s0 D cI cJ cB sp L b0 xs) (F : jw_F p s s0 m meth c j) {n : Int32} (hn : ¬ n < 0) (hN : ¬ 1000000 ≤ n.toNatClampNeg) (hd : decode (jt_cc j) pc = .ok (.newarray .int, 2))
    (hn0 : n0 ≤ jm_n M) (hw0 : w0 ≤ jm_w M) (hRc : jm_n M + 1 - n0 ≤ R.cells) (hRs : jm_w M + n.toNatClampNeg - w0 ≤ R.slots) (kk : jw_W p l e R s s0 m args below meth c Q D cI cJ cB sp L xs n0 w0 (jt_nl j) (jm_new M 20 n.toNatClampNeg n.toNatClampNeg) ls (.ref (jm_n M) :: st) (pc + 2)) : jw_W p l e R s s0 m args below meth c Q D cI cJ cB sp L xs n0 w0 (jt_nl j) M ls (.int n :: st) pc := fun H locs ar hH hL hl => by
  have hts := jw_ts (args := args) Cc F
  have hK := (jw_K Cc F).2 0 _ rfl
  refine va_newaK (atype := .int) F.1 F.2.1 (hts _ jc_arrI) rfl hd rfl hn rfl (by show n.toNatClampNeg * 4 ≤ _; omega) (by omega) (by omega) rfl fun H1 cA e1 z1 o1 hAr hNm => ?_
  have ecA : cA = cI := by
    have h2 : s.vm.findClass ("[" ++ (FieldType.int).toString) = some cI := hK.2
    have h3 : s.vm.findClass ("[" ++ (FieldType.int).toString) = some cA := hNm
    exact Option.some.inj (h3.symm.trans h2)
  subst ecA
  obtain ⟨M', hM'⟩ : ∃ M', M' = jm_new M 20 n.toNatClampNeg n.toNatClampNeg := ⟨_, rfl⟩
  have hat : va_at D vwCl (H.size, jw_ent (jw_ad s0.heap.size sp) cA cJ cB M' (jm_n M)) H1 := by
    have ek : jm_k M' (jm_n M) = 20 := by rw [hM']; exact jm_at_self _ _ _
    have ez : jm_z M' (jm_n M) = n.toNatClampNeg := by rw [hM']; exact jm_at_self _ _ _
    have er : jm_i M' (jm_n M) = fun _ => 0 := by rw [hM']; exact jm_row_self _ _ _
    have ee : jw_ent (jw_ad s0.heap.size sp) cA cJ cB M' (jm_n M) = .inl (cA, n.toNatClampNeg, .inl (jm_i M' (jm_n M))) := by
      unfold jw_ent
      rw [if_pos ek, ez]
    rw [ee, er]
    exact e1
  obtain ⟨hH', ea⟩ := jw_push hH (M' := M') (by rw [hM']; rfl) z1 o1 (fun x hx => by rw [hM']; exact jm_at_ne _ _ hx) (fun x hx => by rw [hM']; exact jm_at_ne _ _ hx) (fun x hx => by rw [hM']; exact jm_row_ne _ _ hx) (fun x hx => by rw [hM']; exact jm_row_ne _ _ hx) (fun x hx => by rw [hM']; exact jm_row_ne _ _ hx) hat
  have hk := kk H1 locs ar (hM' ▸ hH') hL hl
  rw [List.map_cons, show jw_v (jw_ad s0.heap.size sp) (.ref (jm_n M)) = .ref H.size by show Value.ref _ = _; rw [ea], show jm_n (jm_new M 20 n.toNatClampNeg n.toNatClampNeg) - n0 = jm_n M - n0 + 1 by show jm_n M + 1 - n0 = _; omega, show jm_w (jm_new M 20 n.toNatClampNeg n.toNatClampNeg) - w0 = jm_w M - w0 + n.toNatClampNeg by show jm_w M + n.toNatClampNeg - w0 = _; omega] at hk
  exact hk
theorem js_newa_long (Cc : jw_C s0 D cI cJ cB sp L b0 xs) (F : jw_F p s s0 m meth c j) {n : Int32} (hn : ¬ n < 0) (hN : ¬ 1000000 ≤ n.toNatClampNeg) (hd : decode (jt_cc j) pc = .ok (.newarray .long, 2))
    (hn0 : n0 ≤ jm_n M) (hw0 : w0 ≤ jm_w M) (hRc : jm_n M + 1 - n0 ≤ R.cells) (hRs : jm_w M + n.toNatClampNeg - w0 ≤ R.slots) (kk : jw_W p l e R s s0 m args below meth c Q D cI cJ cB sp L xs n0 w0 (jt_nl j) (jm_new M 21 n.toNatClampNeg n.toNatClampNeg) ls (.ref (jm_n M) :: st) (pc + 2)) : jw_W p l e R s s0 m args below meth c Q D cI cJ cB sp L xs n0 w0 (jt_nl j) M ls (.int n :: st) pc := fun H locs ar hH hL hl => by
  have hts := jw_ts (args := args) Cc F
  have hK := (jw_K Cc F).2 1 _ rfl
  refine va_newaK (atype := .long) F.1 F.2.1 (hts _ jc_arrJ) rfl hd rfl hn rfl (by show n.toNatClampNeg * 8 ≤ _; omega) (by omega) (by omega) rfl fun H1 cA e1 z1 o1 hAr hNm => ?_
  have ecA : cA = cJ := by
    have h2 : s.vm.findClass ("[" ++ (FieldType.long).toString) = some cJ := hK.2
    have h3 : s.vm.findClass ("[" ++ (FieldType.long).toString) = some cA := hNm
    exact Option.some.inj (h3.symm.trans h2)
  subst ecA
  obtain ⟨M', hM'⟩ : ∃ M', M' = jm_new M 21 n.toNatClampNeg n.toNatClampNeg := ⟨_, rfl⟩
  have hat : va_at D vwCl (H.size, jw_ent (jw_ad s0.heap.size sp) cI cA cB M' (jm_n M)) H1 := by
    have ek : jm_k M' (jm_n M) = 21 := by rw [hM']; exact jm_at_self _ _ _
    have ez : jm_z M' (jm_n M) = n.toNatClampNeg := by rw [hM']; exact jm_at_self _ _ _
    have er : jm_l M' (jm_n M) = fun _ => 0 := by rw [hM']; exact jm_row_self _ _ _
    have ee : jw_ent (jw_ad s0.heap.size sp) cI cA cB M' (jm_n M) = .inl (cA, n.toNatClampNeg, .inr (.inl (jm_l M' (jm_n M)))) := by
      unfold jw_ent
      rw [if_neg (by omega), if_pos ek, ez]
    rw [ee, er]
    exact e1
  obtain ⟨hH', ea⟩ := jw_push hH (M' := M') (by rw [hM']; rfl) z1 o1 (fun x hx => by rw [hM']; exact jm_at_ne _ _ hx) (fun x hx => by rw [hM']; exact jm_at_ne _ _ hx) (fun x hx => by rw [hM']; exact jm_row_ne _ _ hx) (fun x hx => by rw [hM']; exact jm_row_ne _ _ hx) (fun x hx => by rw [hM']; exact jm_row_ne _ _ hx) hat
  have hk := kk H1 locs ar (hM' ▸ hH') hL hl
  rw [List.map_cons, show jw_v (jw_ad s0.heap.size sp) (.ref (jm_n M)) = .ref H.size by show Value.ref _ = _; rw [ea], show jm_n (jm_new M 21 n.toNatClampNeg n.toNatClampNeg) - n0 = jm_n M - n0 + 1 by show jm_n M + 1 - n0 = _; omega, show jm_w (jm_new M 21 n.toNatClampNeg n.toNatClampNeg) - w0 = jm_w M - w0 + n.toNatClampNeg by show jm_w M + n.toNatClampNeg - w0 = _; omega] at hk
  exact hk
theorem js_newa_byte (Cc : jw_C s0 D cI cJ cB sp L b0 xs) (F : jw_F p s s0 m meth c j) {n : Int32} (hn : ¬ n < 0) (hN : ¬ 1000000 ≤ n.toNatClampNeg) (hd : decode (jt_cc j) pc = .ok (.newarray .byte, 2))
    (hn0 : n0 ≤ jm_n M) (hw0 : w0 ≤ jm_w M) (hRc : jm_n M + 1 - n0 ≤ R.cells) (hRs : jm_w M + n.toNatClampNeg - w0 ≤ R.slots) (kk : jw_W p l e R s s0 m args below meth c Q D cI cJ cB sp L xs n0 w0 (jt_nl j) (jm_new M 22 n.toNatClampNeg n.toNatClampNeg) ls (.ref (jm_n M) :: st) (pc + 2)) : jw_W p l e R s s0 m args below meth c Q D cI cJ cB sp L xs n0 w0 (jt_nl j) M ls (.int n :: st) pc := fun H locs ar hH hL hl => by
  have hts := jw_ts (args := args) Cc F
  have hK := (jw_K Cc F).2 2 _ rfl
  refine va_newaK (atype := .byte) F.1 F.2.1 (hts _ jc_arrB) rfl hd rfl hn rfl (by show n.toNatClampNeg * 1 ≤ _; omega) (by omega) (by omega) rfl fun H1 cA e1 z1 o1 hAr hNm => ?_
  have ecA : cA = cB := by
    have h2 : s.vm.findClass ("[" ++ (FieldType.byte).toString) = some cB := hK.2
    have h3 : s.vm.findClass ("[" ++ (FieldType.byte).toString) = some cA := hNm
    exact Option.some.inj (h3.symm.trans h2)
  subst ecA
  obtain ⟨M', hM'⟩ : ∃ M', M' = jm_new M 22 n.toNatClampNeg n.toNatClampNeg := ⟨_, rfl⟩
  have hat : va_at D vwCl (H.size, jw_ent (jw_ad s0.heap.size sp) cI cJ cA M' (jm_n M)) H1 := by
    have ek : jm_k M' (jm_n M) = 22 := by rw [hM']; exact jm_at_self _ _ _
    have ez : jm_z M' (jm_n M) = n.toNatClampNeg := by rw [hM']; exact jm_at_self _ _ _
    have er : jm_i M' (jm_n M) = fun _ => 0 := by rw [hM']; exact jm_row_self _ _ _
    have ee : jw_ent (jw_ad s0.heap.size sp) cI cJ cA M' (jm_n M) = .inl (cA, n.toNatClampNeg, .inl (jm_i M' (jm_n M))) := by
      unfold jw_ent
      rw [if_neg (by omega), if_neg (by omega), if_pos ek, ez]
    rw [ee, er]
    exact e1
  obtain ⟨hH', ea⟩ := jw_push hH (M' := M') (by rw [hM']; rfl) z1 o1 (fun x hx => by rw [hM']; exact jm_at_ne _ _ hx) (fun x hx => by rw [hM']; exact jm_at_ne _ _ hx) (fun x hx => by rw [hM']; exact jm_row_ne _ _ hx) (fun x hx => by rw [hM']; exact jm_row_ne _ _ hx) (fun x hx => by rw [hM']; exact jm_row_ne _ _ hx) hat
  have hk := kk H1 locs ar (hM' ▸ hH') hL hl
  rw [List.map_cons, show jw_v (jw_ad s0.heap.size sp) (.ref (jm_n M)) = .ref H.size by show Value.ref _ = _; rw [ea], show jm_n (jm_new M 22 n.toNatClampNeg n.toNatClampNeg) - n0 = jm_n M - n0 + 1 by show jm_n M + 1 - n0 = _; omega, show jm_w (jm_new M 22 n.toNatClampNeg n.toNatClampNeg) - w0 = jm_w M - w0 + n.toNatClampNeg by show jm_w M + n.toNatClampNeg - w0 = _; omega] at hk
  exact hk
theorem jw_arrI {H : Heap} {a : Nat} (hH : jw_H s0.heap D cI cJ cB sp L xs M H) (hk : jm_k M a = 20) : 100 ≤ a ∧ va_at D vwCl (jw_ad s0.heap.size sp a, .inl (cI, jm_z M a, .inl (jm_i M a))) H := by
  obtain ⟨h1, -, h3⟩ := jw_in hH hk (by omega) (by omega) (by omega)
  unfold jw_ent at h3
  rw [if_pos hk] at h3
  exact ⟨h1, h3⟩
theorem jw_arrJ {H : Heap} {a : Nat} (hH : jw_H s0.heap D cI cJ cB sp L xs M H) (hk : jm_k M a = 21) : 100 ≤ a ∧ va_at D vwCl (jw_ad s0.heap.size sp a, .inl (cJ, jm_z M a, .inr (.inl (jm_l M a)))) H := by
  obtain ⟨h1, -, h3⟩ := jw_in hH hk (by omega) (by omega) (by omega)
  unfold jw_ent at h3
  rw [if_neg (by omega), if_pos hk] at h3
  exact ⟨h1, h3⟩
theorem jw_arrB {H : Heap} {a : Nat} (hH : jw_H s0.heap D cI cJ cB sp L xs M H) (hk : jm_k M a = 22) : 100 ≤ a ∧ va_at D vwCl (jw_ad s0.heap.size sp a, .inl (cB, jm_z M a, .inl (jm_i M a))) H := by
  obtain ⟨h1, -, h3⟩ := jw_in hH hk (by omega) (by omega) (by omega)
  unfold jw_ent at h3
  rw [if_neg (by omega), if_neg (by omega), if_pos hk] at h3
  exact ⟨h1, h3⟩
theorem jw_scr {H : Heap} {a : Nat} (hH : jw_H s0.heap D cI cJ cB sp L xs M H) (hk : jm_k M a = 30) : a = 1 ∧ jm_z M a = L ∧ ∀ j, jm_i M a j = xs j := by
  obtain ⟨-, -, -, h4, h5⟩ := hH
  rcases Nat.lt_or_ge a 100 with q | q
  · rcases h4 a q with z | ⟨-, z1, z2, z3⟩ | ⟨z, -⟩
    · omega
    · exact ⟨z1, z2, z3⟩
    · omega
  · exfalso
    obtain ⟨-, h⟩ := h5 a q (by omega)
    unfold jw_ent at h
    rw [if_neg (by omega), if_neg (by omega), if_neg (by omega), hk] at h
    obtain ⟨r, hr, -⟩ := h
    have hl13 : vwCl.length = 13 := rfl
    have := (List.getElem?_eq_some_iff.mp hr).1
    have : 30 - 1 < vwCl.length := this
    omega
theorem jw_S {H : Heap} (hH : jw_H s0.heap D cI cJ cB sp L xs M H) {locs : List Loc} (hl : ∀ q ∈ locs, s0.heap.size ≤ q.base) : va_S (fun q => s0.heap.size ≤ q) s0.heap H locs :=
  ⟨by rw [hH.1]; exact Nat.le_add_right _ _, fun q h1 _ => hH.2.2.1 q h1, hl⟩
theorem js_iaload (Cc : jw_C s0 D cI cJ cB sp L b0 xs) (F : jw_F p s s0 m meth c j) {a : Nat} {i : Int32} (hk : jm_k M a = 20 ∨ jm_k M a = 30) (hi : ¬ (i < 0 ∨ jm_z M a ≤ i.toNatClampNeg)) (hd : decode (jt_cc j) pc = .ok (.iaload, 1)) (kk : jw_W p l e R s s0 m args below meth c Q D cI cJ cB sp L xs n0 w0 (jt_nl j) M ls (.int (jm_i M a i.toNatClampNeg) :: st) (pc + 1)) : jw_W p l e R s s0 m args below meth c Q D cI cJ cB sp L xs n0 w0 (jt_nl j) M ls (.int i :: .ref a :: st) pc := fun H locs ar hH hL hl => by
  rcases hk with hk | hk
  · exact va_iald F.1 F.2.1 (jw_K Cc F) (va_P1 (jw_arrI hH hk).2) 0 0 rfl rfl hi hd (kk H locs ar hH hL hl)
  · obtain ⟨rfl, e1, e2⟩ := jw_scr hH hk
    have h := kk H locs ar hH hL hl
    rw [e2] at h
    rw [e1] at hi
    have ea : jw_v (jw_ad s0.heap.size sp) (.ref 1) = .ref (sp 1) := by show Value.ref (jw_ad _ _ _) = _; unfold jw_ad; rw [if_pos (by omega)]
    rw [List.map_cons, List.map_cons, ea]
    exact va_sld F.1 F.2.1 (va_X.moved F.2.2.2.2.1.alike Cc.2.2.1) Cc.2.2.2.1 (Nat.not_le.mpr Cc.2.2.2.1) (jw_S hH hl) hi hd h
theorem js_laload (Cc : jw_C s0 D cI cJ cB sp L b0 xs) (F : jw_F p s s0 m meth c j) {a : Nat} {i : Int32} (hk : jm_k M a = 21) (hi : ¬ (i < 0 ∨ jm_z M a ≤ i.toNatClampNeg)) (hd : decode (jt_cc j) pc = .ok (.laload, 1)) (kk : jw_W p l e R s s0 m args below meth c Q D cI cJ cB sp L xs n0 w0 (jt_nl j) M ls (.long (jm_l M a i.toNatClampNeg) :: st) (pc + 1)) : jw_W p l e R s s0 m args below meth c Q D cI cJ cB sp L xs n0 w0 (jt_nl j) M ls (.int i :: .ref a :: st) pc := fun H locs ar hH hL hl =>
  va_lald F.1 F.2.1 (jw_K Cc F) (va_P1 (jw_arrJ hH hk).2) 0 1 rfl rfl hi hd (kk H locs ar hH hL hl)
theorem js_baload (Cc : jw_C s0 D cI cJ cB sp L b0 xs) (F : jw_F p s s0 m meth c j) {a : Nat} {i : Int32} (hk : jm_k M a = 22) (hi : ¬ (i < 0 ∨ jm_z M a ≤ i.toNatClampNeg)) (hd : decode (jt_cc j) pc = .ok (.baload, 1)) (kk : jw_W p l e R s s0 m args below meth c Q D cI cJ cB sp L xs n0 w0 (jt_nl j) M ls (.int (jm_i M a i.toNatClampNeg) :: st) (pc + 1)) : jw_W p l e R s s0 m args below meth c Q D cI cJ cB sp L xs n0 w0 (jt_nl j) M ls (.int i :: .ref a :: st) pc := fun H locs ar hH hL hl =>
  va_bald F.1 F.2.1 (jw_K Cc F) (va_P1 (jw_arrB hH hk).2) 0 2 rfl rfl hi hd (kk H locs ar hH hL hl)
theorem js_alen (Cc : jw_C s0 D cI cJ cB sp L b0 xs) (F : jw_F p s s0 m meth c j) {a : Nat} (hk : 20 ≤ jm_k M a ∧ jm_k M a ≤ 30) (hd : decode (jt_cc j) pc = .ok (.arraylength, 1)) (kk : jw_W p l e R s s0 m args below meth c Q D cI cJ cB sp L xs n0 w0 (jt_nl j) M ls (.int (Int32.ofNat (jm_z M a)) :: st) (pc + 1)) : jw_W p l e R s s0 m args below meth c Q D cI cJ cB sp L xs n0 w0 (jt_nl j) M ls (.ref a :: st) pc := fun H locs ar hH hL hl => by
  have h := kk H locs ar hH hL hl
  by_cases k0 : jm_k M a = 20
  · exact va_alen F.1 F.2.1 (jw_K Cc F) (va_P1 (jw_arrI hH k0).2) 0 0 rfl rfl rfl hd h
  by_cases k1 : jm_k M a = 21
  · exact va_alen F.1 F.2.1 (jw_K Cc F) (va_P1 (jw_arrJ hH k1).2) 0 1 rfl rfl rfl hd h
  by_cases k2 : jm_k M a = 22
  · exact va_alen F.1 F.2.1 (jw_K Cc F) (va_P1 (jw_arrB hH k2).2) 0 2 rfl rfl rfl hd h
  by_cases k3 : jm_k M a = 30
  · obtain ⟨rfl, e1, e2⟩ := jw_scr hH k3
    rw [e1] at h
    have ea : jw_v (jw_ad s0.heap.size sp) (.ref 1) = .ref (sp 1) := by show Value.ref (jw_ad _ _ _) = _; unfold jw_ad; rw [if_pos (by omega)]
    rw [List.map_cons, ea]
    exact va_slen F.1 F.2.1 (va_X.moved F.2.2.2.2.1.alike Cc.2.2.1) Cc.2.2.2.1 (Nat.not_le.mpr Cc.2.2.2.1) (jw_S hH hl) hd h
  · exfalso
    obtain ⟨-, -, h3⟩ := jw_in hH rfl (by omega) k3 (by omega)
    unfold jw_ent at h3
    rw [if_neg k0, if_neg k1, if_neg k2] at h3
    obtain ⟨r, hr, -⟩ := h3
    have hl13 : vwCl.length = 13 := rfl
    have : jm_k M a - 1 < vwCl.length := (List.getElem?_eq_some_iff.mp hr).1
    omega
theorem js_iastore (Cc : jw_C s0 D cI cJ cB sp L b0 xs) (F : jw_F p s s0 m meth c j) {a : Nat} {i x : Int32} (hk : jm_k M a = 20) (hi : ¬ (i < 0 ∨ jm_z M a ≤ i.toNatClampNeg)) (hd : decode (jt_cc j) pc = .ok (.iastore, 1)) (kk : jw_W p l e R s s0 m args below meth c Q D cI cJ cB sp L xs n0 w0 (jt_nl j) (jm_si M a i.toNatClampNeg x) ls st (pc + 1)) : jw_W p l e R s s0 m args below meth c Q D cI cJ cB sp L xs n0 w0 (jt_nl j) M ls (.int x :: .int i :: .ref a :: st) pc := fun H locs ar hH hL hl => by
  obtain ⟨h1, h3⟩ := jw_arrI hH hk
  refine W.iast F.1 F.2.1 h3 (((jw_K Cc F).2 0 _ rfl).1 _ (fun j => .int (jm_i M a j))) (fun q => by cases q) (by show ¬ (i < 0 ∨ (arrV _ _ _).slots.size ≤ _); rw [arrV_size]; exact hi) rfl rfl hd fun H1 e1 z1 o1 => ?_
  refine kk H1 _ ar (jw_set hH h1 rfl rfl rfl (fun y hy => jm_up_ne _ _ _ hy) (fun _ _ => rfl) (fun _ _ => rfl) z1 o1 ?_) hL (fun q hq => ?_)
  · have ee : jw_ent (jw_ad s0.heap.size sp) cI cJ cB (jm_si M a i.toNatClampNeg x) a = .inl (cI, jm_z M a, .inl (jm_i (jm_si M a i.toNatClampNeg x) a)) := by
      unfold jw_ent
      exact if_pos hk
    rw [ee]
    show H1[_]? = some (vp_cell _ _)
    rw [e1]
    exact congrArg some (jw_store_i _ _ _ _ _ _ (fun y => jm_up_self _ _ _ _ _))
  · rcases List.mem_append.mp hq with hq | hq
    · exact hl q hq
    · rw [List.mem_singleton.mp hq]
      show s0.heap.size ≤ jw_ad s0.heap.size sp a
      rw [jw_ad_hi h1]; exact Nat.le_add_right _ _
theorem js_lastore (Cc : jw_C s0 D cI cJ cB sp L b0 xs) (F : jw_F p s s0 m meth c j) {a : Nat} {i : Int32} {x : Int64} (hk : jm_k M a = 21) (hi : ¬ (i < 0 ∨ jm_z M a ≤ i.toNatClampNeg)) (hd : decode (jt_cc j) pc = .ok (.lastore, 1)) (kk : jw_W p l e R s s0 m args below meth c Q D cI cJ cB sp L xs n0 w0 (jt_nl j) (jm_sl M a i.toNatClampNeg x) ls st (pc + 1)) : jw_W p l e R s s0 m args below meth c Q D cI cJ cB sp L xs n0 w0 (jt_nl j) M ls (.long x :: .int i :: .ref a :: st) pc := fun H locs ar hH hL hl => by
  obtain ⟨h1, h3⟩ := jw_arrJ hH hk
  refine W.last F.1 F.2.1 h3 (((jw_K Cc F).2 1 _ rfl).1 _ (fun j => .long (jm_l M a j))) (fun q => by cases q) (by show ¬ (i < 0 ∨ (arrV _ _ _).slots.size ≤ _); rw [arrV_size]; exact hi) rfl rfl hd fun H1 e1 z1 o1 => ?_
  refine kk H1 _ ar (jw_set hH h1 rfl rfl rfl (fun _ _ => rfl) (fun y hy => jm_up_ne _ _ _ hy) (fun _ _ => rfl) z1 o1 ?_) hL (fun q hq => ?_)
  · have ee : jw_ent (jw_ad s0.heap.size sp) cI cJ cB (jm_sl M a i.toNatClampNeg x) a = .inl (cJ, jm_z M a, .inr (.inl (jm_l (jm_sl M a i.toNatClampNeg x) a))) := by
      unfold jw_ent
      rw [if_neg (by show ¬ jm_k M a = 20; omega)]
      exact if_pos hk
    rw [ee]
    show H1[_]? = some (vp_cell _ _)
    rw [e1]
    exact congrArg some (jw_store_l _ _ _ _ _ _ (fun y => jm_up_self _ _ _ _ _))
  · rcases List.mem_append.mp hq with hq | hq
    · exact hl q hq
    · rw [List.mem_singleton.mp hq]
      show s0.heap.size ≤ jw_ad s0.heap.size sp a
      rw [jw_ad_hi h1]; exact Nat.le_add_right _ _
theorem js_bastore (Cc : jw_C s0 D cI cJ cB sp L b0 xs) (F : jw_F p s s0 m meth c j) {a : Nat} {i x : Int32} (hk : jm_k M a = 22) (hi : ¬ (i < 0 ∨ jm_z M a ≤ i.toNatClampNeg)) (hd : decode (jt_cc j) pc = .ok (.bastore, 1)) (kk : jw_W p l e R s s0 m args below meth c Q D cI cJ cB sp L xs n0 w0 (jt_nl j) (jm_si M a i.toNatClampNeg x.toInt8.toInt32) ls st (pc + 1)) : jw_W p l e R s s0 m args below meth c Q D cI cJ cB sp L xs n0 w0 (jt_nl j) M ls (.int x :: .int i :: .ref a :: st) pc := fun H locs ar hH hL hl => by
  obtain ⟨h1, h3⟩ := jw_arrB hH hk
  refine W.bast F.1 F.2.1 h3 (((jw_K Cc F).2 2 _ rfl).1 _ (fun j => .int (jm_i M a j))) (fun q => by cases q) (by show ¬ (i < 0 ∨ (arrV _ _ _).slots.size ≤ _); rw [arrV_size]; exact hi) rfl rfl hd fun H1 e1 z1 o1 => ?_
  refine kk H1 _ ar (jw_set hH h1 rfl rfl rfl (fun y hy => jm_up_ne _ _ _ hy) (fun _ _ => rfl) (fun _ _ => rfl) z1 o1 ?_) hL (fun q hq => ?_)
  · have ee : jw_ent (jw_ad s0.heap.size sp) cI cJ cB (jm_si M a i.toNatClampNeg x.toInt8.toInt32) a = .inl (cB, jm_z M a, .inl (jm_i (jm_si M a i.toNatClampNeg x.toInt8.toInt32) a)) := by
      unfold jw_ent
      rw [if_neg (by show ¬ jm_k M a = 20; omega), if_neg (by show ¬ jm_k M a = 21; omega)]
      exact if_pos hk
    rw [ee]
    show H1[_]? = some (vp_cell _ _)
    rw [e1, narrow_byte]
    exact congrArg some (jw_store_i _ _ _ _ _ _ (fun y => jm_up_self _ _ _ _ _))
  · rcases List.mem_append.mp hq with hq | hq
    · exact hl q hq
    · rw [List.mem_singleton.mp hq]
      show s0.heap.size ≤ jw_ad s0.heap.size sp a
      rw [jw_ad_hi h1]; exact Nat.le_add_right _ _
/-! calls -/
def jw_rm (jj : Nat) (M : jM) (q : jR) : Room := { frames := jt_rk jj, cells := jm_n q.2 - jm_n M, slots := jm_w q.2 - jm_w M, locals := 40 * jt_rk jj }
def jw_Pc (s0 : State) (D : va_G) (cI cJ cB : ClassId) (sp : Nat → Nat) (L : Nat) (xs : Nat → Int32) (as : List Value) (M : jM) : Array Value → State → Prop := fun v U => v = (as.map (jw_v (jw_ad s0.heap.size sp))).toArray ∧ jw_H s0.heap D cI cJ cB sp L xs M U.heap ∧ s0.WarmedH U.vm
def jw_Qc (s0 : State) (D : va_G) (cI cJ cB : ClassId) (sp : Nat → Nat) (L : Nat) (xs : Nat → Int32) (q : jR) : Array Value → State → Outcome → State → Prop := fun _ _ o t => o = .returned (q.1.map (jw_v (jw_ad s0.heap.size sp))) ∧ jw_H s0.heap D cI cJ cB sp L xs q.2 t.heap
def jw_Met (l : Launch) (s0 : State) (D : va_G) (cI cJ cB : ClassId) (sp : Nat → Nat) (L : Nat) (xs : Nat → Int32) (jj : Nat) (as : List Value) (M : jM) (q : jR) : Prop :=
  Met l (jt_y jj) [Cond.code (jt_y jj) (jt_cc jj) (jt_nl jj) (jt_ret jj)] (jw_rm jj M q) (jw_Pc s0 D cI cJ cB sp L xs as M) (jw_Qc s0 D cI cJ cB sp L xs q) (jm_n q.2 - jm_n M) (jm_w q.2 - jm_w M) (fun a => s0.heap.size ≤ a)
theorem js_run {H : Heap} {locs : List Loc} {ar : Array Slot} {q : jR} {a : Array Value} {st0 rest : List Value} (hrun : va_Run p l e R s m args below meth c H locs (jm_n M - n0) (jm_w M - w0) (jm_n q.2 - jm_n M) (jm_w q.2 - jm_w M) (F0 m pc ar st0) (rest.map (jw_v (jw_ad s0.heap.size sp))) (jw_Qc s0 D cI cJ cB sp L xs q a) (fun a => s0.heap.size ≤ a))
    (hn : n0 ≤ jm_n M) (hw : w0 ≤ jm_w M) (hn2 : jm_n M ≤ jm_n q.2) (hw2 : jm_w M ≤ jm_w q.2) (hL : jw_L (jw_ad s0.heap.size sp) (jt_nl j) ls ar) (hl : ∀ q ∈ locs, s0.heap.size ≤ q.base)
    (kk : jw_W p l e R s s0 m args below meth c Q D cI cJ cB sp L xs n0 w0 (jt_nl j) q.2 ls (q.1.toList ++ rest) (pc + 3)) : W p l e R s m args below meth c H locs (jm_n M - n0) (jm_w M - w0) Q (F0 m pc ar st0) := by
  intro T hT X
  obtain ⟨v, st₀, t, T', L', h0, X', hL', e1, e2, ⟨hq, hH'⟩, stp⟩ := hrun T hT X
  cases hq
  have h := kk t.heap (locs ++ L') ar hH' hL (fun q hq => (List.mem_append.mp hq).elim (hl q) (hL' q))
  rw [show jm_n q.2 - n0 = jm_n M - n0 + (jm_n q.2 - jm_n M) by omega, show jm_w q.2 - w0 = jm_w M - w0 + (jm_w q.2 - jm_w M) by omega] at h
  obtain ⟨t2, a1, b1⟩ := h T' e1 X'
  refine ⟨t2, stp t2 ?_, b1⟩
  have es : (q.1.toList ++ rest).map (jw_v (jw_ad s0.heap.size sp)) = (q.1.map (jw_v (jw_ad s0.heap.size sp))).toList ++ rest.map (jw_v (jw_ad s0.heap.size sp)) := by
    rw [List.map_append]
    cases q.1 <;> rfl
  rw [es] at a1
  exact a1
theorem jc_code_good {jj : Nat} (h : jj < jt_law) : Cond.code (jt_y jj) (jt_cc jj) (jt_nl jj) (jt_ret jj) ∈ jc_gw := List.mem_filter.mpr ⟨jc_code_ok jj h, rfl⟩
theorem jc_st_ok : jt_ws.all (fun q => Nat.ble q.1 1) = true := by decide +kernel
theorem jc_st_le (jj : Nat) : (jt_ws.getD jj (0, 0, 0, 0, 0)).1 ≤ 1 := by
  rw [List.getD_eq_getElem?_getD]
  cases hq : jt_ws[jj]? with
  | none => exact Nat.zero_le _
  | some w => exact Nat.le_of_ble_eq_true (List.all_eq_true.mp jc_st_ok w (List.mem_of_getElem? hq))
theorem jc_M_spec {jj : Nat} (h : jj < jt_law) : Cond.initialized (jt_y jj).cls ∈ jc_gw ∧ jt_nl jj ≤ 21 ∧ ((jt_y jj).cls ≠ "java/lang/invoke/MethodHandle" ∧ (jt_y jj).cls ≠ "java/lang/invoke/VarHandle") ∧ jt_on (jt_o jj) = (jt_y jj).cls ∧
    ((jc_inst jj = false ∧ Cond.static (jt_y jj) ∈ jc_gw ∧ (parseMethodDescriptor (jt_y jj).desc).map (fun d => d.parameters.length) = some (jt_na jj)) ∨
     (jc_inst jj = true ∧ Cond.instanceMethod (jt_y jj) ∈ jc_gw ∧ ((jt_y jj).name ≠ "<init>" → Cond.selects (jt_y jj).cls (jt_y jj) (jt_y jj) ∈ jc_gw) ∧ (parseMethodDescriptor (jt_y jj).desc).map (fun d => d.parameters.length + 1) = some (jt_na jj))) := by
  have hm := jc_M_ok jj h
  have hle := jc_st_le jj
  unfold jc_M at hm
  unfold jc_inst
  generalize jt_ws.getD jj (0, 0, 0, 0, 0) = w at hm hle ⊢
  obtain ⟨st, wc, wi, ws, wn⟩ := w
  simp only [Bool.and_eq_true, decide_eq_true_eq] at hm
  obtain ⟨⟨⟨⟨h1, h2⟩, h3⟩, h4⟩, h5⟩ := hm
  refine ⟨jc_w_mem h1, Nat.le_of_ble_eq_true h2, h3, h4, ?_⟩
  match st, hle, h5 with
  | 0, _, h5 =>
    simp only [Bool.and_eq_true, decide_eq_true_eq] at h5
    exact Or.inl ⟨rfl, jc_w_mem h5.1, h5.2⟩
  | 1, _, h5 =>
    simp only [Bool.and_eq_true, Bool.or_eq_true, decide_eq_true_eq] at h5
    exact Or.inr ⟨rfl, jc_w_mem h5.1.1, fun hne => h5.1.2.elim (fun q => absurd q hne) jc_w_mem, h5.2⟩
theorem goodIn_l {ws : List Cond} (h : ∀ w ∈ ws, w ∈ jc_gw ∧ goodWord w = true) : GoodIn jc_gw ws := fun w hw => jc_good_in (h w hw).1 (h w hw).2
theorem jc_room {jj : Nat} (h : jj < jt_law) (hr : jt_rk jj < jt_rk j) (hRf : jt_rk j ≤ R.frames) (hRl : 40 * jt_rk j ≤ R.locals) (q : jR) : (jw_rm jj M q).frames + 1 ≤ R.frames ∧ 8 + (jt_nl jj + 11) + (jw_rm jj M q).locals ≤ R.locals := by
  have h1 := (jc_M_spec h).2.1
  refine ⟨by show jt_rk jj + 1 ≤ _; omega, by show 8 + (jt_nl jj + 11) + 40 * jt_rk jj ≤ _; omega⟩
theorem js_callfix (Cc : jw_C s0 D cI cJ cB sp L b0 xs) (F : jw_F p s s0 m meth c j) : CallFix p m c (jt_cc j) (jt_nl j) s args jc_gw (jt_on (jt_o j)) := ⟨F.1, F.2.1, F.2.2.1, F.2.2.2.1, jw_ts Cc F⟩
theorem js_pc {H : Heap} (F : jw_F p s s0 m meth c j) (hH : jw_H s0.heap D cI cJ cB sp L xs M H) (as : List Value) : FrameBlind (jw_Pc s0 D cI cJ cB sp L xs as M) ∧ ∀ U : State, U.heap = H → s.WarmedH U.vm → jw_Pc s0 D cI cJ cB sp L xs as M (as.map (jw_v (jw_ad s0.heap.size sp))).toArray U :=
  ⟨fun a U g mk h => h, fun U hU hW => ⟨rfl, by rw [hU]; exact hH, State.WarmedH.trans F.2.2.2.2.1 hW⟩⟩
theorem jx_stk {st : List Value} {n : Nat} (h : n ≤ st.length) : ((st.take n).reverse).reverse ++ st.drop n = st := by rw [List.reverse_reverse]; exact List.take_append_drop n st
/-- a virtual call of one of ours -/
theorem js_callV (Cc : jw_C s0 D cI cJ cB sp L b0 xs) (F : jw_F p s s0 m meth c j) {jj ci i : Nat} {as rest : List Value} {a : Nat} {q : jR} (hjj : jj < jt_law) (hinst : jc_inst jj = true) (hname : (jt_y jj).name ≠ "<init>") (hci : ci < vwCl.length) (hcls : jc_C ci = (jt_y jj).cls) (hka : jm_k M a = ci + 1) (hna : as.length + 1 = jt_na jj)
    (hlink : (Cond.methodLink (jt_on (jt_o j)) i (jt_y jj)) ∈ jc_gw) (hM : jw_Met l s0 D cI cJ cB sp L xs jj (.ref a :: as) M q) (hr : jt_rk jj < jt_rk j) (hRf : jt_rk j ≤ R.frames) (hRl : 40 * jt_rk j ≤ R.locals)
    (hn : n0 ≤ jm_n M) (hw : w0 ≤ jm_w M) (hn2 : jm_n M ≤ jm_n q.2) (hw2 : jm_w M ≤ jm_w q.2) (hRc : jm_n q.2 - n0 ≤ R.cells) (hRs : jm_w q.2 - w0 ≤ R.slots) (hcat : jx_cat rest ≤ 8) (hd : decode (jt_cc j) pc = .ok (.invokevirtual i, 3))
    (kk : jw_W p l e R s s0 m args below meth c Q D cI cJ cB sp L xs n0 w0 (jt_nl j) q.2 ls (q.1.toList ++ rest) (pc + 3)) : jw_W p l e R s s0 m args below meth c Q D cI cJ cB sp L xs n0 w0 (jt_nl j) M ls (as.reverse ++ .ref a :: rest) pc := fun H locs ar hH hL hl => by
  obtain ⟨g1, g2, g3, g4, g5⟩ := jc_M_spec hjj
  rcases g5 with ⟨g5, -⟩ | ⟨-, g5, g6, g7⟩
  · rw [hinst] at g5; cases g5
  obtain ⟨h1, h2, h3⟩ := jw_obj hH hka hci
  have hts := jw_ts (args := args) Cc F
  have hn3 : (parseMethodDescriptor (jt_y jj).desc).map (fun d => d.parameters.length) = some as.length := by
    cases hq : parseMethodDescriptor (jt_y jj).desc with
    | none => rw [hq] at g7; cases g7
    | some d =>
      rw [hq] at g7
      have : d.parameters.length + 1 = jt_na jj := Option.some.inj g7
      show some d.parameters.length = some as.length
      congr 1
      omega
  have cw : CallW R s args (jt_on (jt_o j)) (jt_y jj).cls i (jt_y jj) (jt_cc jj) (jt_nl jj) (jt_ret jj) [Cond.code (jt_y jj) (jt_cc jj) (jt_nl jj) (jt_ret jj)] (jw_rm jj M q) (jm_n q.2 - jm_n M) (jm_w q.2 - jm_w M) as.length :=
    cwV as.length hts (goodIn_l fun w hw => by
      simp only [wsV, List.mem_append, List.mem_cons, List.not_mem_nil, or_false] at hw
      rcases hw with (rfl | rfl | rfl | rfl) | rfl
      · exact ⟨hlink, rfl⟩
      · exact ⟨g5, rfl⟩
      · exact ⟨g6 hname, rfl⟩
      · exact ⟨g1, rfl⟩
      · exact ⟨jc_code_good hjj, rfl⟩) rfl rfl rfl ⟨rfl, g3.1, g3.2, hn3⟩ (jc_room hjj hr hRf hRl q)
  obtain ⟨p1, p2⟩ := js_pc F hH (.ref a :: as)
  have hrecv := va_recv (jw_K Cc F) (va_P1 h3) (jc_cl_get hci) (q0 := 0) rfl
  refine js_run (rest := rest) (va_runV (js_callfix Cc F) hM cw ⟨p1, by rw [← hcls]; exact hrecv, p2⟩ rfl (by rw [List.length_map]) hL.2.1 (by show (as.reverse ++ Value.ref a :: rest).map _ = _; rw [List.map_append, List.map_reverse]; rfl) (by rw [jw_cats]; show 2 * 0 + _ ≤ 8; omega) hd ⟨by omega, by omega⟩) hn hw hn2 hw2 hL hl kk
theorem js_callVN (Cc : jw_C s0 D cI cJ cB sp L b0 xs) (F : jw_F p s s0 m meth c j) {jj ci i : Nat} {host : String} {as rest : List Value} {a : Nat} {q : jR} (hjj : jj < jt_law) (hinst : jc_inst jj = true) (hname : (jt_y jj).name ≠ "<init>") (hci : ci < vwCl.length) (hcls : jc_C ci = (jt_y jj).cls) (hka : jm_k M a = ci + 1) (hna : as.length + 1 = jt_na jj)
    (hlink : (Cond.methodLinkNest (jt_on (jt_o j)) i (jt_y jj) host) ∈ jc_gw) (hM : jw_Met l s0 D cI cJ cB sp L xs jj (.ref a :: as) M q) (hr : jt_rk jj < jt_rk j) (hRf : jt_rk j ≤ R.frames) (hRl : 40 * jt_rk j ≤ R.locals)
    (hn : n0 ≤ jm_n M) (hw : w0 ≤ jm_w M) (hn2 : jm_n M ≤ jm_n q.2) (hw2 : jm_w M ≤ jm_w q.2) (hRc : jm_n q.2 - n0 ≤ R.cells) (hRs : jm_w q.2 - w0 ≤ R.slots) (hcat : jx_cat rest ≤ 8) (hd : decode (jt_cc j) pc = .ok (.invokevirtual i, 3))
    (kk : jw_W p l e R s s0 m args below meth c Q D cI cJ cB sp L xs n0 w0 (jt_nl j) q.2 ls (q.1.toList ++ rest) (pc + 3)) : jw_W p l e R s s0 m args below meth c Q D cI cJ cB sp L xs n0 w0 (jt_nl j) M ls (as.reverse ++ .ref a :: rest) pc := fun H locs ar hH hL hl => by
  obtain ⟨g1, g2, g3, g4, g5⟩ := jc_M_spec hjj
  rcases g5 with ⟨g5, -⟩ | ⟨-, g5, g6, g7⟩
  · rw [hinst] at g5; cases g5
  obtain ⟨h1, h2, h3⟩ := jw_obj hH hka hci
  have hts := jw_ts (args := args) Cc F
  have hn3 : (parseMethodDescriptor (jt_y jj).desc).map (fun d => d.parameters.length) = some as.length := by
    cases hq : parseMethodDescriptor (jt_y jj).desc with
    | none => rw [hq] at g7; cases g7
    | some d =>
      rw [hq] at g7
      have : d.parameters.length + 1 = jt_na jj := Option.some.inj g7
      show some d.parameters.length = some as.length
      congr 1
      omega
  have cw : va_CN R s args (jt_on (jt_o j)) i (jt_y jj) host (jt_cc jj) (jt_nl jj) (jt_ret jj) [Cond.code (jt_y jj) (jt_cc jj) (jt_nl jj) (jt_ret jj)] (jw_rm jj M q) (jm_n q.2 - jm_n M) (jm_w q.2 - jm_w M) as.length :=
    va_cnB as.length hts (goodIn_l fun w hw => by
      simp only [List.mem_cons, List.not_mem_nil, or_false] at hw
      rw [hw]
      exact ⟨jc_code_good hjj, rfl⟩) rfl rfl rfl (va_Nw.of rfl (hts _ hlink)) (hts _ g1) ⟨g3.1, g3.2, hn3⟩ (jc_room hjj hr hRf hRl q)
  obtain ⟨p1, p2⟩ := js_pc F hH (.ref a :: as)
  have hrecv := va_recv (jw_K Cc F) (va_P1 h3) (jc_cl_get hci) (q0 := 0) rfl
  refine js_run (rest := rest) (va_runVN (C := (jt_y jj).cls) (js_callfix Cc F) hM ⟨cw, hts _ g5, hts _ (g6 hname)⟩ ⟨p1, by rw [← hcls]; exact hrecv, p2⟩ rfl (by rw [List.length_map]) hL.2.1 (by show (as.reverse ++ Value.ref a :: rest).map _ = _; rw [List.map_append, List.map_reverse]; rfl) (by rw [jw_cats]; show 2 * 0 + _ ≤ 8; omega) hd ⟨by omega, by omega⟩) hn hw hn2 hw2 hL hl kk
/-- a constructor -/
theorem js_callI (Cc : jw_C s0 D cI cJ cB sp L b0 xs) (F : jw_F p s s0 m meth c j) {jj i : Nat} {as rest : List Value} {a : Nat} {q : jR} (hjj : jj < jt_law) (hinst : jc_inst jj = true) (hname : (jt_y jj).name = "<init>") (hret : jt_ret jj = none) (hna : as.length + 1 = jt_na jj)
    (hlink : (Cond.methodLink (jt_on (jt_o j)) i (jt_y jj)) ∈ jc_gw ∨ ∃ host, (Cond.methodLinkNest (jt_on (jt_o j)) i (jt_y jj) host) ∈ jc_gw) (hM : jw_Met l s0 D cI cJ cB sp L xs jj (.ref a :: as) M q) (hr : jt_rk jj < jt_rk j) (hRf : jt_rk j ≤ R.frames) (hRl : 40 * jt_rk j ≤ R.locals)
    (hn : n0 ≤ jm_n M) (hw : w0 ≤ jm_w M) (hn2 : jm_n M ≤ jm_n q.2) (hw2 : jm_w M ≤ jm_w q.2) (hRc : jm_n q.2 - n0 ≤ R.cells) (hRs : jm_w q.2 - w0 ≤ R.slots) (hcat : jx_cat rest ≤ 8) (hd : decode (jt_cc j) pc = .ok (.invokespecial i, 3))
    (kk : jw_W p l e R s s0 m args below meth c Q D cI cJ cB sp L xs n0 w0 (jt_nl j) q.2 ls (q.1.toList ++ rest) (pc + 3)) : jw_W p l e R s s0 m args below meth c Q D cI cJ cB sp L xs n0 w0 (jt_nl j) M ls (as.reverse ++ .ref a :: rest) pc := fun H locs ar hH hL hl => by
  obtain ⟨g1, g2, g3, g4, g5⟩ := jc_M_spec hjj
  rcases g5 with ⟨g5, -⟩ | ⟨-, g5, g6, g7⟩
  · rw [hinst] at g5; cases g5
  have hts := jw_ts (args := args) Cc F
  have hn3 : (parseMethodDescriptor (jt_y jj).desc).map (fun d => d.parameters.length) = some as.length := by
    cases hq : parseMethodDescriptor (jt_y jj).desc with
    | none => rw [hq] at g7; cases g7
    | some d =>
      rw [hq] at g7
      have : d.parameters.length + 1 = jt_na jj := Option.some.inj g7
      show some d.parameters.length = some as.length
      congr 1
      omega
  have hG : GoodIn jc_gw [Cond.code (jt_y jj) (jt_cc jj) (jt_nl jj) none] := goodIn_l fun w hw => by
      simp only [List.mem_cons, List.not_mem_nil, or_false] at hw
      rw [hw, ← hret]
      exact ⟨jc_code_good hjj, rfl⟩
  obtain ⟨p1, p2⟩ := js_pc F hH (.ref a :: as)
  unfold jw_Met at hM
  rw [hret] at hM
  rcases hlink with hlink | ⟨host, hlink⟩
  · exact js_run (rest := rest) (va_runI (js_callfix Cc F) hM (cwI as.length hts hG rfl rfl rfl (hts _ g1) (hts _ hlink) (hts _ g5) hname ⟨g3.1, g3.2, hn3⟩ (jc_room hjj hr hRf hRl q)) ⟨p1, p2⟩ rfl (by rw [List.length_map]) hL.2.1 (by show (as.reverse ++ Value.ref a :: rest).map _ = _; rw [List.map_append, List.map_reverse]; rfl) (by rw [jw_cats]; show 2 * 0 + _ ≤ 8; omega) hd ⟨by omega, by omega⟩) hn hw hn2 hw2 hL hl kk
  · exact js_run (rest := rest) (va_runIN (js_callfix Cc F) hM ⟨va_cnB as.length hts hG rfl rfl rfl (va_Nw.of rfl (hts _ hlink)) (hts _ g1) ⟨g3.1, g3.2, hn3⟩ (jc_room hjj hr hRf hRl q), hname, hts _ g5⟩ ⟨p1, p2⟩ rfl (by rw [List.length_map]) hL.2.1 (by show (as.reverse ++ Value.ref a :: rest).map _ = _; rw [List.map_append, List.map_reverse]; rfl) (by rw [jw_cats]; show 2 * 0 + _ ≤ 8; omega) hd ⟨by omega, by omega⟩) hn hw hn2 hw2 hL hl kk
/-- a static call -/
theorem js_callS (Cc : jw_C s0 D cI cJ cB sp L b0 xs) (F : jw_F p s s0 m meth c j) {jj i : Nat} {as rest : List Value} {q : jR} (hjj : jj < jt_law) (hinst : jc_inst jj = false) (hna : as.length = jt_na jj)
    (hlink : (Cond.methodLink (jt_on (jt_o j)) i (jt_y jj)) ∈ jc_gw ∨ ∃ host, (Cond.methodLinkNest (jt_on (jt_o j)) i (jt_y jj) host) ∈ jc_gw) (hM : jw_Met l s0 D cI cJ cB sp L xs jj as M q) (hr : jt_rk jj < jt_rk j) (hRf : jt_rk j ≤ R.frames) (hRl : 40 * jt_rk j ≤ R.locals)
    (hn : n0 ≤ jm_n M) (hw : w0 ≤ jm_w M) (hn2 : jm_n M ≤ jm_n q.2) (hw2 : jm_w M ≤ jm_w q.2) (hRc : jm_n q.2 - n0 ≤ R.cells) (hRs : jm_w q.2 - w0 ≤ R.slots) (hcat : jx_cat rest ≤ 8) (hd : decode (jt_cc j) pc = .ok (.invokestatic i, 3))
    (kk : jw_W p l e R s s0 m args below meth c Q D cI cJ cB sp L xs n0 w0 (jt_nl j) q.2 ls (q.1.toList ++ rest) (pc + 3)) : jw_W p l e R s s0 m args below meth c Q D cI cJ cB sp L xs n0 w0 (jt_nl j) M ls (as.reverse ++ rest) pc := fun H locs ar hH hL hl => by
  obtain ⟨g1, g2, g3, g4, g5⟩ := jc_M_spec hjj
  rcases g5 with ⟨-, g5, g7⟩ | ⟨g5, -⟩
  case inr => rw [hinst] at g5; cases g5
  have hts := jw_ts (args := args) Cc F
  rw [← hna] at g7
  have hG : GoodIn jc_gw [Cond.code (jt_y jj) (jt_cc jj) (jt_nl jj) (jt_ret jj)] := goodIn_l fun w hw => by
      simp only [List.mem_cons, List.not_mem_nil, or_false] at hw
      rw [hw]
      exact ⟨jc_code_good hjj, rfl⟩
  obtain ⟨p1, p2⟩ := js_pc F hH as
  rcases hlink with hlink | ⟨host, hlink⟩
  · exact js_run (rest := rest) (va_runS (js_callfix Cc F) hM ⟨callB_of as.length hts hG rfl rfl rfl (hts _ g1) (hts _ hlink) ⟨g3.1, g3.2, g7⟩ (jc_room hjj hr hRf hRl q), hts _ g5⟩ ⟨p1, p2⟩ rfl (by rw [List.length_map]) hL.2.1 (by show (as.reverse ++ rest).map _ = _; rw [List.map_append, List.map_reverse]) (by rw [jw_cats]; show 2 * 0 + _ ≤ 8; omega) hd ⟨by omega, by omega⟩) hn hw hn2 hw2 hL hl kk
  · exact js_run (rest := rest) (va_runSN (js_callfix Cc F) hM ⟨va_cnB as.length hts hG rfl rfl rfl (va_Nw.of rfl (hts _ hlink)) (hts _ g1) ⟨g3.1, g3.2, g7⟩ (jc_room hjj hr hRf hRl q), hts _ g5, trivial⟩ ⟨p1, p2⟩ rfl (by rw [List.length_map]) hL.2.1 (by show (as.reverse ++ rest).map _ = _; rw [List.map_append, List.map_reverse]) (by rw [jw_cats]; show 2 * 0 + _ ≤ 8; omega) hd ⟨by omega, by omega⟩) hn hw hn2 hw2 hL hl kk
end JS2
