/-! A NEW FLIGHT of the reference -/
def q_nl (i : Nat) : Nat := [8, 64, 64, 6, 6, 6, 6, 6, 30, 6, 8, 8, 8, 6, 10, 10, 10, 6, 6, 6, 20, 20, 20].getD i 0
def q_nk (i : Nat) : Nat := if i = 20 then 21 else 20
/-- ints and longs with new cells -/
def q_zI (I : qI) (f i : Nat) : qI := fun a => if f ≤ a ∧ a ≤ f + i then fun _ => 0 else I a
def q_zL (L : qL) (f i : Nat) : qL := fun a => if f ≤ a ∧ a ≤ f + i then fun _ => 0 else L a
def q_zs (s : qS) (f i : Nat) : qS := (fun a k => if a = f then (if 14 ≤ k ∧ k < 14 + i then f + 1 + (k - 14) else 0) else if f < a ∧ a ≤ f + i then 0 else qr s a k, fun a => if a = f then 12 else if f < a ∧ a ≤ f + i then q_nk (a - f - 1) else qk s a, fun a => if a = f then 0 else if f < a ∧ a ≤ f + i then q_nl (a - f - 1) else qz s a, f + 1 + i, qw s + 37 + q_sum q_nl i)
def q_fM (I : qI) (L : qL) (s : qS) (f i : Nat) : jM := (q_zI I f i, q_zL L f i, q_zs s f i)
section NFl
variable {I : qI} {L : qL} {s : qS} {f i : Nat}
theorem al_0 (hf : qn s = f) : jm_new (I, L, s) 12 0 37 = q_fM I L s f 0 := by
  subst hf
  refine Prod.ext ?_ (Prod.ext ?_ (Prod.ext ?_ (Prod.ext ?_ (Prod.ext ?_ (Prod.ext ?_ ?_)))))
  · funext x y
    show (if x = qn s then (0 : Int32) else I x y) = (if qn s ≤ x ∧ x ≤ qn s + 0 then fun _ => 0 else I x) y
    by_cases c : x = qn s
    · rw [if_pos c, if_pos (by omega)]
    · rw [if_neg c, if_neg (by omega)]
  · funext x y
    show (if x = qn s then (0 : Int64) else L x y) = (if qn s ≤ x ∧ x ≤ qn s + 0 then fun _ => 0 else L x) y
    by_cases c : x = qn s
    · rw [if_pos c, if_pos (by omega)]
    · rw [if_neg c, if_neg (by omega)]
  · funext x y
    show (if x = qn s then 0 else qr s x y) = (if x = qn s then (if 14 ≤ y ∧ y < 14 + 0 then qn s + 1 + (y - 14) else 0) else if qn s < x ∧ x ≤ qn s + 0 then 0 else qr s x y)
    by_cases c : x = qn s
    · rw [if_pos c, if_pos c, if_neg (by omega)]
    · rw [if_neg c, if_neg c, if_neg (by omega)]
  · funext x
    show (if x = qn s then 12 else qk s x) = (if x = qn s then 12 else if qn s < x ∧ x ≤ qn s + 0 then q_nk (x - qn s - 1) else qk s x)
    by_cases c : x = qn s
    · rw [if_pos c, if_pos c]
    · rw [if_neg c, if_neg c, if_neg (by omega)]
  · funext x
    show (if x = qn s then 0 else qz s x) = (if x = qn s then 0 else if qn s < x ∧ x ≤ qn s + 0 then q_nl (x - qn s - 1) else qz s x)
    by_cases c : x = qn s
    · rw [if_pos c, if_pos c]
    · rw [if_neg c, if_neg c, if_neg (by omega)]
  · rfl
  · rfl
theorem al_step : jm_sr (jm_new (q_fM I L s f i) (q_nk i) (q_nl i) (q_nl i)) f (14 + i) (f + 1 + i) = q_fM I L s f (i + 1) := by
  refine Prod.ext ?_ (Prod.ext ?_ (Prod.ext ?_ (Prod.ext ?_ (Prod.ext ?_ (Prod.ext ?_ ?_)))))
  · funext x y
    show (if x = f + 1 + i then (0 : Int32) else (if f ≤ x ∧ x ≤ f + i then fun _ => 0 else I x) y) = (if f ≤ x ∧ x ≤ f + (i + 1) then fun _ => 0 else I x) y
    by_cases c : x = f + 1 + i
    · rw [if_pos c, if_pos (by omega)]
    · rw [if_neg c]
      by_cases c2 : f ≤ x ∧ x ≤ f + i
      · rw [if_pos c2, if_pos (by omega)]
      · rw [if_neg c2, if_neg (by omega)]
  · funext x y
    show (if x = f + 1 + i then (0 : Int64) else (if f ≤ x ∧ x ≤ f + i then fun _ => 0 else L x) y) = (if f ≤ x ∧ x ≤ f + (i + 1) then fun _ => 0 else L x) y
    by_cases c : x = f + 1 + i
    · rw [if_pos c, if_pos (by omega)]
    · rw [if_neg c]
      by_cases c2 : f ≤ x ∧ x ≤ f + i
      · rw [if_pos c2, if_pos (by omega)]
      · rw [if_neg c2, if_neg (by omega)]
  · funext x y
    show (if x = f ∧ y = 14 + i then f + 1 + i else if x = f + 1 + i then 0 else if x = f then (if 14 ≤ y ∧ y < 14 + i then f + 1 + (y - 14) else 0) else if f < x ∧ x ≤ f + i then 0 else qr s x y) = (if x = f then (if 14 ≤ y ∧ y < 14 + (i + 1) then f + 1 + (y - 14) else 0) else if f < x ∧ x ≤ f + (i + 1) then 0 else qr s x y)
    by_cases c : x = f
    · by_cases c2 : y = 14 + i
      · rw [if_pos ⟨c, c2⟩, if_pos c, if_pos (by omega)]; omega
      · rw [if_neg (fun z => c2 z.2), if_neg (by omega), if_pos c, if_pos c]
        by_cases c3 : 14 ≤ y ∧ y < 14 + i
        · rw [if_pos c3, if_pos (by omega)]
        · rw [if_neg c3, if_neg (by omega)]
    · rw [if_neg (fun z => c z.1)]
      by_cases c2 : x = f + 1 + i
      · rw [if_pos c2, if_neg c, if_pos (by omega)]
      · rw [if_neg c2, if_neg c, if_neg c]
        by_cases c3 : f < x ∧ x ≤ f + i
        · rw [if_pos c3, if_pos (by omega)]
        · rw [if_neg c3, if_neg (by omega)]
  · funext x
    show (if x = f + 1 + i then q_nk i else if x = f then 12 else if f < x ∧ x ≤ f + i then q_nk (x - f - 1) else qk s x) = (if x = f then 12 else if f < x ∧ x ≤ f + (i + 1) then q_nk (x - f - 1) else qk s x)
    by_cases c2 : x = f + 1 + i
    · rw [if_pos c2, if_neg (by omega), if_pos (by omega), show x - f - 1 = i by omega]
    · rw [if_neg c2]
      by_cases c : x = f
      · rw [if_pos c, if_pos c]
      · rw [if_neg c, if_neg c]
        by_cases c3 : f < x ∧ x ≤ f + i
        · rw [if_pos c3, if_pos (by omega)]
        · rw [if_neg c3, if_neg (by omega)]
  · funext x
    show (if x = f + 1 + i then q_nl i else if x = f then 0 else if f < x ∧ x ≤ f + i then q_nl (x - f - 1) else qz s x) = (if x = f then 0 else if f < x ∧ x ≤ f + (i + 1) then q_nl (x - f - 1) else qz s x)
    by_cases c2 : x = f + 1 + i
    · rw [if_pos c2, if_neg (by omega), if_pos (by omega), show x - f - 1 = i by omega]
    · rw [if_neg c2]
      by_cases c : x = f
      · rw [if_pos c, if_pos c]
      · rw [if_neg c, if_neg c]
        by_cases c3 : f < x ∧ x ≤ f + i
        · rw [if_pos c3, if_pos (by omega)]
        · rw [if_neg c3, if_neg (by omega)]
  · rfl
  · show qw s + 37 + q_sum q_nl i + q_nl i = qw s + 37 + (q_sum q_nl i + q_nl i)
    omega
theorem al_go {α : Type} {R : jM → Option α} {v : Int32} {kd j : Nat} (h1 : ¬ v < 0) (h2 : ¬ 1000000 ≤ v.toNatClampNeg) (hf : True) (hv : v.toNatClampNeg = q_nl i) (hk : kd = q_nk i) (hj : j = 14 + i) : (if v < 0 then none else if 1000000 ≤ v.toNatClampNeg then none else jx_lt (jm_new (q_fM I L s f i) kd v.toNatClampNeg v.toNatClampNeg) fun M1 => if jm_n (q_fM I L s f i) = 0 then none else if jm_k M1 f = 12 then jx_lt (jm_sr M1 f j (jm_n (q_fM I L s f i))) R else none) = R (q_fM I L s f (i + 1)) := by
  have hn : jm_n (q_fM I L s f i) = f + 1 + i := rfl
  rw [if_neg h1, if_neg h2, hv, hk, hj]
  show (if jm_n (q_fM I L s f i) = 0 then none else if jm_k (jm_new (q_fM I L s f i) (q_nk i) (q_nl i) (q_nl i)) f = 12 then R (jm_sr (jm_new (q_fM I L s f i) (q_nk i) (q_nl i) (q_nl i)) f (14 + i) (jm_n (q_fM I L s f i))) else none) = _
  have hk12 : jm_k (jm_new (q_fM I L s f i) (q_nk i) (q_nl i) (q_nl i)) f = 12 := by
    show (if f = f + 1 + i then q_nk i else if f = f then 12 else _) = 12
    rw [if_neg (by omega), if_pos rfl]
  rw [if_neg (by rw [hn]; omega), if_pos hk12, hn, al_step]
theorem zs_r {k : Nat} (hk : k < 23) : qr (q_zs s f 23) f (14 + k) = f + 1 + k := by
  show (if f = f then (if 14 ≤ 14 + k ∧ 14 + k < 14 + 23 then f + 1 + (14 + k - 14) else 0) else _) = _
  rw [if_pos rfl, if_pos (by omega)]; omega
theorem zs_k {k : Nat} (hk : k < 23) : qk (q_zs s f 23) (f + 1 + k) = q_nk k := by
  show (if f + 1 + k = f then 12 else if f < f + 1 + k ∧ f + 1 + k ≤ f + 23 then q_nk (f + 1 + k - f - 1) else _) = _
  rw [if_neg (by omega), if_pos (by omega), show f + 1 + k - f - 1 = k by omega]
theorem zs_z {k : Nat} (hk : k < 23) : qz (q_zs s f 23) (f + 1 + k) = q_nl k := by
  show (if f + 1 + k = f then 0 else if f < f + 1 + k ∧ f + 1 + k ≤ f + 23 then q_nl (f + 1 + k - f - 1) else _) = _
  rw [if_neg (by omega), if_pos (by omega), show f + 1 + k - f - 1 = k by omega]
theorem zs_f : qk (q_zs s f 23) f = 12 := if_pos rfl
theorem zs_mf : qMf (q_zs s f 23) f := by
  refine ⟨zs_f, ?_, ?_, ?_, ?_, ?_, ?_, ?_, ?_, ?_, ?_, ?_, ?_, ?_, ?_, ?_, ?_, ?_, ?_, ?_, ?_, ?_, ?_, ?_⟩
  · exact ⟨zs_r (k := 0) (by omega), zs_k (k := 0) (by omega), zs_z (k := 0) (by omega)⟩
  · exact ⟨zs_r (k := 1) (by omega), zs_k (k := 1) (by omega), zs_z (k := 1) (by omega)⟩
  · exact ⟨zs_r (k := 2) (by omega), zs_k (k := 2) (by omega), zs_z (k := 2) (by omega)⟩
  · exact ⟨zs_r (k := 3) (by omega), zs_k (k := 3) (by omega), zs_z (k := 3) (by omega)⟩
  · exact ⟨zs_r (k := 4) (by omega), zs_k (k := 4) (by omega), zs_z (k := 4) (by omega)⟩
  · exact ⟨zs_r (k := 5) (by omega), zs_k (k := 5) (by omega), zs_z (k := 5) (by omega)⟩
  · exact ⟨zs_r (k := 6) (by omega), zs_k (k := 6) (by omega), zs_z (k := 6) (by omega)⟩
  · exact ⟨zs_r (k := 7) (by omega), zs_k (k := 7) (by omega), zs_z (k := 7) (by omega)⟩
  · exact ⟨zs_r (k := 8) (by omega), zs_k (k := 8) (by omega), zs_z (k := 8) (by omega)⟩
  · exact ⟨zs_r (k := 9) (by omega), zs_k (k := 9) (by omega), zs_z (k := 9) (by omega)⟩
  · exact ⟨zs_r (k := 10) (by omega), zs_k (k := 10) (by omega), zs_z (k := 10) (by omega)⟩
  · exact ⟨zs_r (k := 11) (by omega), zs_k (k := 11) (by omega), zs_z (k := 11) (by omega)⟩
  · exact ⟨zs_r (k := 12) (by omega), zs_k (k := 12) (by omega), zs_z (k := 12) (by omega)⟩
  · exact ⟨zs_r (k := 13) (by omega), zs_k (k := 13) (by omega), zs_z (k := 13) (by omega)⟩
  · exact ⟨zs_r (k := 14) (by omega), zs_k (k := 14) (by omega), zs_z (k := 14) (by omega)⟩
  · exact ⟨zs_r (k := 15) (by omega), zs_k (k := 15) (by omega), zs_z (k := 15) (by omega)⟩
  · exact ⟨zs_r (k := 16) (by omega), zs_k (k := 16) (by omega), zs_z (k := 16) (by omega)⟩
  · exact ⟨zs_r (k := 17) (by omega), zs_k (k := 17) (by omega), zs_z (k := 17) (by omega)⟩
  · exact ⟨zs_r (k := 18) (by omega), zs_k (k := 18) (by omega), zs_z (k := 18) (by omega)⟩
  · exact ⟨zs_r (k := 19) (by omega), zs_k (k := 19) (by omega), zs_z (k := 19) (by omega)⟩
  · exact ⟨zs_r (k := 20) (by omega), zs_k (k := 20) (by omega), zs_z (k := 20) (by omega)⟩
  · exact ⟨zs_r (k := 21) (by omega), zs_k (k := 21) (by omega), zs_z (k := 21) (by omega)⟩
  · exact ⟨zs_r (k := 22) (by omega), zs_k (k := 22) (by omega), zs_z (k := 22) (by omega)⟩
theorem m184 : jD 184 [.ref f] (q_fM I L s f 0) = some (none, q_up (q_zI I f 23) (f + 2) (fun k => if k < 64 then -1 else 0), q_zL L f 23, q_zs s f 23) := by
  rw [D_184, E_184_0]
  refine (al_go (i := 0) (by decide) (by decide) trivial rfl rfl rfl).trans ?_
  refine (al_go (i := 1) (by decide) (by decide) trivial rfl rfl rfl).trans ?_
  refine (al_go (i := 2) (by decide) (by decide) trivial rfl rfl rfl).trans ?_
  refine (al_go (i := 3) (by decide) (by decide) trivial rfl rfl rfl).trans ?_
  refine (al_go (i := 4) (by decide) (by decide) trivial rfl rfl rfl).trans ?_
  refine (al_go (i := 5) (by decide) (by decide) trivial rfl rfl rfl).trans ?_
  refine (al_go (i := 6) (by decide) (by decide) trivial rfl rfl rfl).trans ?_
  refine (al_go (i := 7) (by decide) (by decide) trivial rfl rfl rfl).trans ?_
  refine (al_go (i := 8) (by decide) (by decide) trivial rfl rfl rfl).trans ?_
  refine (al_go (i := 9) (by decide) (by decide) trivial rfl rfl rfl).trans ?_
  refine (al_go (i := 10) (by decide) (by decide) trivial rfl rfl rfl).trans ?_
  refine (al_go (i := 11) (by decide) (by decide) trivial rfl rfl rfl).trans ?_
  refine (al_go (i := 12) (by decide) (by decide) trivial rfl rfl rfl).trans ?_
  refine (al_go (i := 13) (by decide) (by decide) trivial rfl rfl rfl).trans ?_
  refine (al_go (i := 14) (by decide) (by decide) trivial rfl rfl rfl).trans ?_
  refine (al_go (i := 15) (by decide) (by decide) trivial rfl rfl rfl).trans ?_
  refine (al_go (i := 16) (by decide) (by decide) trivial rfl rfl rfl).trans ?_
  refine (al_go (i := 17) (by decide) (by decide) trivial rfl rfl rfl).trans ?_
  refine (al_go (i := 18) (by decide) (by decide) trivial rfl rfl rfl).trans ?_
  refine (al_go (i := 19) (by decide) (by decide) trivial rfl rfl rfl).trans ?_
  refine (al_go (i := 20) (by decide) (by decide) trivial rfl rfl rfl).trans ?_
  refine (al_go (i := 21) (by decide) (by decide) trivial rfl rfl rfl).trans ?_
  refine (al_go (i := 22) (by decide) (by decide) trivial rfl rfl rfl).trans ?_
  show jd 184 1 [some (.ref f), some (.int 0)] [] (q_zI I f 23, q_zL L f 23, q_zs s f 23) = _
  have hf := zs_mf (s := s) (f := f)
  have z2 : q_zI I f 23 (f + 2) = fun _ => 0 := if_pos (by omega)
  obtain ⟨J, e, hJ⟩ := q_loopE (F := fun i J => jd 184 1 [some (.ref f), some (.int (w i))] [] (J, q_zL L f 23, q_zs s f 23)) (n := 64) (P := fun i J => J = q_up (q_zI I f 23) (f + 2) (fun k => if k < i then -1 else 0)) (fun i J hi hJ => by
    refine ⟨q_up J (f + 2) (q_set (J (f + 2)) i (-1)), ?_, ?_⟩
    · show jd 184 1 _ _ _ = jd 184 1 _ _ _
      rw [E_184_1, if_neg (by rw [show (64 : Int32) = w 64 from rfl, w_le (by omega) (by omega)]; omega)]
      simp only [↓reduceIte, q_i, q_l, q_k, q_r, q_z, q_si, q_sl, jx_lt, jx_ri, jx_rl, jx_rv, if_true, if_false, Nat.reduceLeDiff, Nat.add_one_ne_zero, and_self, true_or, or_true, Nat.reduceEqDiff, or_self, or_false, false_or, mf_k hf, mf_r15 hf, mf_k15 hf, mf_z15 hf, Nat.add_eq_zero_iff, and_false, w_nn (a := i) (by omega), show ¬ 64 ≤ i by omega, w_tc (a := i) (by omega), w_inc]
    · subst hJ
      rw [q_up_up, q_up_eq]
      congr 1
      funext k
      unfold q_set
      by_cases c : k = i
      · rw [if_pos c, if_pos (by omega)]
      · rw [if_neg c]
        show (if k < i then (-1 : Int32) else 0) = _
        by_cases c2 : k < i
        · rw [if_pos c2, if_pos (by omega)]
        · rw [if_neg c2, if_neg (by omega)]) (q_zI I f 23) (by
    show q_zI I f 23 = _
    have : (fun k => if k < 0 then (-1 : Int32) else 0) = q_zI I f 23 (f + 2) := by
      rw [z2]
      funext k
      rw [if_neg (by omega)]
    rw [this, q_up_self])
  refine Eq.trans e ?_
  subst hJ
  show jd 184 1 [some (.ref f), some (.int (w 64))] [] _ = _
  rw [E_184_1, if_pos (by decide), E_184_2]
end NFl
