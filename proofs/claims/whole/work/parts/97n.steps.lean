/-! THE START, step by step -/
def q_trb : List (List (Nat × Nat × Nat × Nat)) := [[(0, 11, 0, 16), (0, 3, 0, 19), (0, 7, 0, 1), (0, 20, 12, 12), (1, 102, 0, 103), (1, 101, 0, 102), (0, 7, 0, 1), (0, 20, 8, 8), (1, 104, 0, 105), (1, 101, 1, 104), (0, 7, 0, 1), (0, 20, 64, 64), (1, 106, 0, 107), (1, 101, 2, 106), (0, 7, 0, 1), (0, 20, 64, 64)], [(1, 108, 0, 109), (1, 101, 3, 108), (0, 7, 0, 1), (0, 20, 6, 6), (1, 110, 0, 111), (1, 101, 4, 110), (0, 7, 0, 1), (0, 20, 6, 6), (1, 112, 0, 113), (1, 101, 5, 112), (0, 7, 0, 1), (0, 20, 6, 6), (1, 114, 0, 115), (1, 101, 6, 114), (0, 7, 0, 1), (0, 20, 6, 6)], [(1, 116, 0, 117), (1, 101, 7, 116), (0, 7, 0, 1), (0, 20, 6, 6), (1, 118, 0, 119), (1, 101, 8, 118), (0, 7, 0, 1), (0, 20, 6, 6), (1, 120, 0, 121), (1, 101, 9, 120), (0, 7, 0, 1), (0, 20, 8, 8), (1, 122, 0, 123), (1, 101, 10, 122), (0, 7, 0, 1), (0, 20, 8, 8)], [(1, 124, 0, 125), (1, 101, 11, 124), (0, 7, 0, 1), (0, 20, 8, 8), (1, 126, 0, 127), (1, 101, 12, 126), (0, 7, 0, 1), (0, 20, 6, 6), (1, 128, 0, 129), (1, 101, 13, 128), (0, 7, 0, 1), (0, 20, 6, 6), (1, 130, 0, 131), (1, 101, 14, 130), (0, 7, 0, 1), (0, 20, 20, 20)], [(1, 132, 0, 133), (1, 101, 15, 132), (0, 7, 0, 1), (0, 20, 6, 6), (1, 134, 0, 135), (1, 101, 16, 134), (0, 7, 0, 1), (0, 20, 6, 6), (1, 136, 0, 137), (1, 101, 17, 136), (0, 7, 0, 1), (0, 20, 6, 6), (1, 138, 0, 139), (1, 101, 18, 138), (1, 100, 0, 101), (0, 3, 0, 19)], [(0, 7, 0, 1), (0, 20, 12, 12), (1, 141, 0, 142), (1, 140, 0, 141), (0, 7, 0, 1), (0, 20, 8, 8), (1, 143, 0, 144), (1, 140, 1, 143), (0, 7, 0, 1), (0, 20, 64, 64), (1, 145, 0, 146), (1, 140, 2, 145), (0, 7, 0, 1), (0, 20, 64, 64), (1, 147, 0, 148), (1, 140, 3, 147)], [(0, 7, 0, 1), (0, 20, 6, 6), (1, 149, 0, 150), (1, 140, 4, 149), (0, 7, 0, 1), (0, 20, 6, 6), (1, 151, 0, 152), (1, 140, 5, 151), (0, 7, 0, 1), (0, 20, 6, 6), (1, 153, 0, 154), (1, 140, 6, 153), (0, 7, 0, 1), (0, 20, 6, 6), (1, 155, 0, 156), (1, 140, 7, 155)], [(0, 7, 0, 1), (0, 20, 6, 6), (1, 157, 0, 158), (1, 140, 8, 157), (0, 7, 0, 1), (0, 20, 6, 6), (1, 159, 0, 160), (1, 140, 9, 159), (0, 7, 0, 1), (0, 20, 8, 8), (1, 161, 0, 162), (1, 140, 10, 161), (0, 7, 0, 1), (0, 20, 8, 8), (1, 163, 0, 164), (1, 140, 11, 163)], [(0, 7, 0, 1), (0, 20, 8, 8), (1, 165, 0, 166), (1, 140, 12, 165), (0, 7, 0, 1), (0, 20, 6, 6), (1, 167, 0, 168), (1, 140, 13, 167), (0, 7, 0, 1), (0, 20, 6, 6), (1, 169, 0, 170), (1, 140, 14, 169), (0, 7, 0, 1), (0, 20, 20, 20), (1, 171, 0, 172), (1, 140, 15, 171)], [(0, 7, 0, 1), (0, 20, 6, 6), (1, 173, 0, 174), (1, 140, 16, 173), (0, 7, 0, 1), (0, 20, 6, 6), (1, 175, 0, 176), (1, 140, 17, 175), (0, 7, 0, 1), (0, 20, 6, 6), (1, 177, 0, 178), (1, 140, 18, 177), (1, 100, 1, 140), (0, 7, 0, 1), (0, 20, 1100, 1100), (1, 179, 0, 180)], [(1, 100, 2, 179), (0, 6, 0, 8), (0, 21, 31, 31), (1, 181, 1, 182), (0, 7, 0, 1), (0, 20, 31, 31), (1, 183, 0, 184), (1, 181, 2, 183), (0, 7, 0, 1), (0, 20, 31, 31), (1, 185, 0, 186), (1, 181, 3, 185), (0, 8, 0, 7), (1, 187, 0, 179), (1, 181, 0, 187), (1, 181, 5, 140)], [(3, 182, 0, 214211860), (2, 184, 0, 0), (2, 186, 0, 0), (2, 181, 4, 1), (3, 182, 1, 6694067), (2, 184, 1, 0), (2, 186, 1, 1), (2, 181, 4, 2), (3, 182, 2, 643568), (2, 184, 2, 0), (2, 186, 2, 3), (2, 181, 4, 3), (3, 182, 3, 23609), (2, 184, 3, 0), (2, 186, 3, 4), (2, 181, 4, 4)], [(3, 182, 4, 735599309185), (2, 184, 4, 0), (2, 186, 4, 5), (2, 181, 4, 5), (3, 182, 5, 599495), (2, 184, 5, 0), (2, 186, 5, 6), (2, 181, 4, 6), (3, 182, 6, 66667), (2, 184, 6, 0), (2, 186, 6, 7), (2, 181, 4, 7), (3, 182, 7, 16496818), (2, 184, 7, 0), (2, 186, 7, 8), (2, 181, 4, 8)], [(3, 182, 8, 16052), (2, 184, 8, 0), (2, 186, 8, 9), (2, 181, 4, 9), (3, 182, 9, 591150), (2, 184, 9, 0), (2, 186, 9, 10), (2, 181, 4, 10), (3, 182, 10, 763332), (2, 184, 10, 0), (2, 186, 10, 11), (2, 181, 4, 11), (1, 100, 3, 181), (0, 5, 0, 1), (0, 7, 0, 1), (0, 20, 19, 19)], [(1, 189, 0, 190), (1, 188, 0, 189), (1, 100, 4, 188), (0, 5, 0, 1), (0, 7, 0, 1), (0, 20, 19, 19), (1, 192, 0, 193), (1, 191, 0, 192), (1, 100, 5, 191), (0, 1, 0, 5), (0, 7, 0, 1), (0, 20, 304, 304), (1, 195, 0, 196), (1, 194, 0, 195), (0, 7, 0, 1), (0, 20, 57, 57)], [(1, 197, 0, 198), (1, 194, 1, 197), (1, 100, 6, 194), (0, 10, 0, 10), (0, 7, 0, 1), (0, 20, 120, 120), (1, 200, 0, 201), (1, 199, 0, 200), (0, 7, 0, 1), (0, 20, 120, 120), (1, 202, 0, 203), (1, 199, 1, 202), (0, 7, 0, 1), (0, 20, 120, 120), (1, 204, 0, 205), (1, 199, 2, 204)], [(0, 7, 0, 1), (0, 20, 6, 6), (1, 206, 0, 207), (1, 199, 3, 206), (0, 7, 0, 1), (0, 20, 6, 6), (1, 208, 0, 209), (1, 199, 4, 208), (0, 7, 0, 1), (0, 20, 6, 6), (1, 210, 0, 211), (1, 199, 5, 210), (0, 7, 0, 1), (0, 20, 6, 6), (1, 212, 0, 213), (1, 199, 6, 212)], [(2, 199, 9, 4294967295), (1, 199, 7, 101), (1, 199, 8, 188), (1, 100, 7, 199), (0, 10, 0, 10), (0, 7, 0, 1), (0, 20, 120, 120), (1, 215, 0, 216), (1, 214, 0, 215), (0, 7, 0, 1), (0, 20, 120, 120), (1, 217, 0, 218), (1, 214, 1, 217), (0, 7, 0, 1), (0, 20, 120, 120), (1, 219, 0, 220)], [(1, 214, 2, 219), (0, 7, 0, 1), (0, 20, 6, 6), (1, 221, 0, 222), (1, 214, 3, 221), (0, 7, 0, 1), (0, 20, 6, 6), (1, 223, 0, 224), (1, 214, 4, 223), (0, 7, 0, 1), (0, 20, 6, 6), (1, 225, 0, 226), (1, 214, 5, 225), (0, 7, 0, 1), (0, 20, 6, 6), (1, 227, 0, 228)], [(1, 214, 6, 227), (2, 214, 9, 4294967295), (1, 214, 7, 101), (1, 214, 8, 188), (1, 100, 8, 214), (0, 9, 0, 2), (0, 7, 0, 1), (0, 20, 1800, 1800), (1, 230, 0, 231), (1, 229, 0, 230), (0, 7, 0, 1), (0, 20, 6, 6), (1, 232, 0, 233), (1, 229, 1, 232), (1, 100, 9, 229), (0, 2, 0, 9)], [(0, 7, 0, 1), (0, 20, 160, 160), (1, 235, 0, 236), (1, 234, 0, 235), (2, 234, 1, 4294967295), (1, 100, 10, 234), (0, 4, 0, 1), (0, 7, 0, 1), (0, 20, 64, 64), (1, 238, 0, 239), (1, 237, 0, 238), (1, 100, 11, 237), (2, 100, 12, 0), (2, 100, 13, 0), (2, 100, 14, 0), (2, 100, 15, 4294967295)], [(0, 13, 0, 45), (2, 240, 2, 4294967295), (0, 22, 1100, 1100), (1, 240, 5, 241), (0, 20, 49, 49), (1, 240, 16, 242), (0, 20, 784, 784), (1, 240, 17, 243), (0, 20, 147, 147), (1, 240, 18, 244), (0, 20, 6, 6), (1, 240, 21, 245), (0, 20, 6, 6), (1, 240, 22, 246), (0, 20, 120, 120), (1, 240, 23, 247)], [(0, 20, 120, 120), (1, 240, 24, 248), (0, 20, 120, 120), (1, 240, 25, 249), (0, 20, 6, 6), (1, 240, 26, 250), (0, 20, 6, 6), (1, 240, 27, 251), (0, 20, 6000, 6000), (1, 240, 29, 252), (0, 20, 1000, 1000), (1, 240, 30, 253), (0, 20, 6, 6), (1, 240, 31, 254), (0, 20, 6, 6), (1, 240, 32, 255)], [(0, 20, 160, 160), (1, 240, 40, 256), (0, 20, 6, 6), (1, 240, 43, 257), (0, 20, 6, 6), (1, 240, 44, 258), (0, 21, 1, 1)]]
def q_tra (p : Nat) : Nat × Nat × Nat × Nat := (q_trb.getD (p / 16) []).getD (p % 16) (0, 0, 0, 0)
def q_op (o : Nat × Nat × Nat × Nat) (M : jM) : jM := match o.1 with
  | 0 => jm_new M o.2.1 o.2.2.1 o.2.2.2
  | 1 => jm_sr M o.2.1 o.2.2.1 o.2.2.2
  | 2 => jm_si M o.2.1 o.2.2.1 (w o.2.2.2)
  | _ => jm_sl M o.2.1 o.2.2.1 (Int64.ofNat o.2.2.2)
def nM (L : Nat) (xs : Nat → Int32) : Nat → jM
  | 0 => jz_M0 L xs
  | p + 1 => q_op (q_tra p) (nM L xs p)
def cM (p : Nat) : jM := nM 0 (fun _ => 0) p
def qAg (L : Nat) (xs : Nat → Int32) (M C : jM) : Prop := jm_k M = jm_k C ∧ jm_n M = jm_n C ∧ jm_w M = jm_w C ∧ jm_r M = jm_r C ∧ jm_l M = jm_l C ∧ (∀ a, a ≠ 1 → jm_z M a = jm_z C a) ∧ (∀ a, a ≠ 1 → jm_i M a = jm_i C a) ∧ jm_i M 1 = xs ∧ jm_z M 1 = L ∧ 2 ≤ jm_n C
section NMS
variable {L : Nat} {xs : Nat → Int32}
theorem nm_s {p : Nat} {o : Nat × Nat × Nat × Nat} (h : q_tra p = o) : nM L xs (p + 1) = q_op o (nM L xs p) := by
  subst h; rfl
theorem ag_op {M C : jM} (h : qAg L xs M C) : ∀ o : Nat × Nat × Nat × Nat, (o.1 = 0 ∨ o.2.1 ≠ 1) → qAg L xs (q_op o M) (q_op o C) := by
  obtain ⟨hk, hn, hw, hr, hl, hz, hi, h1, h2, h3⟩ := h
  rintro ⟨t, a, b, c⟩ ho
  match t, ho with
  | 0, _ =>
    refine ⟨?_, ?_, ?_, ?_, ?_, ?_, ?_, ?_, ?_, ?_⟩
    · show jm_at (jm_k M) (jm_n M) a = jm_at (jm_k C) (jm_n C) a
      rw [hk, hn]
    · show jm_n M + 1 = jm_n C + 1
      rw [hn]
    · show jm_w M + c = jm_w C + c
      rw [hw]
    · show jm_row (jm_r M) (jm_n M) 0 = jm_row (jm_r C) (jm_n C) 0
      rw [hr, hn]
    · show jm_row (jm_l M) (jm_n M) 0 = jm_row (jm_l C) (jm_n C) 0
      rw [hl, hn]
    · intro x hx
      show (if x = jm_n M then b else jm_z M x) = (if x = jm_n C then b else jm_z C x)
      rw [hn, hz x hx]
    · intro x hx
      funext y
      show (if x = jm_n M then (0 : Int32) else jm_i M x y) = (if x = jm_n C then (0 : Int32) else jm_i C x y)
      rw [hn, hi x hx]
    · funext y
      show (if 1 = jm_n M then (0 : Int32) else jm_i M 1 y) = xs y
      rw [if_neg (by rw [hn]; omega), h1]
    · show (if 1 = jm_n M then b else jm_z M 1) = L
      rw [if_neg (by rw [hn]; omega), h2]
    · show 2 ≤ jm_n C + 1
      omega
  | 1, _ =>
    refine ⟨hk, hn, hw, ?_, hl, hz, hi, h1, h2, h3⟩
    show jm_up (jm_r M) a b c = jm_up (jm_r C) a b c
    rw [hr]
  | 2, ho =>
    refine ⟨hk, hn, hw, hr, hl, hz, ?_, ?_, h2, h3⟩
    · intro x hx
      funext y
      show (if x = a ∧ y = b then w c else jm_i M x y) = (if x = a ∧ y = b then w c else jm_i C x y)
      rw [hi x hx]
    · funext y
      show (if 1 = a ∧ y = b then w c else jm_i M 1 y) = xs y
      rw [if_neg, h1]
      rintro ⟨e, -⟩
      rcases ho with ho | ho
      · cases ho
      · exact ho e.symm
  | t + 3, _ =>
    refine ⟨hk, hn, hw, hr, ?_, hz, hi, h1, h2, h3⟩
    show jm_up (jm_l M) a b (Int64.ofNat c) = jm_up (jm_l C) a b (Int64.ofNat c)
    rw [hl]
theorem T_ok : ∀ p, p < 500 → (q_tra p).1 = 0 ∨ (q_tra p).2.1 ≠ 1 := by decide +kernel
theorem ag_all : ∀ p, p ≤ 500 → qAg L xs (nM L xs p) (cM p) := by
  intro p
  induction p with
  | zero =>
    intro _
    refine ⟨rfl, rfl, rfl, rfl, rfl, ?_, ?_, rfl, rfl, by decide +kernel⟩
    · intro a ha
      show (if a = 1 then L else 0) = (if a = 1 then 0 else 0)
      rw [if_neg ha, if_neg ha]
    · intro a ha
      funext k
      show (if a = 1 then xs k else 0) = (if a = 1 then 0 else 0)
      rw [if_neg ha, if_neg ha]
  | succ p ih => exact fun h => ag_op (ih (by omega)) (q_tra p) (T_ok p (by omega))
theorem c78 {M : jM} {a m : Nat} (ha : jm_k M a = 7) (hn : a < jm_n M) (hm : m < 1000000) : jD 78 [.ref a, .int (w m)] M = some (none, jm_sr (jm_new M 20 m m) a 0 (jm_n M)) := by
  have h0 : (0 : Int32) ≤ w m := (w_le (a := 0) (by omega) (by omega)).mpr (by omega)
  have hk : jm_k (jm_new M 20 m m) a = 7 := by
    show (if a = jm_n M then 20 else jm_k M a) = 7
    rw [if_neg (by omega), ha]
  rw [D_78, E_78_0, if_pos h0, E_78_1, E_78_2, if_neg (w_nn (by omega)), w_tc (by omega), if_neg (by omega)]
  show (if jm_n M = 0 then none else if jm_k (jm_new M 20 m m) a = 7 then _ else none) = _
  rw [if_neg (by omega), if_pos hk]
  rfl
theorem row_s (p q x0 kd k m : Nat) (v : Int32) {R : jM → Option jR} (h : v = w m ∧ q_tra p = (0, 7, 0, 1) ∧ q_tra (p + 1) = (0, 20, m, m) ∧ q_tra (p + 2) = (1, jm_n (cM p), 0, jm_n (cM p) + 1) ∧ q_tra (p + 3) = (1, x0, k, jm_n (cM p)) ∧ jm_k (cM (p + 3)) x0 = kd ∧ m < 1000000 ∧ jm_n (cM p) ≠ 0 ∧ q = p + 4 ∧ q ≤ 500) : jx_lt (jm_new (nM L xs p) 7 0 1) (fun M1 => if jm_k M1 (jm_n (nM L xs p)) = 7 then jx_rv (jD 78 [.ref (jm_n (nM L xs p)), .int v] M1) fun M2 => if jm_n (nM L xs p) = 0 then none else if jm_k M2 x0 = kd then jx_lt (jm_sr M2 x0 k (jm_n (nM L xs p))) fun M3 => R M3 else none else none) = R (nM L xs q) := by
  obtain ⟨rfl, t0, t1, t2, t3, hk, hm, hn, rfl, hq⟩ := h
  have A := ag_all (L := L) (xs := xs) p (by omega)
  have B := ag_all (L := L) (xs := xs) (p + 3) (by omega)
  rw [← A.2.1] at t2 t3 hn
  have e3 : nM L xs (p + 3) = jm_sr (jm_new (jm_new (nM L xs p) 7 0 1) 20 m m) (jm_n (nM L xs p)) 0 (jm_n (jm_new (nM L xs p) 7 0 1)) := by
    show q_op (q_tra (p + 2)) (q_op (q_tra (p + 1)) (q_op (q_tra p) (nM L xs p))) = _
    rw [t0, t1, t2]
    rfl
  have e4 : nM L xs (p + 4) = jm_sr (nM L xs (p + 3)) x0 k (jm_n (nM L xs p)) := by
    show q_op (q_tra (p + 3)) (nM L xs (p + 3)) = _
    rw [t3]
    rfl
  have hk7 : jm_k (jm_new (nM L xs p) 7 0 1) (jm_n (nM L xs p)) = 7 := if_pos rfl
  show (if jm_k (jm_new (nM L xs p) 7 0 1) (jm_n (nM L xs p)) = 7 then jx_rv (jD 78 [.ref (jm_n (nM L xs p)), .int (w m)] (jm_new (nM L xs p) 7 0 1)) _ else none) = _
  rw [if_pos hk7, c78 hk7 (Nat.lt_succ_self _) hm, ← e3]
  show (if jm_n (nM L xs p) = 0 then none else if jm_k (nM L xs (p + 3)) x0 = kd then R (jm_sr (nM L xs (p + 3)) x0 k (jm_n (nM L xs p))) else none) = _
  rw [if_neg hn, if_pos (by rw [B.1]; exact hk), e4]
theorem arr_s (p q x0 xk k kd m : Nat) (v : Int32) {R : jM → Option jR} (h : v = w m ∧ q_tra p = (0, kd, m, m) ∧ q_tra (p + 1) = (1, x0, k, jm_n (cM p)) ∧ jm_k (cM (p + 1)) x0 = xk ∧ m < 1000000 ∧ jm_n (cM p) ≠ 0 ∧ q = p + 2 ∧ q ≤ 500) : (if v < 0 then none else if 1000000 ≤ v.toNatClampNeg then none else jx_lt (jm_new (nM L xs p) kd v.toNatClampNeg v.toNatClampNeg) (fun M2 => if jm_n (nM L xs p) = 0 then none else if jm_k M2 x0 = xk then jx_lt (jm_sr M2 x0 k (jm_n (nM L xs p))) fun M3 => R M3 else none)) = R (nM L xs q) := by
  obtain ⟨rfl, t0, t1, hk, hm, hn, rfl, hq⟩ := h
  have A := ag_all (L := L) (xs := xs) p (by omega)
  have B := ag_all (L := L) (xs := xs) (p + 1) (by omega)
  rw [← A.2.1] at t1 hn
  have e1 : nM L xs (p + 1) = jm_new (nM L xs p) kd m m := nm_s t0
  have e2 : nM L xs (p + 2) = jm_sr (nM L xs (p + 1)) x0 k (jm_n (nM L xs p)) := nm_s t1
  rw [if_neg (w_nn (by omega)), w_tc (by omega), if_neg (by omega), ← e1]
  show (if jm_n (nM L xs p) = 0 then none else if jm_k (nM L xs (p + 1)) x0 = xk then R (jm_sr (nM L xs (p + 1)) x0 k (jm_n (nM L xs p))) else none) = _
  rw [if_neg hn, if_pos (by rw [B.1]; exact hk), e2]
theorem obj_s (p q q' a x0 xk k kd c j : Nat) (as : List Value) (hj : jD j (.ref a :: as) (nM L xs (p + 1)) = some (none, nM L xs q)) {R : jM → Option jR} (h : q_tra p = (0, kd, 0, c) ∧ jm_n (cM p) = a ∧ q_tra q = (1, x0, k, a) ∧ jm_k (cM q) x0 = xk ∧ a ≠ 0 ∧ q' = q + 1 ∧ q' ≤ 500 ∧ p ≤ 500) : jx_lt (jm_new (nM L xs p) kd 0 c) (fun M1 => if jm_k M1 (jm_n (nM L xs p)) = kd then jx_rv (jD j (.ref (jm_n (nM L xs p)) :: as) M1) fun M2 => if jm_n (nM L xs p) = 0 then none else if jm_k M2 x0 = xk then jx_lt (jm_sr M2 x0 k (jm_n (nM L xs p))) fun M3 => R M3 else none else none) = R (nM L xs q') := by
  obtain ⟨t0, ha, t1, hk, hn, rfl, hq, hp⟩ := h
  have A := ag_all (L := L) (xs := xs) p hp
  have B := ag_all (L := L) (xs := xs) q (by omega)
  have ha' : jm_n (nM L xs p) = a := A.2.1.trans ha
  have e1 : nM L xs (p + 1) = jm_new (nM L xs p) kd 0 c := nm_s t0
  have e2 : nM L xs (q + 1) = jm_sr (nM L xs q) x0 k a := nm_s t1
  have hkd : jm_k (jm_new (nM L xs p) kd 0 c) (jm_n (nM L xs p)) = kd := if_pos rfl
  show (if jm_k (jm_new (nM L xs p) kd 0 c) (jm_n (nM L xs p)) = kd then jx_rv (jD j (.ref (jm_n (nM L xs p)) :: as) (jm_new (nM L xs p) kd 0 c)) _ else none) = _
  rw [if_pos hkd, ← e1, ha', hj]
  show (if a = 0 then none else if jm_k (nM L xs q) x0 = xk then R (jm_sr (nM L xs q) x0 k a) else none) = _
  rw [if_neg hn, if_pos (by rw [B.1]; exact hk), e2]
theorem ob2_s (p q q' a x0 xk k kd c j u v ru rv : Nat) (hj : jD j [.ref a, .ref ru, .ref rv] (nM L xs (p + 1)) = some (none, nM L xs q)) {R : jM → Option jR} (h : q_tra p = (0, kd, 0, c) ∧ jm_n (cM p) = a ∧ q_tra q = (1, x0, k, a) ∧ jm_k (cM q) x0 = xk ∧ jm_k (cM (p + 1)) x0 = xk ∧ jm_r (cM (p + 1)) x0 u = ru ∧ jm_r (cM (p + 1)) x0 v = rv ∧ ru ≠ 0 ∧ rv ≠ 0 ∧ a ≠ 0 ∧ q' = q + 1 ∧ q' ≤ 500 ∧ p + 1 ≤ 500) : jx_lt (jm_new (nM L xs p) kd 0 c) (fun M1 => if jm_k M1 x0 = xk then if jm_r M1 x0 u = 0 then none else if jm_k M1 x0 = xk then if jm_r M1 x0 v = 0 then none else if jm_k M1 (jm_n (nM L xs p)) = kd then jx_rv (jD j [.ref (jm_n (nM L xs p)), .ref (jm_r M1 x0 u), .ref (jm_r M1 x0 v)] M1) fun M2 => if jm_n (nM L xs p) = 0 then none else if jm_k M2 x0 = xk then jx_lt (jm_sr M2 x0 k (jm_n (nM L xs p))) fun M3 => R M3 else none else none else none else none) = R (nM L xs q') := by
  obtain ⟨t0, ha, t1, hk, hk1, hu, hv, hu0, hv0, hn, rfl, hq, hp⟩ := h
  have A := ag_all (L := L) (xs := xs) p (by omega)
  have A1 := ag_all (L := L) (xs := xs) (p + 1) hp
  have B := ag_all (L := L) (xs := xs) q (by omega)
  have ha' : jm_n (nM L xs p) = a := A.2.1.trans ha
  have e1 : nM L xs (p + 1) = jm_new (nM L xs p) kd 0 c := nm_s t0
  have e2 : nM L xs (q + 1) = jm_sr (nM L xs q) x0 k a := nm_s t1
  have hkd : jm_k (nM L xs (p + 1)) a = kd := by
    rw [e1, ← ha']
    exact if_pos rfl
  have hk1' : jm_k (nM L xs (p + 1)) x0 = xk := by rw [A1.1]; exact hk1
  have hu' : jm_r (nM L xs (p + 1)) x0 u = ru := by rw [A1.2.2.2.1]; exact hu
  have hv' : jm_r (nM L xs (p + 1)) x0 v = rv := by rw [A1.2.2.2.1]; exact hv
  rw [← e1, ha']
  show (if jm_k (nM L xs (p + 1)) x0 = xk then if jm_r (nM L xs (p + 1)) x0 u = 0 then none else if jm_k (nM L xs (p + 1)) x0 = xk then if jm_r (nM L xs (p + 1)) x0 v = 0 then none else if jm_k (nM L xs (p + 1)) a = kd then jx_rv (jD j [.ref a, .ref (jm_r (nM L xs (p + 1)) x0 u), .ref (jm_r (nM L xs (p + 1)) x0 v)] (nM L xs (p + 1))) _ else none else none else none) = _
  rw [if_pos hk1', hu', if_neg hu0, if_pos hk1', hv', if_neg hv0, if_pos hkd, hj]
  show (if a = 0 then none else if jm_k (nM L xs q) x0 = xk then R (jm_sr (nM L xs q) x0 k a) else none) = _
  rw [if_neg hn, if_pos (by rw [B.1]; exact hk), e2]
theorem top_s (p q a kd c j : Nat) (hj : jD j [.ref a] (nM L xs (p + 1)) = some (none, nM L xs q)) {R : jM → Option jR} (h : q_tra p = (0, kd, 0, c) ∧ jm_n (cM p) = a ∧ p ≤ 500) : jx_lt (jm_new (nM L xs p) kd 0 c) (fun M1 => if jm_k M1 (jm_n (nM L xs p)) = kd then jx_rv (jD j [.ref (jm_n (nM L xs p))] M1) fun M2 => R M2 else none) = R (nM L xs q) := by
  obtain ⟨t0, ha, hp⟩ := h
  have ha' : jm_n (nM L xs p) = a := (ag_all (L := L) (xs := xs) p hp).2.1.trans ha
  have e1 : nM L xs (p + 1) = jm_new (nM L xs p) kd 0 c := nm_s t0
  have hkd : jm_k (jm_new (nM L xs p) kd 0 c) (jm_n (nM L xs p)) = kd := if_pos rfl
  show (if jm_k (jm_new (nM L xs p) kd 0 c) (jm_n (nM L xs p)) = kd then jx_rv (jD j [.ref (jm_n (nM L xs p))] (jm_new (nM L xs p) kd 0 c)) _ else none) = _
  rw [if_pos hkd, ← e1, ha', hj]
  rfl
theorem si_s (p q x0 xk k m : Nat) (v : Int32) {R : jM → Option jR} (h : v = w m ∧ q_tra p = (2, x0, k, m) ∧ jm_k (cM p) x0 = xk ∧ q = p + 1 ∧ q ≤ 500) : (if jm_k (nM L xs p) x0 = xk then jx_lt (jm_si (nM L xs p) x0 k v) (fun M1 => R M1) else none) = R (nM L xs q) := by
  obtain ⟨rfl, t0, hk, rfl, hq⟩ := h
  have e1 : nM L xs (p + 1) = jm_si (nM L xs p) x0 k (w m) := nm_s t0
  rw [if_pos (by rw [(ag_all (L := L) (xs := xs) p (by omega)).1]; exact hk), e1]
  rfl
theorem sr_s (p q x0 xk k v : Nat) {R : jM → Option jR} (h : q_tra p = (1, x0, k, v) ∧ jm_k (cM p) x0 = xk ∧ v ≠ 0 ∧ q = p + 1 ∧ q ≤ 500) : (if v = 0 then none else if jm_k (nM L xs p) x0 = xk then jx_lt (jm_sr (nM L xs p) x0 k v) (fun M1 => R M1) else none) = R (nM L xs q) := by
  obtain ⟨t0, hk, hv, rfl, hq⟩ := h
  have e1 : nM L xs (p + 1) = jm_sr (nM L xs p) x0 k v := nm_s t0
  rw [if_neg hv, if_pos (by rw [(ag_all (L := L) (xs := xs) p (by omega)).1]; exact hk), e1]
  rfl
theorem w_ops {I : qI} {L' : qL} {s : qS} {m : Nat} {x : Int64} {kv : Int32} : jm_si (jm_si (jm_si (jm_sl (I, L', s) 182 m x) 184 m 0) 186 m kv) 181 4 (w (m + 1)) = (q_nI I m 0 kv, q_nL L' m x, s) := by
  rw [q_sl, q_si, q_si, q_si]
  simp only [q_up_ne (show (186 : Nat) ≠ 184 by decide), q_up_ne (show (181 : Nat) ≠ 186 by decide), q_up_ne (show (181 : Nat) ≠ 184 by decide)]
  rfl
theorem s_4 {p : Nat} (h : 2 ≤ (q_tra p).1 ∧ 2 ≤ (q_tra (p + 1)).1 ∧ 2 ≤ (q_tra (p + 2)).1 ∧ 2 ≤ (q_tra (p + 3)).1) (hr : qRdr (nM L xs p).2.2 140) : qRdr (nM L xs (p + 4)).2.2 140 := by
  have one : ∀ (o : Nat × Nat × Nat × Nat) (M : jM), 2 ≤ o.1 → (q_op o M).2.2 = M.2.2 := by
    rintro ⟨t, a, b, c⟩ M ho
    match t, ho with
    | 2, _ => rfl
    | t + 3, _ => rfl
  have e : (nM L xs (p + 4)).2.2 = (nM L xs p).2.2 := by
    show (q_op (q_tra (p + 3)) (q_op (q_tra (p + 2)) (q_op (q_tra (p + 1)) (q_op (q_tra p) (nM L xs p))))).2.2 = _
    rw [one _ _ h.2.2.2, one _ _ h.2.2.1, one _ _ h.2.1, one _ _ h.1]
  rw [e]
  exact hr
theorem word_s (p q c m x vn : Nat) (kv : Int32) (hr : qRdr (nM L xs p).2.2 140) {R : jM → Option jR} (h : q_tra p = (3, 182, m, x) ∧ q_tra (p + 1) = (2, 184, m, 0) ∧ q_tra (p + 2) = (2, 186, m, vn) ∧ q_tra (p + 3) = (2, 181, 4, m + 1) ∧ kv = w vn ∧ q_tw c = Int64.ofNat x ∧ c < 59 ∧ jm_k (cM p) c = 40 ∧ jm_k (cM p) 181 = 6 ∧ m < 31 ∧ jm_i (cM p) 181 4 = w m ∧ q = p + 4 ∧ q ≤ 500) : jx_rl (jD 88 [.ref c] (nM L xs p)) (fun v M1 => if jm_k M1 181 = 6 then jx_rv (jD 73 [.ref 181, .long v, .int (0 : Int32), .int kv] M1) fun M2 => R M2 else none) = R (nM L xs q) := by
  obtain ⟨t0, t1, t2, t3, rfl, htw, hc, hkc, hk6, hm, hi4, rfl, hq⟩ := h
  have A := ag_all (L := L) (xs := xs) p (by omega)
  have e1 : jD 88 [.ref c] (nM L xs p) = some (some (.long (q_tw c)), nM L xs p) := text_c (I := (nM L xs p).1) (L := (nM L xs p).2.1) (s := (nM L xs p).2.2) hc (by show jm_k (nM L xs p) c = 40; rw [A.1]; exact hkc)
  have e2 : jD 73 [.ref 181, .long (q_tw c), .int 0, .int (w vn)] (nM L xs p) = some (none, q_nI (nM L xs p).1 m 0 (w vn), q_nL (nM L xs p).2.1 m (q_tw c), (nM L xs p).2.2) := c73 (I := (nM L xs p).1) (L := (nM L xs p).2.1) hr hm (by show jm_i (nM L xs p) 181 4 = w m; rw [A.2.2.2.2.2.2.1 181 (by decide)]; exact hi4) _ _ _
  have e3 : nM L xs (p + 4) = (q_nI (nM L xs p).1 m 0 (w vn), q_nL (nM L xs p).2.1 m (q_tw c), (nM L xs p).2.2) := by
    refine Eq.trans ?_ w_ops
    show q_op (q_tra (p + 3)) (q_op (q_tra (p + 2)) (q_op (q_tra (p + 1)) (q_op (q_tra p) (nM L xs p)))) = _
    rw [t0, t1, t2, t3, htw]
    rfl
  rw [e1]
  show (if jm_k (nM L xs p) 181 = 6 then jx_rv (jD 73 [.ref 181, .long (q_tw c), .int (0 : Int32), .int (w vn)] (nM L xs p)) _ else none) = _
  rw [if_pos (by rw [A.1]; exact hk6), e2, e3]
  rfl
theorem rd_ag {p : Nat} (hp : p ≤ 500) (h : qRdr (cM p).2.2 140) : qRdr (nM L xs p).2.2 140 := by
  have A := ag_all (L := L) (xs := xs) p hp
  have hk : qk (nM L xs p).2.2 = qk (cM p).2.2 := A.1
  have hr : qr (nM L xs p).2.2 = qr (cM p).2.2 := A.2.2.2.1
  have hz : ∀ a, a ≠ 1 → qz (nM L xs p).2.2 a = qz (cM p).2.2 a := A.2.2.2.2.2.1
  unfold qRdr qFl qRow at h ⊢
  rw [hk, hr]
  simpa (discharger := omega) only [hz] using h
end NMS
