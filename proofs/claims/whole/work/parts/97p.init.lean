/-! THE START HOLDS -/
theorem ci_0 {a : Nat} : ∀ p, (∀ q, q < p → (q_tra q).1 ≠ 2 ∨ (q_tra q).2.1 ≠ a) → ∀ k, jm_i (cM p) a k = 0 := by
  intro p
  induction p with
  | zero =>
    intro _ k
    show (if a = 1 then (0 : Int32) else 0) = 0
    split <;> rfl
  | succ p ih =>
    intro h k
    have h0 := ih (fun q hq => h q (by omega)) k
    have h1 := h p (by omega)
    show jm_i (q_op (q_tra p) (cM p)) a k = 0
    generalize q_tra p = o at h1 ⊢
    generalize cM p = C at h0 ⊢
    obtain ⟨t, b, c, d⟩ := o
    match t, h1 with
    | 0, _ =>
      show (if a = jm_n C then (0 : Int32) else jm_i C a k) = 0
      split
      · rfl
      · exact h0
    | 1, _ => exact h0
    | 2, h1 =>
      show (if a = b ∧ k = c then w d else jm_i C a k) = 0
      rw [if_neg]
      · exact h0
      · rintro ⟨e, -⟩
        rcases h1 with h1 | h1
        · exact h1 rfl
        · exact h1 e.symm
    | t + 3, _ => exact h0
theorem fc_x0 : qk (cM 375).2.2 100 = 11 ∧ qr (cM 375).2.2 100 0 = 101 ∧ qr (cM 375).2.2 100 1 = 140 ∧ qr (cM 375).2.2 100 2 = 179 ∧ qr (cM 375).2.2 100 3 = 181 ∧ qr (cM 375).2.2 100 4 = 188 := by
  try unfold qYr
  try unfold qYr0
  try unfold qPl
  try unfold qFl
  try unfold qRow
  decide +kernel
theorem fc_x1 : qr (cM 375).2.2 100 5 = 191 ∧ qr (cM 375).2.2 100 6 = 194 ∧ qr (cM 375).2.2 100 7 = 199 ∧ qr (cM 375).2.2 100 8 = 214 ∧ qr (cM 375).2.2 100 9 = 229 ∧ qr (cM 375).2.2 100 10 = 234 := by
  try unfold qYr
  try unfold qYr0
  try unfold qPl
  try unfold qFl
  try unfold qRow
  decide +kernel
theorem fc_x2 : qr (cM 375).2.2 100 11 = 237 ∧ ((101 = 101 ∧ 140 = 140) ∨ (101 = 140 ∧ 140 = 101)) ∧ qFl (cM 375).2.2 101 ∧ qFl (cM 375).2.2 140 ∧ qRow (cM 375).2.2 179 1100 ∧ qPl (cM 375).2.2 188 := by
  try unfold qYr
  try unfold qYr0
  try unfold qPl
  try unfold qFl
  try unfold qRow
  decide +kernel
theorem fc_x3 : qPl (cM 375).2.2 191 ∧ qk (cM 375).2.2 194 = 1 ∧ qr (cM 375).2.2 194 0 = 195 ∧ qr (cM 375).2.2 194 1 = 197 ∧ qRow (cM 375).2.2 195 304 ∧ qRow (cM 375).2.2 197 57 := by
  try unfold qYr
  try unfold qYr0
  try unfold qPl
  try unfold qFl
  try unfold qRow
  decide +kernel
theorem fc_x4 : qYr (cM 375).2.2 199 101 188 ∧ qYr0 (cM 375).2.2 214 ∧ qk (cM 375).2.2 229 = 9 ∧ qr (cM 375).2.2 229 0 = 230 ∧ qr (cM 375).2.2 229 1 = 232 ∧ qRow (cM 375).2.2 230 1800 := by
  try unfold qYr
  try unfold qYr0
  try unfold qPl
  try unfold qFl
  try unfold qRow
  decide +kernel
theorem fc_x5 : qRow (cM 375).2.2 232 6 ∧ qk (cM 375).2.2 234 = 2 ∧ qr (cM 375).2.2 234 0 = 235 ∧ qRow (cM 375).2.2 235 160 ∧ qk (cM 375).2.2 237 = 4 ∧ qr (cM 375).2.2 237 0 = 238 := by
  try unfold qYr
  try unfold qYr0
  try unfold qPl
  try unfold qFl
  try unfold qRow
  decide +kernel
theorem fc_x6 : qRow (cM 375).2.2 238 64 ∧ qk (cM 375).2.2 181 = 6 ∧ qr (cM 375).2.2 181 0 = 187 ∧ qr (cM 375).2.2 181 1 = 182 ∧ qk (cM 375).2.2 182 = 21 ∧ qz (cM 375).2.2 182 = 31 := by
  try unfold qYr
  try unfold qYr0
  try unfold qPl
  try unfold qFl
  try unfold qRow
  decide +kernel
theorem fc_x7 : qr (cM 375).2.2 181 2 = 183 ∧ qRow (cM 375).2.2 183 31 ∧ qr (cM 375).2.2 181 3 = 185 ∧ qRow (cM 375).2.2 185 31 ∧ qk (cM 375).2.2 187 = 8 ∧ qr (cM 375).2.2 187 0 = 179 := by
  try unfold qYr
  try unfold qYr0
  try unfold qPl
  try unfold qFl
  try unfold qRow
  decide +kernel
theorem fc_xo : qXo (cM 375).2.2 101 140 := by
  obtain ⟨a0, a1, a2, a3, a4, a5⟩ := fc_x0
  obtain ⟨a6, a7, a8, a9, a10, a11⟩ := fc_x1
  obtain ⟨a12, a13, a14, a15, a16, a17⟩ := fc_x2
  obtain ⟨a18, a19, a20, a21, a22, a23⟩ := fc_x3
  obtain ⟨a24, a25, a26, a27, a28, a29⟩ := fc_x4
  obtain ⟨a30, a31, a32, a33, a34, a35⟩ := fc_x5
  obtain ⟨a36, a37, a38, a39, a40, a41⟩ := fc_x6
  obtain ⟨a42, a43, a44, a45, a46, a47⟩ := fc_x7
  exact ⟨a0, a1, a2, a3, a4, a5, a6, a7, a8, a9, a10, a11, a12, a13, a14, a15, a16, a17, a18, a19, a20, a21, a22, a23, a24, a25, a26, a27, a28, a29, a30, a31, a32, a33, a34, a35, a36, a37, a38, a39, a40, a41, a42, a43, a44, a45, a46, a47⟩
theorem fc_mo : qMo (cM 375).2.2 240 := by
  unfold qMo
  decide +kernel
theorem fc_nm : ∀ k, k < 11 → jm_l (cM 375) 182 k = wl (q_lw.getD k 0) ∧ jm_i (cM 375) (183 + 1) k = 0 ∧ jm_i (cM 375) (185 + 1) k = w (q_ln.getD k 0) := by decide +kernel
theorem fc_tr : jm_i (cM 375) 100 14 = jm_i (cM 375) 240 13 ∧ jm_i (cM 375) 100 13 = jm_i (cM 375) 240 1 ∧ jm_i (cM 375) 240 2 = (if jm_i (cM 375) 100 13 = 4 then jm_i (cM 375) 100 15 else -1) := by decide +kernel
theorem fc_c : jm_i (cM 375) 100 12 = w 0 ∧ jm_i (cM 375) 240 6 = w 0 ∧ jm_i (cM 375) 194 3 = 0 ∧ jm_i (cM 375) 194 4 = 0 ∧ jm_r (cM 375) 240 3 = 0 ∧ jm_k (cM 375) 1 = 30 ∧ (∀ a, a < 59 → 2 ≤ a → jm_k (cM 375) a = 40) ∧ jm_k (cM 375) 259 = 21 ∧ jm_z (cM 375) 259 = 1 ∧ jm_n (cM 375) = 260 ∧ jm_w (cM 375) ≤ 100000 := by decide +kernel
theorem fc_0 : (∀ k, jm_i (cM 375) 180 k = 0) ∧ (∀ k, jm_i (cM 375) 241 k = 0) ∧ (∀ k, jm_i (cM 375) 103 k = 0) := ⟨ci_0 _ (by decide +kernel), ci_0 _ (by decide +kernel), ci_0 _ (by decide +kernel)⟩
section FIN
variable {I : qI} {L' : qL} {s : qS} {C : jM} {L : Nat} {xs : Nat → Int32}
theorem row_ag (hk : qk s = qk C.2.2) (hr : qr s = qr C.2.2) (hz : ∀ a, a ≠ 1 → qz s a = qz C.2.2 a) {r n : Nat} (h0 : r ≠ 0) (h : qRow C.2.2 r n) : qRow s r n := ⟨(congrFun hk _).trans h.1, (congrFun (congrFun hr _) _).trans h.2.1, (congrFun hk _).trans h.2.2.1, (hz _ (by omega)).trans h.2.2.2.1, h.2.2.2.2⟩
theorem fl_ag (hk : qk s = qk C.2.2) (hr : qr s = qr C.2.2) (hz : ∀ a, a ≠ 1 → qz s a = qz C.2.2 a) {r : Nat} (h0 : r ≠ 0) (h : qFl C.2.2 r) : qFl s r := ⟨(congrFun hk _).trans h.1, fun k hkk => ⟨(congrFun (congrFun hr _) _).trans (h.2 k hkk).1, row_ag hk hr hz (by omega) (h.2 k hkk).2⟩⟩
theorem pl_ag (hk : qk s = qk C.2.2) (hr : qr s = qr C.2.2) (hz : ∀ a, a ≠ 1 → qz s a = qz C.2.2 a) {r : Nat} (h0 : r ≠ 0) (h : qPl C.2.2 r) : qPl s r := ⟨(congrFun hk _).trans h.1, (congrFun (congrFun hr _) _).trans h.2.1, row_ag hk hr hz (by omega) h.2.2⟩
theorem yr0_ag (hk : qk s = qk C.2.2) (hr : qr s = qr C.2.2) (hz : ∀ a, a ≠ 1 → qz s a = qz C.2.2 a) {r : Nat} (h0 : r ≠ 0) (h : qYr0 C.2.2 r) : qYr0 s r := ⟨(congrFun hk _).trans h.1, fun k hkk => ⟨(congrFun (congrFun hr _) _).trans (h.2 k hkk).1, row_ag hk hr hz (by omega) (h.2 k hkk).2⟩⟩
theorem yr_ag (hk : qk s = qk C.2.2) (hr : qr s = qr C.2.2) (hz : ∀ a, a ≠ 1 → qz s a = qz C.2.2 a) {r t q : Nat} (h0 : r ≠ 0) (h : qYr C.2.2 r t q) : qYr s r t q := ⟨yr0_ag hk hr hz h0 h.1, (congrFun (congrFun hr _) _).trans h.2.1, (congrFun (congrFun hr _) _).trans h.2.2⟩
theorem xo_ag (hk : qk s = qk C.2.2) (hr : qr s = qr C.2.2) (hz : ∀ a, a ≠ 1 → qz s a = qz C.2.2 a) (h : qXo C.2.2 101 140) : qXo s 101 140 := by
  obtain ⟨a0, a1, a2, a3, a4, a5, a6, a7, a8, a9, a10, a11, a12, a13, a14, a15, a16, a17, a18, a19, a20, a21, a22, a23, a24, a25, a26, a27, a28, a29, a30, a31, a32, a33, a34, a35, a36, a37, a38, a39, a40, a41, a42, a43, a44, a45, a46, a47⟩ := h
  exact ⟨(congrFun hk _).trans a0, (congrFun (congrFun hr _) _).trans a1, (congrFun (congrFun hr _) _).trans a2, (congrFun (congrFun hr _) _).trans a3, (congrFun (congrFun hr _) _).trans a4, (congrFun (congrFun hr _) _).trans a5, (congrFun (congrFun hr _) _).trans a6, (congrFun (congrFun hr _) _).trans a7, (congrFun (congrFun hr _) _).trans a8, (congrFun (congrFun hr _) _).trans a9, (congrFun (congrFun hr _) _).trans a10, (congrFun (congrFun hr _) _).trans a11, (congrFun (congrFun hr _) _).trans a12, a13, fl_ag hk hr hz (by omega) a14, fl_ag hk hr hz (by omega) a15, row_ag hk hr hz (by omega) a16, pl_ag hk hr hz (by omega) a17, pl_ag hk hr hz (by omega) a18, (congrFun hk _).trans a19, (congrFun (congrFun hr _) _).trans a20, (congrFun (congrFun hr _) _).trans a21, row_ag hk hr hz (by omega) a22, row_ag hk hr hz (by omega) a23, yr_ag hk hr hz (by omega) a24, yr0_ag hk hr hz (by omega) a25, (congrFun hk _).trans a26, (congrFun (congrFun hr _) _).trans a27, (congrFun (congrFun hr _) _).trans a28, row_ag hk hr hz (by omega) a29, row_ag hk hr hz (by omega) a30, (congrFun hk _).trans a31, (congrFun (congrFun hr _) _).trans a32, row_ag hk hr hz (by omega) a33, (congrFun hk _).trans a34, (congrFun (congrFun hr _) _).trans a35, row_ag hk hr hz (by omega) a36, (congrFun hk _).trans a37, (congrFun (congrFun hr _) _).trans a38, (congrFun (congrFun hr _) _).trans a39, (congrFun hk _).trans a40, (hz _ (by omega)).trans a41, (congrFun (congrFun hr _) _).trans a42, row_ag hk hr hz (by omega) a43, (congrFun (congrFun hr _) _).trans a44, row_ag hk hr hz (by omega) a45, (congrFun hk _).trans a46, (congrFun (congrFun hr _) _).trans a47⟩
set_option maxRecDepth 100000 in
theorem mo_ag (hk : qk s = qk C.2.2) (hr : qr s = qr C.2.2) (hz : ∀ a, a ≠ 1 → qz s a = qz C.2.2 a) (h : qMo C.2.2 240) : qMo s 240 := by
  unfold qMo at h ⊢
  rw [hk, hr]
  simpa (discharger := omega) only [hz] using h
theorem fin_gen (hk : qk s = qk C.2.2) (hn : qn s = jm_n C) (hr : qr s = qr C.2.2) (hl : L' = jm_l C) (hz : ∀ a, a ≠ 1 → qz s a = qz C.2.2 a) (hi : ∀ a, a ≠ 1 → I a = jm_i C a) (h1 : I 1 = xs) (h2 : qz s 1 = L) (xo : qXo C.2.2 101 140) (mo : qMo C.2.2 240)
    (nm : ∀ k, k < 11 → jm_l C 182 k = wl (q_lw.getD k 0) ∧ jm_i C (183 + 1) k = 0 ∧ jm_i C (185 + 1) k = w (q_ln.getD k 0)) (tr : jm_i C 100 14 = jm_i C 240 13 ∧ jm_i C 100 13 = jm_i C 240 1 ∧ jm_i C 240 2 = (if jm_i C 100 13 = 4 then jm_i C 100 15 else -1))
    (fc : jm_i C 100 12 = w 0 ∧ jm_i C 240 6 = w 0 ∧ jm_i C 194 3 = 0 ∧ jm_i C 194 4 = 0 ∧ jm_r C 240 3 = 0 ∧ jm_k C 1 = 30 ∧ (∀ a, a < 59 → 2 ≤ a → jm_k C a = 40) ∧ jm_k C 259 = 21 ∧ jm_z C 259 = 1 ∧ jm_n C = 260 ∧ jm_w C ≤ 100000) (f0 : (∀ k, jm_i C 180 k = 0) ∧ (∀ k, jm_i C 241 k = 0) ∧ (∀ k, jm_i C 103 k = 0)) : qOk I L' s 101 140 xs L := by
  obtain ⟨c1, c2, c3, c4, c5, c6, c7, c8, c9, c10, c11⟩ := fc
  refine ⟨fun k hk' => ?_, ⟨⟨0, (congrFun (hi 100 (by decide)) 12).trans c1, by omega, (congrFun (hi 240 (by decide)) 6).trans c2⟩, fun k _ => ⟨0, by omega, ?_, ?_⟩⟩, ?_, Or.inl ⟨xo_ag hk hr hz xo, mo_ag hk hr hz mo, ?_, fun k _ => ?_, ?_, ?_⟩, h1, ?_, h2, fun a ha ha' => ?_, ?_, ?_, ?_⟩
  · rw [hl, hi _ (by decide), hi _ (by decide)]
    exact nm k hk'
  · rw [hi _ (by decide)]
    exact f0.1 k
  · rw [hi _ (by decide), show jm_i C (240 + 1) k = 0 from f0.2.1 k]
    decide
  · unfold qTr
    rw [hi 100 (by decide), hi 240 (by decide)]
    exact tr
  · rw [hr]
    exact c5
  · show I (101 + 1 + 2 * 0 + 1) k = 0
    rw [hi _ (by decide)]
    exact f0.2.2 k
  · rw [hi _ (by decide)]
    exact c3
  · rw [hi _ (by decide)]
    exact c4
  · rw [hk]
    exact c6
  · rw [hk]
    exact c7 a ha' ha
  · rw [hk]
    exact c8
  · rw [hz _ (by decide)]
    exact c9
  · rw [hn, c10]
    decide
theorem fin_ok : qOk (nM L xs 375).1 (nM L xs 375).2.1 (nM L xs 375).2.2 101 140 xs L := by
  have A := ag_all (L := L) (xs := xs) 375 (by omega)
  exact fin_gen (C := cM 375) A.1 A.2.1 A.2.2.2.1 A.2.2.2.2.1 A.2.2.2.2.2.1 A.2.2.2.2.2.2.1 A.2.2.2.2.2.2.2.1 A.2.2.2.2.2.2.2.2.1 fc_xo fc_mo fc_nm fc_tr fc_c fc_0
end FIN
