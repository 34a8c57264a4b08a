/-! THE LAW'S BLOCKS: each of them goes on to the next call -/
def qBk (I : qI) (L : qL) (s : qS) (X : Nat → Int32) (N i k : Nat) : Prop := ∃ I2 L2 s2 t2 t2', jd 316 k [some (.ref 1), some (.ref 100), some (.ref 240), some (.ref 259), some (.int (w i)), none, none] [] (I, L, s) = jd 316 69 [some (.ref 1), some (.ref 100), some (.ref 240), some (.ref 259), some (.int (w i)), none, none] [] (I2, L2, s2) ∧ qOk I2 L2 s2 t2 t2' X N ∧ qn s2 ≤ qn s + 24 ∧ qw s2 ≤ qw s + 1000
section IXL
variable {i N : Nat}
theorem n1 (hi : i + 6 ≤ N) (hN : N ≤ 3072) : w i + (1 : Int32) = w (i + 1) := w_add (b := 1)
theorem b1 (hi : i + 6 ≤ N) (hN : N ≤ 3072) : ¬ w (i + 1) < 0 := w_nn (by omega)
theorem z1 (hi : i + 6 ≤ N) (hN : N ≤ 3072) : ¬ N ≤ i + 1 := by omega
theorem c1 (hi : i + 6 ≤ N) (hN : N ≤ 3072) : (w (i + 1)).toNatClampNeg = i + 1 := w_tc (by omega)
theorem n2 (hi : i + 6 ≤ N) (hN : N ≤ 3072) : w i + (2 : Int32) = w (i + 2) := w_add (b := 2)
theorem b2 (hi : i + 6 ≤ N) (hN : N ≤ 3072) : ¬ w (i + 2) < 0 := w_nn (by omega)
theorem z2 (hi : i + 6 ≤ N) (hN : N ≤ 3072) : ¬ N ≤ i + 2 := by omega
theorem c2 (hi : i + 6 ≤ N) (hN : N ≤ 3072) : (w (i + 2)).toNatClampNeg = i + 2 := w_tc (by omega)
theorem n3 (hi : i + 6 ≤ N) (hN : N ≤ 3072) : w i + (3 : Int32) = w (i + 3) := w_add (b := 3)
theorem b3 (hi : i + 6 ≤ N) (hN : N ≤ 3072) : ¬ w (i + 3) < 0 := w_nn (by omega)
theorem z3 (hi : i + 6 ≤ N) (hN : N ≤ 3072) : ¬ N ≤ i + 3 := by omega
theorem c3 (hi : i + 6 ≤ N) (hN : N ≤ 3072) : (w (i + 3)).toNatClampNeg = i + 3 := w_tc (by omega)
theorem n4 (hi : i + 6 ≤ N) (hN : N ≤ 3072) : w i + (4 : Int32) = w (i + 4) := w_add (b := 4)
theorem b4 (hi : i + 6 ≤ N) (hN : N ≤ 3072) : ¬ w (i + 4) < 0 := w_nn (by omega)
theorem z4 (hi : i + 6 ≤ N) (hN : N ≤ 3072) : ¬ N ≤ i + 4 := by omega
theorem c4 (hi : i + 6 ≤ N) (hN : N ≤ 3072) : (w (i + 4)).toNatClampNeg = i + 4 := w_tc (by omega)
theorem n5 (hi : i + 6 ≤ N) (hN : N ≤ 3072) : w i + (5 : Int32) = w (i + 5) := w_add (b := 5)
theorem b5 (hi : i + 6 ≤ N) (hN : N ≤ 3072) : ¬ w (i + 5) < 0 := w_nn (by omega)
theorem z5 (hi : i + 6 ≤ N) (hN : N ≤ 3072) : ¬ N ≤ i + 5 := by omega
theorem c5 (hi : i + 6 ≤ N) (hN : N ≤ 3072) : (w (i + 5)).toNatClampNeg = i + 5 := w_tc (by omega)
end IXL

section STP
variable {I : qI} {L : qL} {s : qS} {t t' : Nat} {X : Nat → Int32} {N : Nat}
theorem t_118 (ok : qOk I L s t t' X N) (a : Int32) : qStep I L s X N 118 [.ref 100, .int a] 246 [.ref 240, .int a] := by
  rcases ok.2.2.2.1 with h0 | ⟨f, U, S, dn, R, O, W, hv, hfn⟩
  · exact step_0 ok h0 (nf_stop h0 a)
  · exact step_1 ok hv hfn (ansA_0 hv (p_stop hv.1 a))
theorem t_119 (ok : qOk I L s t t' X N) (a b c : Int32) : qStep I L s X N 119 [.ref 100, .int a, .int b, .int c] 247 [.ref 240, .int a, .int b, .int c] := by
  rcases ok.2.2.2.1 with h0 | ⟨f, U, S, dn, R, O, W, hv, hfn⟩
  · exact step_0 ok h0 (nf_way h0 a b c)
  · exact step_1 ok hv hfn (ansA_0 hv (p_way hv.1 a b c))
theorem t_120 (ok : qOk I L s t t' X N) (a b : Int32) : qStep I L s X N 120 [.ref 100, .int a, .int b] 248 [.ref 240, .int a, .int b] := by
  rcases ok.2.2.2.1 with h0 | ⟨f, U, S, dn, R, O, W, hv, hfn⟩
  · exact step_0 ok h0 (nf_umbrella h0 a b)
  · exact step_1 ok hv hfn (ansA_0 hv (p_umbrella hv.1 a b))
theorem t_121 (ok : qOk I L s t t' X N) (a b : Int32) : qStep I L s X N 121 [.ref 100, .int a, .int b] 249 [.ref 240, .int a, .int b] := by
  rcases ok.2.2.2.1 with h0 | ⟨f, U, S, dn, R, O, W, hv, hfn⟩
  · exact step_0 ok h0 (nf_flies h0 a b)
  · exact step_1 ok hv hfn (ansA_0 hv (p_flies hv.1 a b))
theorem t_122 (ok : qOk I L s t t' X N) (a b : Int32) : qStep I L s X N 122 [.ref 100, .int a, .int b] 250 [.ref 240, .int a, .int b] := by
  rcases ok.2.2.2.1 with h0 | ⟨f, U, S, dn, R, O, W, hv, hfn⟩
  · exact step_0 ok h0 (nf_at h0 a b)
  · exact step_1 ok hv hfn (ansA_0 hv (p_at hv.1 hv.2.1 a b))
theorem t_123 (ok : qOk I L s t t' X N) (a b : Int32) : qStep I L s X N 123 [.ref 100, .int a, .int b] 251 [.ref 240, .int a, .int b] := by
  rcases ok.2.2.2.1 with h0 | ⟨f, U, S, dn, R, O, W, hv, hfn⟩
  · exact step_0 ok h0 (nf_strength h0 a b)
  · exact step_1 ok hv hfn (ansA_0 hv (p_strength hv.1 hv.2.1 a b))
theorem t_124 (ok : qOk I L s t t' X N) (a b : Int32) : qStep I L s X N 124 [.ref 100, .int a, .int b] 252 [.ref 240, .int a, .int b] := by
  rcases ok.2.2.2.1 with h0 | ⟨f, U, S, dn, R, O, W, hv, hfn⟩
  · exact step_0 ok h0 (nf_flock h0 a b)
  · exact step_1 ok hv hfn (ansA_0 hv (p_flock hv.1 hv.2.1 a b))
theorem t_125 (ok : qOk I L s t t' X N) (a : Int32) : qStep I L s X N 125 [.ref 100, .int a] 253 [.ref 240, .int a] := by
  rcases ok.2.2.2.1 with h0 | ⟨f, U, S, dn, R, O, W, hv, hfn⟩
  · exact step_0 ok h0 (nf_falls h0 a)
  · exact step_1 ok hv hfn (ansA_0 hv (p_falls hv.1 hv.2.1 a))
theorem t_126 (ok : qOk I L s t t' X N)  : qStep I L s X N 126 [.ref 100] 254 [.ref 240] := by
  rcases ok.2.2.2.1 with h0 | ⟨f, U, S, dn, R, O, W, hv, hfn⟩
  · exact step_0 ok h0 (nf_arrived h0 )
  · exact step_1 ok hv hfn (ansA_0 hv (p_arrived hv.1 hv.2.1))
theorem t_127 (ok : qOk I L s t t' X N) (a b : Int32) : qStep I L s X N 127 [.ref 100, .int a, .int b] 255 [.ref 240, .int a, .int b] := by
  rcases ok.2.2.2.1 with h0 | ⟨f, U, S, dn, R, O, W, hv, hfn⟩
  · exact step_0 ok h0 (nf_many h0 a b)
  · exact step_1 ok hv hfn (ansA_0 hv (p_many hv.1 hv.2.1 a b))
theorem t_128 (ok : qOk I L s t t' X N)  : qStep I L s X N 128 [.ref 100] 256 [.ref 240] := by
  rcases ok.2.2.2.1 with h0 | ⟨f, U, S, dn, R, O, W, hv, hfn⟩
  · exact step_0 ok h0 (nf_wedge h0 )
  · exact step_1 ok hv hfn (ansA_0 hv (p_wedge hv.1 hv.2.1))
theorem t_129 (ok : qOk I L s t t' X N)  : qStep I L s X N 129 [.ref 100] 257 [.ref 240] := by
  rcases ok.2.2.2.1 with h0 | ⟨f, U, S, dn, R, O, W, hv, hfn⟩
  · exact step_0 ok h0 (nf_strongest h0 )
  · exact step_1 ok hv hfn (ansA_0 hv (p_strongest hv.1 hv.2.1 hv.2.2.2.2.1.2.2.1))
theorem t_130 (ok : qOk I L s t t' X N)  : qStep I L s X N 130 [.ref 100] 258 [.ref 240] := by
  rcases ok.2.2.2.1 with h0 | ⟨f, U, S, dn, R, O, W, hv, hfn⟩
  · exact step_0 ok h0 (nf_judge h0 )
  · exact step_1 ok hv hfn (ansA_0 hv (p_judge hv.1 hv.2.1))
theorem t_131 (ok : qOk I L s t t' X N) (a : Int32) : qStep I L s X N 131 [.ref 100, .int a] 262 [.ref 240, .int a] := by
  rcases ok.2.2.2.1 with h0 | ⟨f, U, S, dn, R, O, W, hv, hfn⟩
  · exact step_0 ok h0 (nf_waysOut h0 a)
  · exact step_1 ok hv hfn (ansA_0 hv (p_waysOut hv.1 hv.2.2.1 a))
theorem t_132 (ok : qOk I L s t t' X N) (a b c : Int32) : qStep I L s X N 132 [.ref 100, .int a, .int b, .int c] 263 [.ref 240, .int a, .int b, .int c] := by
  rcases ok.2.2.2.1 with h0 | ⟨f, U, S, dn, R, O, W, hv, hfn⟩
  · exact step_0 ok h0 (nf_wayOut h0 a b c)
  · exact step_1 ok hv hfn (ansA_0 hv (p_wayOut hv.1 hv.2.2.1 a b c))
theorem t_133 (ok : qOk I L s t t' X N) (a b c : Int32) : qStep I L s X N 133 [.ref 100, .int a, .int b, .int c] 266 [.ref 240, .int a, .int b, .int c] := by
  rcases ok.2.2.2.1 with h0 | ⟨f, U, S, dn, R, O, W, hv, hfn⟩
  · exact step_0 ok h0 (nf_chance h0 a b c)
  · exact step_1 ok hv hfn (ansA_0 hv (p_chance hv.1 hv.2.2.1 a b c))
theorem t_134 (ok : qOk I L s t t' X N) (a : Int32) : qStep I L s X N 134 [.ref 100, .int a] 267 [.ref 240, .int a] := by
  rcases ok.2.2.2.1 with h0 | ⟨f, U, S, dn, R, O, W, hv, hfn⟩
  · exact step_0 ok h0 (nf_bestWay h0 a)
  · exact step_1 ok hv hfn (ansA_0 hv (p_bestWay hv.1 hv.2.2.1 a))
theorem t_135 (ok : qOk I L s t t' X N) (a : Int32) : qStep I L s X N 135 [.ref 100, .int a] 270 [.ref 240, .int a] := by
  rcases ok.2.2.2.1 with h0 | ⟨f, U, S, dn, R, O, W, hv, hfn⟩
  · exact step_0 ok h0 (nf_bestDay h0 a)
  · exact step_1 ok hv hfn (ansA_0 hv (p_bestDay hv.1 a))
theorem t_136 (ok : qOk I L s t t' X N) (a : Int32) : qStep I L s X N 136 [.ref 100, .int a] 271 [.ref 240, .int a] := by
  rcases ok.2.2.2.1 with h0 | ⟨f, U, S, dn, R, O, W, hv, hfn⟩
  · exact step_0 ok h0 (nf_bestMany h0 a)
  · exact step_1 ok hv hfn (ansA_0 hv (p_bestMany hv.1 a))
theorem t_137 (ok : qOk I L s t t' X N) (a : Int32) : qStep I L s X N 137 [.ref 100, .int a] 275 [.ref 240, .int a] := by
  rcases ok.2.2.2.1 with h0 | ⟨f, U, S, dn, R, O, W, hv, hfn⟩
  · exact step_0 ok h0 (nf_fits h0 a)
  · exact step_1 ok hv hfn (ansA_F hv (p_fits hv.1 hv.2.2.1 hv.2.2.2.1 a))
theorem t_138 (ok : qOk I L s t t' X N) (a : Int32) : qStep I L s X N 138 [.ref 100, .int a] 276 [.ref 240, .int a] := by
  rcases ok.2.2.2.1 with h0 | ⟨f, U, S, dn, R, O, W, hv, hfn⟩
  · exact step_0 ok h0 (nf_could h0 a)
  · exact step_1 ok hv hfn (ansA_F hv (p_could hv.1 hv.2.2.1 hv.2.2.2.1 a))
theorem t_139 (ok : qOk I L s t t' X N) (a : Int32) : qStep I L s X N 139 [.ref 100, .int a] 277 [.ref 240, .int a] := by
  rcases ok.2.2.2.1 with h0 | ⟨f, U, S, dn, R, O, W, hv, hfn⟩
  · exact step_0 ok h0 (nf_surely h0 a)
  · exact step_1 ok hv hfn (ansA_F hv (p_surely hv.1 hv.2.2.1 hv.2.2.2.1 a))
theorem t_140 (ok : qOk I L s t t' X N) (a : Int32) : qStep I L s X N 140 [.ref 100, .int a] 279 [.ref 240, .int a] := by
  rcases ok.2.2.2.1 with h0 | ⟨f, U, S, dn, R, O, W, hv, hfn⟩
  · exact step_0 ok h0 (nf_likeliest h0 a)
  · exact step_1 ok hv hfn (ansA_F hv (p_likeliest hv.1 hv.2.2.1 hv.2.2.2.1 a))
theorem t_141 (ok : qOk I L s t t' X N) (a : Int32) : qStep I L s X N 141 [.ref 100, .int a] 281 [.ref 240, .int a] := by
  rcases ok.2.2.2.1 with h0 | ⟨f, U, S, dn, R, O, W, hv, hfn⟩
  · exact step_0 ok h0 (nf_count h0 a)
  · exact step_1 ok hv hfn (ansA_F hv (p_count hv.1 hv.2.2.1 hv.2.2.2.1 a))
theorem t_142 (ok : qOk I L s t t' X N) (a : Int32) : qStep I L s X N 142 [.ref 100, .int a] 282 [.ref 240, .int a] := by
  rcases ok.2.2.2.1 with h0 | ⟨f, U, S, dn, R, O, W, hv, hfn⟩
  · exact step_0 ok h0 (nf_countMost h0 a)
  · exact step_1 ok hv hfn (ansA_F hv (p_countMost hv.1 hv.2.2.1 hv.2.2.2.1 a))
theorem t_143 (ok : qOk I L s t t' X N) (a : Int32) : qStep I L s X N 143 [.ref 100, .int a] 285 [.ref 240, .int a] := by
  rcases ok.2.2.2.1 with h0 | ⟨f, U, S, dn, R, O, W, hv, hfn⟩
  · exact step_0 ok h0 (nf_wet h0 a)
  · exact step_1 ok hv hfn (ansA_0 hv (p_wet hv.1 a))
theorem t_144 (ok : qOk I L s t t' X N) (a : Int32) : qStep I L s X N 144 [.ref 100, .int a] 286 [.ref 240, .int a] := by
  rcases ok.2.2.2.1 with h0 | ⟨f, U, S, dn, R, O, W, hv, hfn⟩
  · exact step_0 ok h0 (nf_wetDays h0 a)
  · exact step_1 ok hv hfn (ansA_0 hv (p_wetDays hv.1 a))
theorem t_145 (ok : qOk I L s t t' X N) (a : Int32) : qStep I L s X N 145 [.ref 100, .int a] 289 [.ref 240, .int a] := by
  rcases ok.2.2.2.1 with h0 | ⟨f, U, S, dn, R, O, W, hv, hfn⟩
  · exact step_0 ok h0 (nf_pins h0 a)
  · exact step_1 ok hv hfn (ansA_0 hv (p_pins hv.1 a))
theorem t_146 (ok : qOk I L s t t' X N) (a : Int32) : qStep I L s X N 146 [.ref 100, .int a] 290 [.ref 240, .int a] := by
  rcases ok.2.2.2.1 with h0 | ⟨f, U, S, dn, R, O, W, hv, hfn⟩
  · exact step_0 ok h0 (nf_spare h0 a)
  · exact step_1 ok hv hfn (ansA_0 hv (p_spare hv.1 a))
theorem t_147 (ok : qOk I L s t t' X N)  : qStep I L s X N 147 [.ref 100] 294 [.ref 240] := by
  rcases ok.2.2.2.1 with h0 | ⟨f, U, S, dn, R, O, W, hv, hfn⟩
  · exact step_0 ok h0 (nf_handings h0 )
  · exact step_1 ok hv hfn (ansA_0 hv (p_handings hv.1))
theorem t_148 (ok : qOk I L s t t' X N) (a : Int32) : qStep I L s X N 148 [.ref 100, .int a] 297 [.ref 240, .int a] := by
  rcases ok.2.2.2.1 with h0 | ⟨f, U, S, dn, R, O, W, hv, hfn⟩
  · exact step_0 ok h0 (nf_mean h0 a)
  · exact step_1 ok hv hfn (ansA_0 hv (p_mean hv.1 a))
theorem t_149 (ok : qOk I L s t t' X N) (a b : Int32) : qStep I L s X N 149 [.ref 100, .int a, .int b] 298 [.ref 240, .int a, .int b] := by
  rcases ok.2.2.2.1 with h0 | ⟨f, U, S, dn, R, O, W, hv, hfn⟩
  · exact step_0 ok h0 (nf_go h0 a b)
  · exact step_1 ok hv hfn (ansA_0 hv (p_go hv.1 a b))
theorem t_150 (ok : qOk I L s t t' X N) (a b c : Int32) : qStep I L s X N 150 [.ref 100, .int a, .int b, .int c] 301 [.ref 240, .int a, .int b, .int c] := by
  rcases ok.2.2.2.1 with h0 | ⟨f, U, S, dn, R, O, W, hv, hfn⟩
  · exact step_0 ok h0 (nf_herd h0 a b c)
  · exact step_1 ok hv hfn (ansA_0 hv (p_herd hv.1 a b c))
theorem t_151 (ok : qOk I L s t t' X N) (a b : Int32) : qStep I L s X N 151 [.ref 100, .int a, .int b] 302 [.ref 240, .int a, .int b] := by
  rcases ok.2.2.2.1 with h0 | ⟨f, U, S, dn, R, O, W, hv, hfn⟩
  · exact step_0 ok h0 (nf_mostTaken h0 a b)
  · exact step_1 ok hv hfn (ansA_0 hv (p_mostTaken hv.1 a b))
theorem t_152 (ok : qOk I L s t t' X N) (a : Int32) : qStep I L s X N 152 [.ref 100, .int a] 303 [.ref 240, .int a] := by
  rcases ok.2.2.2.1 with h0 | ⟨f, U, S, dn, R, O, W, hv, hfn⟩
  · exact step_0 ok h0 (nf_yearBy h0 a)
  · exact step_1 ok hv hfn (ansA_0 hv (p_yearBy hv.1 a))
theorem t_153 (ok : qOk I L s t t' X N) (a b : Int32) : qStep I L s X N 153 [.ref 100, .int a, .int b] 304 [.ref 240, .int a, .int b] := by
  rcases ok.2.2.2.1 with h0 | ⟨f, U, S, dn, R, O, W, hv, hfn⟩
  · exact step_0 ok h0 (nf_seasons h0 a b)
  · exact step_1 ok hv hfn (ansA_0 hv (p_seasons hv.1 a b))
theorem t_154 (ok : qOk I L s t t' X N) (a b : Int32) (hb : b = 0 ∨ b = 1) : qStep I L s X N 154 [.ref 100, .int a, .int b] 306 [.ref 240, .int a, .int b] := by
  rcases ok.2.2.2.1 with h0 | ⟨f, U, S, dn, R, O, W, hv, hfn⟩
  · exact step_0 ok h0 (nf_keep h0 a b)
  · exact step_1 ok hv hfn (p_keep hv a b hb)
theorem t_155 (ok : qOk I L s t t' X N) (a b c : Int32) : qStep I L s X N 155 [.ref 100, .int a, .int b, .int c] 307 [.ref 240, .int a, .int b, .int c] := by
  rcases ok.2.2.2.1 with h0 | ⟨f, U, S, dn, R, O, W, hv, hfn⟩
  · exact step_0 ok h0 (nf_send h0 a b c)
  · exact step_1 ok hv hfn (p_send hv a b c)
theorem t_156 (ok : qOk I L s t t' X N) (a : Int32) : qStep I L s X N 156 [.ref 100, .int a] 308 [.ref 240, .int a] := by
  rcases ok.2.2.2.1 with h0 | ⟨f, U, S, dn, R, O, W, hv, hfn⟩
  · exact step_0 ok h0 (nf_mend h0 a)
  · exact step_1 ok hv hfn (p_mend hv a)
theorem t_157 (ok : qOk I L s t t' X N)  : qStep I L s X N 157 [.ref 100] 309 [.ref 240] := by
  rcases ok.2.2.2.1 with h0 | ⟨f, U, S, dn, R, O, W, hv, hfn⟩
  · exact step_0 ok h0 (nf_undo h0 )
  · exact step_1 ok hv hfn (p_undo hv)
theorem t_158 (ok : qOk I L s t t' X N)  : qStep I L s X N 158 [.ref 100] 310 [.ref 240] := by
  rcases ok.2.2.2.1 with h0 | ⟨f, U, S, dn, R, O, W, hv, hfn⟩
  · exact step_0 ok h0 (nf_mark h0 )
  · exact step_1 ok hv hfn (p_mark hv)
theorem t_159 (ok : qOk I L s t t' X N) (a : Int32) : qStep I L s X N 159 [.ref 100, .int a] 311 [.ref 240, .int a] := by
  rcases ok.2.2.2.1 with h0 | ⟨f, U, S, dn, R, O, W, hv, hfn⟩
  · exact step_0 ok h0 (nf_back h0 a)
  · exact step_1 ok hv hfn (p_back hv a)
end STP
section BLK
variable {I : qI} {L : qL} {s : qS} {t t' i : Nat} {X : Nat → Int32} {N : Nat}
theorem blk_2 (ok : qOk I L s t t' X N) (hi : i + 6 ≤ N) (hN : N ≤ 3072) : qBk I L s X N i 2 := by
  obtain ⟨v, I1, L1, s1, I2, L2, s2, t2, t2', e1, e2, x1, k1, y1, m1, ok2, en, ew⟩ := s_feed ok (X (i + 1)) (X (i + 2)) (X (i + 3)) (X (i + 4)) (X (i + 5))
  obtain ⟨a, rfl⟩ := ret_int (by decide +kernel) e1
  obtain ⟨sx1, sx2, sx3, -⟩ := ok.2.2.2.2
  refine ⟨I2, L2, s2, t2, t2', ?_, ok2, en, ew⟩
  rw [E_316_2]
  simp only [↓reduceIte, q_i, q_l, q_k, q_r, q_z, q_si, q_sl, jx_lt, jx_ri, jx_rl, jx_rv, if_true, if_false, Nat.reduceLeDiff, Nat.add_one_ne_zero, and_self, true_or, or_true, Nat.reduceEqDiff, or_self, or_false, false_or, sx1, sx2, sx3, xo_k (st_x ok.2.2.2.1), n1 hi hN, b1 hi hN, z1 hi hN, c1 hi hN, n2 hi hN, b2 hi hN, z2 hi hN, c2 hi hN, n3 hi hN, b3 hi hN, z3 hi hN, c3 hi hN, n4 hi hN, b4 hi hN, z4 hi hN, c4 hi hN, n5 hi hN, b5 hi hN, z5 hi hN, c5 hi hN, e1, x1, k1, y1, m1, e2]
theorem blk_3 (ok : qOk I L s t t' X N) (hi : i + 6 ≤ N) (hN : N ≤ 3072) : qBk I L s X N i 3 := by
  obtain ⟨v, I1, L1, s1, I2, L2, s2, t2, t2', e1, e2, x1, k1, y1, m1, ok2, en, ew⟩ := s_flight ok (X (i + 1))
  obtain ⟨a, rfl⟩ := ret_int (by decide +kernel) e1
  obtain ⟨sx1, sx2, sx3, -⟩ := ok.2.2.2.2
  refine ⟨I2, L2, s2, t2, t2', ?_, ok2, en, ew⟩
  rw [E_316_3]
  simp only [↓reduceIte, q_i, q_l, q_k, q_r, q_z, q_si, q_sl, jx_lt, jx_ri, jx_rl, jx_rv, if_true, if_false, Nat.reduceLeDiff, Nat.add_one_ne_zero, and_self, true_or, or_true, Nat.reduceEqDiff, or_self, or_false, false_or, sx1, sx2, sx3, xo_k (st_x ok.2.2.2.1), n1 hi hN, b1 hi hN, z1 hi hN, c1 hi hN, e1, x1, k1, y1, m1, e2]
theorem blk_4 (ok : qOk I L s t t' X N) (hi : i + 6 ≤ N) (hN : N ≤ 3072) : qBk I L s X N i 4 := by
  obtain ⟨v, I1, L1, s1, I2, L2, s2, t2, t2', e1, e2, x1, k1, y1, m1, ok2, en, ew⟩ := s_fault ok
  obtain ⟨a, rfl⟩ := ret_int (by decide +kernel) e1
  obtain ⟨sx1, sx2, sx3, -⟩ := ok.2.2.2.2
  refine ⟨I2, L2, s2, t2, t2', ?_, ok2, en, ew⟩
  rw [E_316_4]
  simp only [↓reduceIte, q_i, q_l, q_k, q_r, q_z, q_si, q_sl, jx_lt, jx_ri, jx_rl, jx_rv, if_true, if_false, Nat.reduceLeDiff, Nat.add_one_ne_zero, and_self, true_or, or_true, Nat.reduceEqDiff, or_self, or_false, false_or, sx1, sx2, sx3, xo_k (st_x ok.2.2.2.1), e1, x1, k1, y1, m1, e2]
theorem blk_5 (ok : qOk I L s t t' X N) (hi : i + 6 ≤ N) (hN : N ≤ 3072) : qBk I L s X N i 5 := by
  obtain ⟨v, I1, L1, s1, I2, L2, s2, t2, t2', e1, e2, x1, k1, y1, m1, ok2, en, ew⟩ := s_where ok
  obtain ⟨a, rfl⟩ := ret_int (by decide +kernel) e1
  obtain ⟨sx1, sx2, sx3, -⟩ := ok.2.2.2.2
  refine ⟨I2, L2, s2, t2, t2', ?_, ok2, en, ew⟩
  rw [E_316_5]
  simp only [↓reduceIte, q_i, q_l, q_k, q_r, q_z, q_si, q_sl, jx_lt, jx_ri, jx_rl, jx_rv, if_true, if_false, Nat.reduceLeDiff, Nat.add_one_ne_zero, and_self, true_or, or_true, Nat.reduceEqDiff, or_self, or_false, false_or, sx1, sx2, sx3, xo_k (st_x ok.2.2.2.1), e1, x1, k1, y1, m1, e2]
theorem blk_6 (ok : qOk I L s t t' X N) (hi : i + 6 ≤ N) (hN : N ≤ 3072) : qBk I L s X N i 6 := by
  obtain ⟨v, I1, L1, s1, I2, L2, s2, t2, t2', e1, e2, x1, k1, y1, m1, ok2, en, ew⟩ := t_118 ok (X (i + 1))
  obtain ⟨a, rfl⟩ := ret_int (by decide +kernel) e1
  obtain ⟨sx1, sx2, sx3, -⟩ := ok.2.2.2.2
  refine ⟨I2, L2, s2, t2, t2', ?_, ok2, en, ew⟩
  rw [E_316_6]
  simp only [↓reduceIte, q_i, q_l, q_k, q_r, q_z, q_si, q_sl, jx_lt, jx_ri, jx_rl, jx_rv, if_true, if_false, Nat.reduceLeDiff, Nat.add_one_ne_zero, and_self, true_or, or_true, Nat.reduceEqDiff, or_self, or_false, false_or, sx1, sx2, sx3, xo_k (st_x ok.2.2.2.1), n1 hi hN, b1 hi hN, z1 hi hN, c1 hi hN, e1, x1, k1, y1, m1, e2]
theorem blk_7 (ok : qOk I L s t t' X N) (hi : i + 6 ≤ N) (hN : N ≤ 3072) : qBk I L s X N i 7 := by
  obtain ⟨v, I1, L1, s1, I2, L2, s2, t2, t2', e1, e2, x1, k1, y1, m1, ok2, en, ew⟩ := t_119 ok (X (i + 1)) (X (i + 2)) (X (i + 3))
  obtain ⟨a, rfl⟩ := ret_int (by decide +kernel) e1
  obtain ⟨sx1, sx2, sx3, -⟩ := ok.2.2.2.2
  refine ⟨I2, L2, s2, t2, t2', ?_, ok2, en, ew⟩
  rw [E_316_7]
  simp only [↓reduceIte, q_i, q_l, q_k, q_r, q_z, q_si, q_sl, jx_lt, jx_ri, jx_rl, jx_rv, if_true, if_false, Nat.reduceLeDiff, Nat.add_one_ne_zero, and_self, true_or, or_true, Nat.reduceEqDiff, or_self, or_false, false_or, sx1, sx2, sx3, xo_k (st_x ok.2.2.2.1), n1 hi hN, b1 hi hN, z1 hi hN, c1 hi hN, n2 hi hN, b2 hi hN, z2 hi hN, c2 hi hN, n3 hi hN, b3 hi hN, z3 hi hN, c3 hi hN, e1, x1, k1, y1, m1, e2]
theorem blk_8 (ok : qOk I L s t t' X N) (hi : i + 6 ≤ N) (hN : N ≤ 3072) : qBk I L s X N i 8 := by
  obtain ⟨v, I1, L1, s1, I2, L2, s2, t2, t2', e1, e2, x1, k1, y1, m1, ok2, en, ew⟩ := t_120 ok (X (i + 1)) (X (i + 2))
  obtain ⟨a, rfl⟩ := ret_int (by decide +kernel) e1
  obtain ⟨sx1, sx2, sx3, -⟩ := ok.2.2.2.2
  refine ⟨I2, L2, s2, t2, t2', ?_, ok2, en, ew⟩
  rw [E_316_8]
  simp only [↓reduceIte, q_i, q_l, q_k, q_r, q_z, q_si, q_sl, jx_lt, jx_ri, jx_rl, jx_rv, if_true, if_false, Nat.reduceLeDiff, Nat.add_one_ne_zero, and_self, true_or, or_true, Nat.reduceEqDiff, or_self, or_false, false_or, sx1, sx2, sx3, xo_k (st_x ok.2.2.2.1), n1 hi hN, b1 hi hN, z1 hi hN, c1 hi hN, n2 hi hN, b2 hi hN, z2 hi hN, c2 hi hN, e1, x1, k1, y1, m1, e2]
theorem blk_9 (ok : qOk I L s t t' X N) (hi : i + 6 ≤ N) (hN : N ≤ 3072) : qBk I L s X N i 9 := by
  obtain ⟨v, I1, L1, s1, I2, L2, s2, t2, t2', e1, e2, x1, k1, y1, m1, ok2, en, ew⟩ := t_121 ok (X (i + 1)) (X (i + 2))
  obtain ⟨a, rfl⟩ := ret_int (by decide +kernel) e1
  obtain ⟨sx1, sx2, sx3, -⟩ := ok.2.2.2.2
  refine ⟨I2, L2, s2, t2, t2', ?_, ok2, en, ew⟩
  rw [E_316_9]
  simp only [↓reduceIte, q_i, q_l, q_k, q_r, q_z, q_si, q_sl, jx_lt, jx_ri, jx_rl, jx_rv, if_true, if_false, Nat.reduceLeDiff, Nat.add_one_ne_zero, and_self, true_or, or_true, Nat.reduceEqDiff, or_self, or_false, false_or, sx1, sx2, sx3, xo_k (st_x ok.2.2.2.1), n1 hi hN, b1 hi hN, z1 hi hN, c1 hi hN, n2 hi hN, b2 hi hN, z2 hi hN, c2 hi hN, e1, x1, k1, y1, m1, e2]
theorem blk_10 (ok : qOk I L s t t' X N) (hi : i + 6 ≤ N) (hN : N ≤ 3072) : qBk I L s X N i 10 := by
  obtain ⟨v, I1, L1, s1, I2, L2, s2, t2, t2', e1, e2, x1, k1, y1, m1, ok2, en, ew⟩ := t_122 ok (X (i + 1)) (X (i + 2))
  obtain ⟨a, rfl⟩ := ret_int (by decide +kernel) e1
  obtain ⟨sx1, sx2, sx3, -⟩ := ok.2.2.2.2
  refine ⟨I2, L2, s2, t2, t2', ?_, ok2, en, ew⟩
  rw [E_316_10]
  simp only [↓reduceIte, q_i, q_l, q_k, q_r, q_z, q_si, q_sl, jx_lt, jx_ri, jx_rl, jx_rv, if_true, if_false, Nat.reduceLeDiff, Nat.add_one_ne_zero, and_self, true_or, or_true, Nat.reduceEqDiff, or_self, or_false, false_or, sx1, sx2, sx3, xo_k (st_x ok.2.2.2.1), n1 hi hN, b1 hi hN, z1 hi hN, c1 hi hN, n2 hi hN, b2 hi hN, z2 hi hN, c2 hi hN, e1, x1, k1, y1, m1, e2]
theorem blk_11 (ok : qOk I L s t t' X N) (hi : i + 6 ≤ N) (hN : N ≤ 3072) : qBk I L s X N i 11 := by
  obtain ⟨v, I1, L1, s1, I2, L2, s2, t2, t2', e1, e2, x1, k1, y1, m1, ok2, en, ew⟩ := t_123 ok (X (i + 1)) (X (i + 2))
  obtain ⟨a, rfl⟩ := ret_int (by decide +kernel) e1
  obtain ⟨sx1, sx2, sx3, -⟩ := ok.2.2.2.2
  refine ⟨I2, L2, s2, t2, t2', ?_, ok2, en, ew⟩
  rw [E_316_11]
  simp only [↓reduceIte, q_i, q_l, q_k, q_r, q_z, q_si, q_sl, jx_lt, jx_ri, jx_rl, jx_rv, if_true, if_false, Nat.reduceLeDiff, Nat.add_one_ne_zero, and_self, true_or, or_true, Nat.reduceEqDiff, or_self, or_false, false_or, sx1, sx2, sx3, xo_k (st_x ok.2.2.2.1), n1 hi hN, b1 hi hN, z1 hi hN, c1 hi hN, n2 hi hN, b2 hi hN, z2 hi hN, c2 hi hN, e1, x1, k1, y1, m1, e2]
theorem blk_12 (ok : qOk I L s t t' X N) (hi : i + 6 ≤ N) (hN : N ≤ 3072) : qBk I L s X N i 12 := by
  obtain ⟨v, I1, L1, s1, I2, L2, s2, t2, t2', e1, e2, x1, k1, y1, m1, ok2, en, ew⟩ := t_124 ok (X (i + 1)) (X (i + 2))
  obtain ⟨a, rfl⟩ := ret_int (by decide +kernel) e1
  obtain ⟨sx1, sx2, sx3, -⟩ := ok.2.2.2.2
  refine ⟨I2, L2, s2, t2, t2', ?_, ok2, en, ew⟩
  rw [E_316_12]
  simp only [↓reduceIte, q_i, q_l, q_k, q_r, q_z, q_si, q_sl, jx_lt, jx_ri, jx_rl, jx_rv, if_true, if_false, Nat.reduceLeDiff, Nat.add_one_ne_zero, and_self, true_or, or_true, Nat.reduceEqDiff, or_self, or_false, false_or, sx1, sx2, sx3, xo_k (st_x ok.2.2.2.1), n1 hi hN, b1 hi hN, z1 hi hN, c1 hi hN, n2 hi hN, b2 hi hN, z2 hi hN, c2 hi hN, e1, x1, k1, y1, m1, e2]
theorem blk_13 (ok : qOk I L s t t' X N) (hi : i + 6 ≤ N) (hN : N ≤ 3072) : qBk I L s X N i 13 := by
  obtain ⟨v, I1, L1, s1, I2, L2, s2, t2, t2', e1, e2, x1, k1, y1, m1, ok2, en, ew⟩ := t_125 ok (X (i + 1))
  obtain ⟨a, rfl⟩ := ret_int (by decide +kernel) e1
  obtain ⟨sx1, sx2, sx3, -⟩ := ok.2.2.2.2
  refine ⟨I2, L2, s2, t2, t2', ?_, ok2, en, ew⟩
  rw [E_316_13]
  simp only [↓reduceIte, q_i, q_l, q_k, q_r, q_z, q_si, q_sl, jx_lt, jx_ri, jx_rl, jx_rv, if_true, if_false, Nat.reduceLeDiff, Nat.add_one_ne_zero, and_self, true_or, or_true, Nat.reduceEqDiff, or_self, or_false, false_or, sx1, sx2, sx3, xo_k (st_x ok.2.2.2.1), n1 hi hN, b1 hi hN, z1 hi hN, c1 hi hN, e1, x1, k1, y1, m1, e2]
theorem blk_14 (ok : qOk I L s t t' X N) (hi : i + 6 ≤ N) (hN : N ≤ 3072) : qBk I L s X N i 14 := by
  obtain ⟨v, I1, L1, s1, I2, L2, s2, t2, t2', e1, e2, x1, k1, y1, m1, ok2, en, ew⟩ := t_126 ok
  obtain ⟨a, rfl⟩ := ret_int (by decide +kernel) e1
  obtain ⟨sx1, sx2, sx3, -⟩ := ok.2.2.2.2
  refine ⟨I2, L2, s2, t2, t2', ?_, ok2, en, ew⟩
  rw [E_316_14]
  simp only [↓reduceIte, q_i, q_l, q_k, q_r, q_z, q_si, q_sl, jx_lt, jx_ri, jx_rl, jx_rv, if_true, if_false, Nat.reduceLeDiff, Nat.add_one_ne_zero, and_self, true_or, or_true, Nat.reduceEqDiff, or_self, or_false, false_or, sx1, sx2, sx3, xo_k (st_x ok.2.2.2.1), e1, x1, k1, y1, m1, e2]
theorem blk_15 (ok : qOk I L s t t' X N) (hi : i + 6 ≤ N) (hN : N ≤ 3072) : qBk I L s X N i 15 := by
  obtain ⟨v, I1, L1, s1, I2, L2, s2, t2, t2', e1, e2, x1, k1, y1, m1, ok2, en, ew⟩ := t_127 ok (X (i + 1)) (X (i + 2))
  obtain ⟨a, rfl⟩ := ret_int (by decide +kernel) e1
  obtain ⟨sx1, sx2, sx3, -⟩ := ok.2.2.2.2
  refine ⟨I2, L2, s2, t2, t2', ?_, ok2, en, ew⟩
  rw [E_316_15]
  simp only [↓reduceIte, q_i, q_l, q_k, q_r, q_z, q_si, q_sl, jx_lt, jx_ri, jx_rl, jx_rv, if_true, if_false, Nat.reduceLeDiff, Nat.add_one_ne_zero, and_self, true_or, or_true, Nat.reduceEqDiff, or_self, or_false, false_or, sx1, sx2, sx3, xo_k (st_x ok.2.2.2.1), n1 hi hN, b1 hi hN, z1 hi hN, c1 hi hN, n2 hi hN, b2 hi hN, z2 hi hN, c2 hi hN, e1, x1, k1, y1, m1, e2]
theorem blk_16 (ok : qOk I L s t t' X N) (hi : i + 6 ≤ N) (hN : N ≤ 3072) : qBk I L s X N i 16 := by
  obtain ⟨v, I1, L1, s1, I2, L2, s2, t2, t2', e1, e2, x1, k1, y1, m1, ok2, en, ew⟩ := t_128 ok
  obtain ⟨a, rfl⟩ := ret_int (by decide +kernel) e1
  obtain ⟨sx1, sx2, sx3, -⟩ := ok.2.2.2.2
  refine ⟨I2, L2, s2, t2, t2', ?_, ok2, en, ew⟩
  rw [E_316_16]
  simp only [↓reduceIte, q_i, q_l, q_k, q_r, q_z, q_si, q_sl, jx_lt, jx_ri, jx_rl, jx_rv, if_true, if_false, Nat.reduceLeDiff, Nat.add_one_ne_zero, and_self, true_or, or_true, Nat.reduceEqDiff, or_self, or_false, false_or, sx1, sx2, sx3, xo_k (st_x ok.2.2.2.1), e1, x1, k1, y1, m1, e2]
theorem blk_17 (ok : qOk I L s t t' X N) (hi : i + 6 ≤ N) (hN : N ≤ 3072) : qBk I L s X N i 17 := by
  obtain ⟨v, I1, L1, s1, I2, L2, s2, t2, t2', e1, e2, x1, k1, y1, m1, ok2, en, ew⟩ := t_129 ok
  obtain ⟨a, rfl⟩ := ret_int (by decide +kernel) e1
  obtain ⟨sx1, sx2, sx3, -⟩ := ok.2.2.2.2
  refine ⟨I2, L2, s2, t2, t2', ?_, ok2, en, ew⟩
  rw [E_316_17]
  simp only [↓reduceIte, q_i, q_l, q_k, q_r, q_z, q_si, q_sl, jx_lt, jx_ri, jx_rl, jx_rv, if_true, if_false, Nat.reduceLeDiff, Nat.add_one_ne_zero, and_self, true_or, or_true, Nat.reduceEqDiff, or_self, or_false, false_or, sx1, sx2, sx3, xo_k (st_x ok.2.2.2.1), e1, x1, k1, y1, m1, e2]
theorem blk_18 (ok : qOk I L s t t' X N) (hi : i + 6 ≤ N) (hN : N ≤ 3072) : qBk I L s X N i 18 := by
  obtain ⟨v, I1, L1, s1, I2, L2, s2, t2, t2', e1, e2, x1, k1, y1, m1, ok2, en, ew⟩ := t_130 ok
  obtain ⟨a, rfl⟩ := ret_int (by decide +kernel) e1
  obtain ⟨sx1, sx2, sx3, -⟩ := ok.2.2.2.2
  refine ⟨I2, L2, s2, t2, t2', ?_, ok2, en, ew⟩
  rw [E_316_18]
  simp only [↓reduceIte, q_i, q_l, q_k, q_r, q_z, q_si, q_sl, jx_lt, jx_ri, jx_rl, jx_rv, if_true, if_false, Nat.reduceLeDiff, Nat.add_one_ne_zero, and_self, true_or, or_true, Nat.reduceEqDiff, or_self, or_false, false_or, sx1, sx2, sx3, xo_k (st_x ok.2.2.2.1), e1, x1, k1, y1, m1, e2]
theorem blk_19 (ok : qOk I L s t t' X N) (hi : i + 6 ≤ N) (hN : N ≤ 3072) : qBk I L s X N i 19 := by
  obtain ⟨v, I1, L1, s1, I2, L2, s2, t2, t2', e1, e2, x1, k1, y1, m1, ok2, en, ew⟩ := t_131 ok (X (i + 1))
  obtain ⟨a, rfl⟩ := ret_int (by decide +kernel) e1
  obtain ⟨sx1, sx2, sx3, -⟩ := ok.2.2.2.2
  refine ⟨I2, L2, s2, t2, t2', ?_, ok2, en, ew⟩
  rw [E_316_19]
  simp only [↓reduceIte, q_i, q_l, q_k, q_r, q_z, q_si, q_sl, jx_lt, jx_ri, jx_rl, jx_rv, if_true, if_false, Nat.reduceLeDiff, Nat.add_one_ne_zero, and_self, true_or, or_true, Nat.reduceEqDiff, or_self, or_false, false_or, sx1, sx2, sx3, xo_k (st_x ok.2.2.2.1), n1 hi hN, b1 hi hN, z1 hi hN, c1 hi hN, e1, x1, k1, y1, m1, e2]
theorem blk_20 (ok : qOk I L s t t' X N) (hi : i + 6 ≤ N) (hN : N ≤ 3072) : qBk I L s X N i 20 := by
  obtain ⟨v, I1, L1, s1, I2, L2, s2, t2, t2', e1, e2, x1, k1, y1, m1, ok2, en, ew⟩ := t_132 ok (X (i + 1)) (X (i + 2)) (X (i + 3))
  obtain ⟨a, rfl⟩ := ret_int (by decide +kernel) e1
  obtain ⟨sx1, sx2, sx3, -⟩ := ok.2.2.2.2
  refine ⟨I2, L2, s2, t2, t2', ?_, ok2, en, ew⟩
  rw [E_316_20]
  simp only [↓reduceIte, q_i, q_l, q_k, q_r, q_z, q_si, q_sl, jx_lt, jx_ri, jx_rl, jx_rv, if_true, if_false, Nat.reduceLeDiff, Nat.add_one_ne_zero, and_self, true_or, or_true, Nat.reduceEqDiff, or_self, or_false, false_or, sx1, sx2, sx3, xo_k (st_x ok.2.2.2.1), n1 hi hN, b1 hi hN, z1 hi hN, c1 hi hN, n2 hi hN, b2 hi hN, z2 hi hN, c2 hi hN, n3 hi hN, b3 hi hN, z3 hi hN, c3 hi hN, e1, x1, k1, y1, m1, e2]
theorem blk_26 (ok : qOk I L s t t' X N) (hi : i + 6 ≤ N) (hN : N ≤ 3072) : qBk I L s X N i 26 := by
  obtain ⟨v, I1, L1, s1, I2, L2, s2, t2, t2', e1, e2, x1, k1, y1, m1, ok2, en, ew⟩ := t_134 ok (X (i + 1))
  obtain ⟨a, rfl⟩ := ret_int (by decide +kernel) e1
  obtain ⟨sx1, sx2, sx3, -⟩ := ok.2.2.2.2
  refine ⟨I2, L2, s2, t2, t2', ?_, ok2, en, ew⟩
  rw [E_316_26]
  simp only [↓reduceIte, q_i, q_l, q_k, q_r, q_z, q_si, q_sl, jx_lt, jx_ri, jx_rl, jx_rv, if_true, if_false, Nat.reduceLeDiff, Nat.add_one_ne_zero, and_self, true_or, or_true, Nat.reduceEqDiff, or_self, or_false, false_or, sx1, sx2, sx3, xo_k (st_x ok.2.2.2.1), n1 hi hN, b1 hi hN, z1 hi hN, c1 hi hN, e1, x1, k1, y1, m1, e2]
theorem blk_27 (ok : qOk I L s t t' X N) (hi : i + 6 ≤ N) (hN : N ≤ 3072) : qBk I L s X N i 27 := by
  obtain ⟨v, I1, L1, s1, I2, L2, s2, t2, t2', e1, e2, x1, k1, y1, m1, ok2, en, ew⟩ := t_135 ok (X (i + 1))
  obtain ⟨a, rfl⟩ := ret_int (by decide +kernel) e1
  obtain ⟨sx1, sx2, sx3, -⟩ := ok.2.2.2.2
  refine ⟨I2, L2, s2, t2, t2', ?_, ok2, en, ew⟩
  rw [E_316_27]
  simp only [↓reduceIte, q_i, q_l, q_k, q_r, q_z, q_si, q_sl, jx_lt, jx_ri, jx_rl, jx_rv, if_true, if_false, Nat.reduceLeDiff, Nat.add_one_ne_zero, and_self, true_or, or_true, Nat.reduceEqDiff, or_self, or_false, false_or, sx1, sx2, sx3, xo_k (st_x ok.2.2.2.1), n1 hi hN, b1 hi hN, z1 hi hN, c1 hi hN, e1, x1, k1, y1, m1, e2]
theorem blk_28 (ok : qOk I L s t t' X N) (hi : i + 6 ≤ N) (hN : N ≤ 3072) : qBk I L s X N i 28 := by
  obtain ⟨v, I1, L1, s1, I2, L2, s2, t2, t2', e1, e2, x1, k1, y1, m1, ok2, en, ew⟩ := t_136 ok (X (i + 1))
  obtain ⟨a, rfl⟩ := ret_int (by decide +kernel) e1
  obtain ⟨sx1, sx2, sx3, -⟩ := ok.2.2.2.2
  refine ⟨I2, L2, s2, t2, t2', ?_, ok2, en, ew⟩
  rw [E_316_28]
  simp only [↓reduceIte, q_i, q_l, q_k, q_r, q_z, q_si, q_sl, jx_lt, jx_ri, jx_rl, jx_rv, if_true, if_false, Nat.reduceLeDiff, Nat.add_one_ne_zero, and_self, true_or, or_true, Nat.reduceEqDiff, or_self, or_false, false_or, sx1, sx2, sx3, xo_k (st_x ok.2.2.2.1), n1 hi hN, b1 hi hN, z1 hi hN, c1 hi hN, e1, x1, k1, y1, m1, e2]
theorem blk_29 (ok : qOk I L s t t' X N) (hi : i + 6 ≤ N) (hN : N ≤ 3072) : qBk I L s X N i 29 := by
  obtain ⟨v, I1, L1, s1, I2, L2, s2, t2, t2', e1, e2, x1, k1, y1, m1, ok2, en, ew⟩ := t_137 ok (X (i + 1))
  obtain ⟨a, rfl⟩ := ret_int (by decide +kernel) e1
  obtain ⟨sx1, sx2, sx3, -⟩ := ok.2.2.2.2
  refine ⟨I2, L2, s2, t2, t2', ?_, ok2, en, ew⟩
  rw [E_316_29]
  simp only [↓reduceIte, q_i, q_l, q_k, q_r, q_z, q_si, q_sl, jx_lt, jx_ri, jx_rl, jx_rv, if_true, if_false, Nat.reduceLeDiff, Nat.add_one_ne_zero, and_self, true_or, or_true, Nat.reduceEqDiff, or_self, or_false, false_or, sx1, sx2, sx3, xo_k (st_x ok.2.2.2.1), n1 hi hN, b1 hi hN, z1 hi hN, c1 hi hN, e1, x1, k1, y1, m1, e2]
theorem blk_30 (ok : qOk I L s t t' X N) (hi : i + 6 ≤ N) (hN : N ≤ 3072) : qBk I L s X N i 30 := by
  obtain ⟨v, I1, L1, s1, I2, L2, s2, t2, t2', e1, e2, x1, k1, y1, m1, ok2, en, ew⟩ := t_138 ok (X (i + 1))
  obtain ⟨a, rfl⟩ := ret_int (by decide +kernel) e1
  obtain ⟨sx1, sx2, sx3, -⟩ := ok.2.2.2.2
  refine ⟨I2, L2, s2, t2, t2', ?_, ok2, en, ew⟩
  rw [E_316_30]
  simp only [↓reduceIte, q_i, q_l, q_k, q_r, q_z, q_si, q_sl, jx_lt, jx_ri, jx_rl, jx_rv, if_true, if_false, Nat.reduceLeDiff, Nat.add_one_ne_zero, and_self, true_or, or_true, Nat.reduceEqDiff, or_self, or_false, false_or, sx1, sx2, sx3, xo_k (st_x ok.2.2.2.1), n1 hi hN, b1 hi hN, z1 hi hN, c1 hi hN, e1, x1, k1, y1, m1, e2]
theorem blk_31 (ok : qOk I L s t t' X N) (hi : i + 6 ≤ N) (hN : N ≤ 3072) : qBk I L s X N i 31 := by
  obtain ⟨v, I1, L1, s1, I2, L2, s2, t2, t2', e1, e2, x1, k1, y1, m1, ok2, en, ew⟩ := t_139 ok (X (i + 1))
  obtain ⟨a, rfl⟩ := ret_int (by decide +kernel) e1
  obtain ⟨sx1, sx2, sx3, -⟩ := ok.2.2.2.2
  refine ⟨I2, L2, s2, t2, t2', ?_, ok2, en, ew⟩
  rw [E_316_31]
  simp only [↓reduceIte, q_i, q_l, q_k, q_r, q_z, q_si, q_sl, jx_lt, jx_ri, jx_rl, jx_rv, if_true, if_false, Nat.reduceLeDiff, Nat.add_one_ne_zero, and_self, true_or, or_true, Nat.reduceEqDiff, or_self, or_false, false_or, sx1, sx2, sx3, xo_k (st_x ok.2.2.2.1), n1 hi hN, b1 hi hN, z1 hi hN, c1 hi hN, e1, x1, k1, y1, m1, e2]
theorem blk_32 (ok : qOk I L s t t' X N) (hi : i + 6 ≤ N) (hN : N ≤ 3072) : qBk I L s X N i 32 := by
  obtain ⟨v, I1, L1, s1, I2, L2, s2, t2, t2', e1, e2, x1, k1, y1, m1, ok2, en, ew⟩ := t_140 ok (X (i + 1))
  obtain ⟨a, rfl⟩ := ret_int (by decide +kernel) e1
  obtain ⟨sx1, sx2, sx3, -⟩ := ok.2.2.2.2
  refine ⟨I2, L2, s2, t2, t2', ?_, ok2, en, ew⟩
  rw [E_316_32]
  simp only [↓reduceIte, q_i, q_l, q_k, q_r, q_z, q_si, q_sl, jx_lt, jx_ri, jx_rl, jx_rv, if_true, if_false, Nat.reduceLeDiff, Nat.add_one_ne_zero, and_self, true_or, or_true, Nat.reduceEqDiff, or_self, or_false, false_or, sx1, sx2, sx3, xo_k (st_x ok.2.2.2.1), n1 hi hN, b1 hi hN, z1 hi hN, c1 hi hN, e1, x1, k1, y1, m1, e2]
theorem blk_33 (ok : qOk I L s t t' X N) (hi : i + 6 ≤ N) (hN : N ≤ 3072) : qBk I L s X N i 33 := by
  obtain ⟨v, I1, L1, s1, I2, L2, s2, t2, t2', e1, e2, x1, k1, y1, m1, ok2, en, ew⟩ := t_141 ok (X (i + 1))
  obtain ⟨a, rfl⟩ := ret_int (by decide +kernel) e1
  obtain ⟨sx1, sx2, sx3, -⟩ := ok.2.2.2.2
  refine ⟨I2, L2, s2, t2, t2', ?_, ok2, en, ew⟩
  rw [E_316_33]
  simp only [↓reduceIte, q_i, q_l, q_k, q_r, q_z, q_si, q_sl, jx_lt, jx_ri, jx_rl, jx_rv, if_true, if_false, Nat.reduceLeDiff, Nat.add_one_ne_zero, and_self, true_or, or_true, Nat.reduceEqDiff, or_self, or_false, false_or, sx1, sx2, sx3, xo_k (st_x ok.2.2.2.1), n1 hi hN, b1 hi hN, z1 hi hN, c1 hi hN, e1, x1, k1, y1, m1, e2]
theorem blk_34 (ok : qOk I L s t t' X N) (hi : i + 6 ≤ N) (hN : N ≤ 3072) : qBk I L s X N i 34 := by
  obtain ⟨v, I1, L1, s1, I2, L2, s2, t2, t2', e1, e2, x1, k1, y1, m1, ok2, en, ew⟩ := t_142 ok (X (i + 1))
  obtain ⟨a, rfl⟩ := ret_int (by decide +kernel) e1
  obtain ⟨sx1, sx2, sx3, -⟩ := ok.2.2.2.2
  refine ⟨I2, L2, s2, t2, t2', ?_, ok2, en, ew⟩
  rw [E_316_34]
  simp only [↓reduceIte, q_i, q_l, q_k, q_r, q_z, q_si, q_sl, jx_lt, jx_ri, jx_rl, jx_rv, if_true, if_false, Nat.reduceLeDiff, Nat.add_one_ne_zero, and_self, true_or, or_true, Nat.reduceEqDiff, or_self, or_false, false_or, sx1, sx2, sx3, xo_k (st_x ok.2.2.2.1), n1 hi hN, b1 hi hN, z1 hi hN, c1 hi hN, e1, x1, k1, y1, m1, e2]
theorem blk_35 (ok : qOk I L s t t' X N) (hi : i + 6 ≤ N) (hN : N ≤ 3072) : qBk I L s X N i 35 := by
  obtain ⟨v, I1, L1, s1, I2, L2, s2, t2, t2', e1, e2, x1, k1, y1, m1, ok2, en, ew⟩ := t_143 ok (X (i + 1))
  obtain ⟨a, rfl⟩ := ret_int (by decide +kernel) e1
  obtain ⟨sx1, sx2, sx3, -⟩ := ok.2.2.2.2
  refine ⟨I2, L2, s2, t2, t2', ?_, ok2, en, ew⟩
  rw [E_316_35]
  simp only [↓reduceIte, q_i, q_l, q_k, q_r, q_z, q_si, q_sl, jx_lt, jx_ri, jx_rl, jx_rv, if_true, if_false, Nat.reduceLeDiff, Nat.add_one_ne_zero, and_self, true_or, or_true, Nat.reduceEqDiff, or_self, or_false, false_or, sx1, sx2, sx3, xo_k (st_x ok.2.2.2.1), n1 hi hN, b1 hi hN, z1 hi hN, c1 hi hN, e1, x1, k1, y1, m1, e2]
theorem blk_36 (ok : qOk I L s t t' X N) (hi : i + 6 ≤ N) (hN : N ≤ 3072) : qBk I L s X N i 36 := by
  obtain ⟨v, I1, L1, s1, I2, L2, s2, t2, t2', e1, e2, x1, k1, y1, m1, ok2, en, ew⟩ := t_144 ok (X (i + 1))
  obtain ⟨a, rfl⟩ := ret_int (by decide +kernel) e1
  obtain ⟨sx1, sx2, sx3, -⟩ := ok.2.2.2.2
  refine ⟨I2, L2, s2, t2, t2', ?_, ok2, en, ew⟩
  rw [E_316_36]
  simp only [↓reduceIte, q_i, q_l, q_k, q_r, q_z, q_si, q_sl, jx_lt, jx_ri, jx_rl, jx_rv, if_true, if_false, Nat.reduceLeDiff, Nat.add_one_ne_zero, and_self, true_or, or_true, Nat.reduceEqDiff, or_self, or_false, false_or, sx1, sx2, sx3, xo_k (st_x ok.2.2.2.1), n1 hi hN, b1 hi hN, z1 hi hN, c1 hi hN, e1, x1, k1, y1, m1, e2]
theorem blk_37 (ok : qOk I L s t t' X N) (hi : i + 6 ≤ N) (hN : N ≤ 3072) : qBk I L s X N i 37 := by
  obtain ⟨v, I1, L1, s1, I2, L2, s2, t2, t2', e1, e2, x1, k1, y1, m1, ok2, en, ew⟩ := t_145 ok (X (i + 1))
  obtain ⟨a, rfl⟩ := ret_int (by decide +kernel) e1
  obtain ⟨sx1, sx2, sx3, -⟩ := ok.2.2.2.2
  refine ⟨I2, L2, s2, t2, t2', ?_, ok2, en, ew⟩
  rw [E_316_37]
  simp only [↓reduceIte, q_i, q_l, q_k, q_r, q_z, q_si, q_sl, jx_lt, jx_ri, jx_rl, jx_rv, if_true, if_false, Nat.reduceLeDiff, Nat.add_one_ne_zero, and_self, true_or, or_true, Nat.reduceEqDiff, or_self, or_false, false_or, sx1, sx2, sx3, xo_k (st_x ok.2.2.2.1), n1 hi hN, b1 hi hN, z1 hi hN, c1 hi hN, e1, x1, k1, y1, m1, e2]
theorem blk_38 (ok : qOk I L s t t' X N) (hi : i + 6 ≤ N) (hN : N ≤ 3072) : qBk I L s X N i 38 := by
  obtain ⟨v, I1, L1, s1, I2, L2, s2, t2, t2', e1, e2, x1, k1, y1, m1, ok2, en, ew⟩ := t_146 ok (X (i + 1))
  obtain ⟨a, rfl⟩ := ret_int (by decide +kernel) e1
  obtain ⟨sx1, sx2, sx3, -⟩ := ok.2.2.2.2
  refine ⟨I2, L2, s2, t2, t2', ?_, ok2, en, ew⟩
  rw [E_316_38]
  simp only [↓reduceIte, q_i, q_l, q_k, q_r, q_z, q_si, q_sl, jx_lt, jx_ri, jx_rl, jx_rv, if_true, if_false, Nat.reduceLeDiff, Nat.add_one_ne_zero, and_self, true_or, or_true, Nat.reduceEqDiff, or_self, or_false, false_or, sx1, sx2, sx3, xo_k (st_x ok.2.2.2.1), n1 hi hN, b1 hi hN, z1 hi hN, c1 hi hN, e1, x1, k1, y1, m1, e2]
theorem blk_39 (ok : qOk I L s t t' X N) (hi : i + 6 ≤ N) (hN : N ≤ 3072) : qBk I L s X N i 39 := by
  obtain ⟨v, I1, L1, s1, I2, L2, s2, t2, t2', e1, e2, x1, k1, y1, m1, ok2, en, ew⟩ := t_147 ok
  obtain ⟨a, rfl⟩ := ret_int (by decide +kernel) e1
  obtain ⟨sx1, sx2, sx3, -⟩ := ok.2.2.2.2
  refine ⟨I2, L2, s2, t2, t2', ?_, ok2, en, ew⟩
  rw [E_316_39]
  simp only [↓reduceIte, q_i, q_l, q_k, q_r, q_z, q_si, q_sl, jx_lt, jx_ri, jx_rl, jx_rv, if_true, if_false, Nat.reduceLeDiff, Nat.add_one_ne_zero, and_self, true_or, or_true, Nat.reduceEqDiff, or_self, or_false, false_or, sx1, sx2, sx3, xo_k (st_x ok.2.2.2.1), e1, x1, k1, y1, m1, e2]
theorem blk_50 (ok : qOk I L s t t' X N) (hi : i + 6 ≤ N) (hN : N ≤ 3072) : qBk I L s X N i 50 := by
  obtain ⟨v, I1, L1, s1, I2, L2, s2, t2, t2', e1, e2, x1, k1, y1, m1, ok2, en, ew⟩ := t_150 ok (X (i + 1)) (X (i + 2)) (X (i + 3))
  obtain ⟨a, rfl⟩ := ret_int (by decide +kernel) e1
  obtain ⟨sx1, sx2, sx3, -⟩ := ok.2.2.2.2
  refine ⟨I2, L2, s2, t2, t2', ?_, ok2, en, ew⟩
  rw [E_316_50]
  simp only [↓reduceIte, q_i, q_l, q_k, q_r, q_z, q_si, q_sl, jx_lt, jx_ri, jx_rl, jx_rv, if_true, if_false, Nat.reduceLeDiff, Nat.add_one_ne_zero, and_self, true_or, or_true, Nat.reduceEqDiff, or_self, or_false, false_or, sx1, sx2, sx3, xo_k (st_x ok.2.2.2.1), n1 hi hN, b1 hi hN, z1 hi hN, c1 hi hN, n2 hi hN, b2 hi hN, z2 hi hN, c2 hi hN, n3 hi hN, b3 hi hN, z3 hi hN, c3 hi hN, e1, x1, k1, y1, m1, e2]
theorem blk_51 (ok : qOk I L s t t' X N) (hi : i + 6 ≤ N) (hN : N ≤ 3072) : qBk I L s X N i 51 := by
  obtain ⟨v, I1, L1, s1, I2, L2, s2, t2, t2', e1, e2, x1, k1, y1, m1, ok2, en, ew⟩ := t_151 ok (X (i + 1)) (X (i + 2))
  obtain ⟨a, rfl⟩ := ret_int (by decide +kernel) e1
  obtain ⟨sx1, sx2, sx3, -⟩ := ok.2.2.2.2
  refine ⟨I2, L2, s2, t2, t2', ?_, ok2, en, ew⟩
  rw [E_316_51]
  simp only [↓reduceIte, q_i, q_l, q_k, q_r, q_z, q_si, q_sl, jx_lt, jx_ri, jx_rl, jx_rv, if_true, if_false, Nat.reduceLeDiff, Nat.add_one_ne_zero, and_self, true_or, or_true, Nat.reduceEqDiff, or_self, or_false, false_or, sx1, sx2, sx3, xo_k (st_x ok.2.2.2.1), n1 hi hN, b1 hi hN, z1 hi hN, c1 hi hN, n2 hi hN, b2 hi hN, z2 hi hN, c2 hi hN, e1, x1, k1, y1, m1, e2]
theorem blk_52 (ok : qOk I L s t t' X N) (hi : i + 6 ≤ N) (hN : N ≤ 3072) : qBk I L s X N i 52 := by
  obtain ⟨v, I1, L1, s1, I2, L2, s2, t2, t2', e1, e2, x1, k1, y1, m1, ok2, en, ew⟩ := t_152 ok (X (i + 1))
  obtain ⟨a, rfl⟩ := ret_int (by decide +kernel) e1
  obtain ⟨sx1, sx2, sx3, -⟩ := ok.2.2.2.2
  refine ⟨I2, L2, s2, t2, t2', ?_, ok2, en, ew⟩
  rw [E_316_52]
  simp only [↓reduceIte, q_i, q_l, q_k, q_r, q_z, q_si, q_sl, jx_lt, jx_ri, jx_rl, jx_rv, if_true, if_false, Nat.reduceLeDiff, Nat.add_one_ne_zero, and_self, true_or, or_true, Nat.reduceEqDiff, or_self, or_false, false_or, sx1, sx2, sx3, xo_k (st_x ok.2.2.2.1), n1 hi hN, b1 hi hN, z1 hi hN, c1 hi hN, e1, x1, k1, y1, m1, e2]
theorem blk_53 (ok : qOk I L s t t' X N) (hi : i + 6 ≤ N) (hN : N ≤ 3072) : qBk I L s X N i 53 := by
  obtain ⟨v, I1, L1, s1, I2, L2, s2, t2, t2', e1, e2, x1, k1, y1, m1, ok2, en, ew⟩ := t_153 ok (X (i + 1)) (X (i + 2))
  obtain ⟨a, rfl⟩ := ret_int (by decide +kernel) e1
  obtain ⟨sx1, sx2, sx3, -⟩ := ok.2.2.2.2
  refine ⟨I2, L2, s2, t2, t2', ?_, ok2, en, ew⟩
  rw [E_316_53]
  simp only [↓reduceIte, q_i, q_l, q_k, q_r, q_z, q_si, q_sl, jx_lt, jx_ri, jx_rl, jx_rv, if_true, if_false, Nat.reduceLeDiff, Nat.add_one_ne_zero, and_self, true_or, or_true, Nat.reduceEqDiff, or_self, or_false, false_or, sx1, sx2, sx3, xo_k (st_x ok.2.2.2.1), n1 hi hN, b1 hi hN, z1 hi hN, c1 hi hN, n2 hi hN, b2 hi hN, z2 hi hN, c2 hi hN, e1, x1, k1, y1, m1, e2]
theorem blk_59 (ok : qOk I L s t t' X N) (hi : i + 6 ≤ N) (hN : N ≤ 3072) : qBk I L s X N i 59 := by
  obtain ⟨v, I1, L1, s1, I2, L2, s2, t2, t2', e1, e2, x1, k1, y1, m1, ok2, en, ew⟩ := t_155 ok (X (i + 1)) (X (i + 2)) (X (i + 3))
  obtain ⟨a, rfl⟩ := ret_int (by decide +kernel) e1
  obtain ⟨sx1, sx2, sx3, -⟩ := ok.2.2.2.2
  refine ⟨I2, L2, s2, t2, t2', ?_, ok2, en, ew⟩
  rw [E_316_59]
  simp only [↓reduceIte, q_i, q_l, q_k, q_r, q_z, q_si, q_sl, jx_lt, jx_ri, jx_rl, jx_rv, if_true, if_false, Nat.reduceLeDiff, Nat.add_one_ne_zero, and_self, true_or, or_true, Nat.reduceEqDiff, or_self, or_false, false_or, sx1, sx2, sx3, xo_k (st_x ok.2.2.2.1), n1 hi hN, b1 hi hN, z1 hi hN, c1 hi hN, n2 hi hN, b2 hi hN, z2 hi hN, c2 hi hN, n3 hi hN, b3 hi hN, z3 hi hN, c3 hi hN, e1, x1, k1, y1, m1, e2]
theorem blk_60 (ok : qOk I L s t t' X N) (hi : i + 6 ≤ N) (hN : N ≤ 3072) : qBk I L s X N i 60 := by
  obtain ⟨v, I1, L1, s1, I2, L2, s2, t2, t2', e1, e2, x1, k1, y1, m1, ok2, en, ew⟩ := t_156 ok (X (i + 1))
  obtain ⟨a, rfl⟩ := ret_int (by decide +kernel) e1
  obtain ⟨sx1, sx2, sx3, -⟩ := ok.2.2.2.2
  refine ⟨I2, L2, s2, t2, t2', ?_, ok2, en, ew⟩
  rw [E_316_60]
  simp only [↓reduceIte, q_i, q_l, q_k, q_r, q_z, q_si, q_sl, jx_lt, jx_ri, jx_rl, jx_rv, if_true, if_false, Nat.reduceLeDiff, Nat.add_one_ne_zero, and_self, true_or, or_true, Nat.reduceEqDiff, or_self, or_false, false_or, sx1, sx2, sx3, xo_k (st_x ok.2.2.2.1), n1 hi hN, b1 hi hN, z1 hi hN, c1 hi hN, e1, x1, k1, y1, m1, e2]
theorem blk_61 (ok : qOk I L s t t' X N) (hi : i + 6 ≤ N) (hN : N ≤ 3072) : qBk I L s X N i 61 := by
  obtain ⟨v, I1, L1, s1, I2, L2, s2, t2, t2', e1, e2, x1, k1, y1, m1, ok2, en, ew⟩ := t_157 ok
  obtain ⟨a, rfl⟩ := ret_int (by decide +kernel) e1
  obtain ⟨sx1, sx2, sx3, -⟩ := ok.2.2.2.2
  refine ⟨I2, L2, s2, t2, t2', ?_, ok2, en, ew⟩
  rw [E_316_61]
  simp only [↓reduceIte, q_i, q_l, q_k, q_r, q_z, q_si, q_sl, jx_lt, jx_ri, jx_rl, jx_rv, if_true, if_false, Nat.reduceLeDiff, Nat.add_one_ne_zero, and_self, true_or, or_true, Nat.reduceEqDiff, or_self, or_false, false_or, sx1, sx2, sx3, xo_k (st_x ok.2.2.2.1), e1, x1, k1, y1, m1, e2]
theorem blk_62 (ok : qOk I L s t t' X N) (hi : i + 6 ≤ N) (hN : N ≤ 3072) : qBk I L s X N i 62 := by
  obtain ⟨v, I1, L1, s1, I2, L2, s2, t2, t2', e1, e2, x1, k1, y1, m1, ok2, en, ew⟩ := t_158 ok
  obtain ⟨a, rfl⟩ := ret_int (by decide +kernel) e1
  obtain ⟨sx1, sx2, sx3, -⟩ := ok.2.2.2.2
  refine ⟨I2, L2, s2, t2, t2', ?_, ok2, en, ew⟩
  rw [E_316_62]
  simp only [↓reduceIte, q_i, q_l, q_k, q_r, q_z, q_si, q_sl, jx_lt, jx_ri, jx_rl, jx_rv, if_true, if_false, Nat.reduceLeDiff, Nat.add_one_ne_zero, and_self, true_or, or_true, Nat.reduceEqDiff, or_self, or_false, false_or, sx1, sx2, sx3, xo_k (st_x ok.2.2.2.1), e1, x1, k1, y1, m1, e2]
theorem blk_63 (ok : qOk I L s t t' X N) (hi : i + 6 ≤ N) (hN : N ≤ 3072) : qBk I L s X N i 63 := by
  obtain ⟨v, I1, L1, s1, I2, L2, s2, t2, t2', e1, e2, x1, k1, y1, m1, ok2, en, ew⟩ := t_159 ok (X (i + 1))
  obtain ⟨a, rfl⟩ := ret_int (by decide +kernel) e1
  obtain ⟨sx1, sx2, sx3, -⟩ := ok.2.2.2.2
  refine ⟨I2, L2, s2, t2, t2', ?_, ok2, en, ew⟩
  rw [E_316_63]
  simp only [↓reduceIte, q_i, q_l, q_k, q_r, q_z, q_si, q_sl, jx_lt, jx_ri, jx_rl, jx_rv, if_true, if_false, Nat.reduceLeDiff, Nat.add_one_ne_zero, and_self, true_or, or_true, Nat.reduceEqDiff, or_self, or_false, false_or, sx1, sx2, sx3, xo_k (st_x ok.2.2.2.1), n1 hi hN, b1 hi hN, z1 hi hN, c1 hi hN, e1, x1, k1, y1, m1, e2]
theorem blk_67 (ok : qOk I L s t t' X N) (hi : i + 6 ≤ N) (hN : N ≤ 3072) : qBk I L s X N i 67 := by
  obtain ⟨v, I1, L1, s1, I2, L2, s2, t2, t2', e1, e2, x1, k1, y1, m1, ok2, en, ew⟩ := s_size ok (X (i + 1))
  obtain ⟨a, rfl⟩ := ret_int (by decide +kernel) e1
  obtain ⟨sx1, sx2, sx3, -⟩ := ok.2.2.2.2
  refine ⟨I2, L2, s2, t2, t2', ?_, ok2, en, ew⟩
  rw [E_316_67]
  simp only [↓reduceIte, q_i, q_l, q_k, q_r, q_z, q_si, q_sl, jx_lt, jx_ri, jx_rl, jx_rv, if_true, if_false, Nat.reduceLeDiff, Nat.add_one_ne_zero, and_self, true_or, or_true, Nat.reduceEqDiff, or_self, or_false, false_or, sx1, sx2, sx3, xo_k (st_x ok.2.2.2.1), n1 hi hN, b1 hi hN, z1 hi hN, c1 hi hN, e1, x1, k1, y1, m1, e2]
theorem blk_68 (ok : qOk I L s t t' X N) (hi : i + 6 ≤ N) (hN : N ≤ 3072) : qBk I L s X N i 68 := by
  obtain ⟨v, I1, L1, s1, I2, L2, s2, t2, t2', e1, e2, x1, k1, y1, m1, ok2, en, ew⟩ := s_trouble ok
  obtain ⟨a, rfl⟩ := ret_int (by decide +kernel) e1
  obtain ⟨sx1, sx2, sx3, -⟩ := ok.2.2.2.2
  refine ⟨I2, L2, s2, t2, t2', ?_, ok2, en, ew⟩
  rw [E_316_68]
  simp only [↓reduceIte, q_i, q_l, q_k, q_r, q_z, q_si, q_sl, jx_lt, jx_ri, jx_rl, jx_rv, if_true, if_false, Nat.reduceLeDiff, Nat.add_one_ne_zero, and_self, true_or, or_true, Nat.reduceEqDiff, or_self, or_false, false_or, sx1, sx2, sx3, xo_k (st_x ok.2.2.2.1), e1, x1, k1, y1, m1, e2]
theorem blk_21 (ok : qOk I L s t t' X N) (hi : i + 6 ≤ N) (hN : N ≤ 3072) : qBk I L s X N i 21 := by
  have key : ∀ z : Int32, (z = if X (i + 3) = 0 then 0 else 1) → qBk I L s X N i 21 := fun z hz => by
    obtain ⟨v, I1, L1, s1, I2, L2, s2, t2, t2', e1, e2, x1, k1, y1, m1, ok2, en, ew⟩ := t_133 ok (X (i + 1)) (X (i + 2)) z
    obtain ⟨a, rfl⟩ := ret_long (by decide +kernel) e1
    obtain ⟨sx1, sx2, sx3, -⟩ := ok.2.2.2.2
    have lg : ∀ a : Int64, lg_cmp a a = 0 := fun a => by rw [lg_cmp_eq]
    refine ⟨I2, L2, s2, t2, t2', ?_, ok2, en, ew⟩
    rw [E_316_21]
    by_cases c : X (i + 3) = 0
    · rw [if_pos c] at hz
      subst hz
      simp only [↓reduceIte, q_i, q_l, q_k, q_r, q_z, q_si, q_sl, jx_lt, jx_ri, jx_rl, jx_rv, if_true, if_false, Nat.reduceLeDiff, Nat.add_one_ne_zero, and_self, true_or, or_true, Nat.reduceEqDiff, or_self, or_false, false_or, sx1, sx2, sx3, xo_k (st_x ok.2.2.2.1), n1 hi hN, b1 hi hN, z1 hi hN, c1 hi hN, n2 hi hN, b2 hi hN, z2 hi hN, c2 hi hN, n3 hi hN, b3 hi hN, z3 hi hN, c3 hi hN, c]
      rw [E_316_22, E_316_23]
      simp only [↓reduceIte, q_i, q_l, q_k, q_r, q_z, q_si, q_sl, jx_lt, jx_ri, jx_rl, jx_rv, if_true, if_false, Nat.reduceLeDiff, Nat.add_one_ne_zero, and_self, true_or, or_true, Nat.reduceEqDiff, or_self, or_false, false_or, sx1, sx2, sx3, xo_k (st_x ok.2.2.2.1), n1 hi hN, b1 hi hN, z1 hi hN, c1 hi hN, n2 hi hN, b2 hi hN, z2 hi hN, c2 hi hN, n3 hi hN, b3 hi hN, z3 hi hN, c3 hi hN, e1, x1, k1, y1, m1, c]
      rw [E_316_24, E_316_25]
      simp only [↓reduceIte, q_i, q_l, q_k, q_r, q_z, q_si, q_sl, jx_lt, jx_ri, jx_rl, jx_rv, if_true, if_false, Nat.reduceLeDiff, Nat.add_one_ne_zero, and_self, true_or, or_true, Nat.reduceEqDiff, or_self, or_false, false_or, m1, e2, lg]
    · rw [if_neg c] at hz
      subst hz
      simp only [↓reduceIte, q_i, q_l, q_k, q_r, q_z, q_si, q_sl, jx_lt, jx_ri, jx_rl, jx_rv, if_true, if_false, Nat.reduceLeDiff, Nat.add_one_ne_zero, and_self, true_or, or_true, Nat.reduceEqDiff, or_self, or_false, false_or, sx1, sx2, sx3, xo_k (st_x ok.2.2.2.1), n1 hi hN, b1 hi hN, z1 hi hN, c1 hi hN, n2 hi hN, b2 hi hN, z2 hi hN, c2 hi hN, n3 hi hN, b3 hi hN, z3 hi hN, c3 hi hN, c]
      rw [E_316_23]
      simp only [↓reduceIte, q_i, q_l, q_k, q_r, q_z, q_si, q_sl, jx_lt, jx_ri, jx_rl, jx_rv, if_true, if_false, Nat.reduceLeDiff, Nat.add_one_ne_zero, and_self, true_or, or_true, Nat.reduceEqDiff, or_self, or_false, false_or, sx1, sx2, sx3, xo_k (st_x ok.2.2.2.1), n1 hi hN, b1 hi hN, z1 hi hN, c1 hi hN, n2 hi hN, b2 hi hN, z2 hi hN, c2 hi hN, n3 hi hN, b3 hi hN, z3 hi hN, c3 hi hN, e1, x1, k1, y1, m1, c]
      rw [E_316_25]
      simp only [↓reduceIte, q_i, q_l, q_k, q_r, q_z, q_si, q_sl, jx_lt, jx_ri, jx_rl, jx_rv, if_true, if_false, Nat.reduceLeDiff, Nat.add_one_ne_zero, and_self, true_or, or_true, Nat.reduceEqDiff, or_self, or_false, false_or, m1, e2, lg]
  exact key _ rfl
theorem blk_40 (ok : qOk I L s t t' X N) (hi : i + 6 ≤ N) (hN : N ≤ 3072) : qBk I L s X N i 40 := by
  have key : ∀ z : Int32, (z = if X (i + 1) = 0 then 0 else 1) → qBk I L s X N i 40 := fun z hz => by
    obtain ⟨v, I1, L1, s1, I2, L2, s2, t2, t2', e1, e2, x1, k1, y1, m1, ok2, en, ew⟩ := t_148 ok  z
    obtain ⟨a, rfl⟩ := ret_long (by decide +kernel) e1
    obtain ⟨sx1, sx2, sx3, -⟩ := ok.2.2.2.2
    have lg : ∀ a : Int64, lg_cmp a a = 0 := fun a => by rw [lg_cmp_eq]
    refine ⟨I2, L2, s2, t2, t2', ?_, ok2, en, ew⟩
    rw [E_316_40]
    by_cases c : X (i + 1) = 0
    · rw [if_pos c] at hz
      subst hz
      simp only [↓reduceIte, q_i, q_l, q_k, q_r, q_z, q_si, q_sl, jx_lt, jx_ri, jx_rl, jx_rv, if_true, if_false, Nat.reduceLeDiff, Nat.add_one_ne_zero, and_self, true_or, or_true, Nat.reduceEqDiff, or_self, or_false, false_or, sx1, sx2, sx3, xo_k (st_x ok.2.2.2.1), n1 hi hN, b1 hi hN, z1 hi hN, c1 hi hN, c]
      rw [E_316_41, E_316_42]
      simp only [↓reduceIte, q_i, q_l, q_k, q_r, q_z, q_si, q_sl, jx_lt, jx_ri, jx_rl, jx_rv, if_true, if_false, Nat.reduceLeDiff, Nat.add_one_ne_zero, and_self, true_or, or_true, Nat.reduceEqDiff, or_self, or_false, false_or, sx1, sx2, sx3, xo_k (st_x ok.2.2.2.1), n1 hi hN, b1 hi hN, z1 hi hN, c1 hi hN, e1, x1, k1, y1, m1, c]
      rw [E_316_43, E_316_44]
      simp only [↓reduceIte, q_i, q_l, q_k, q_r, q_z, q_si, q_sl, jx_lt, jx_ri, jx_rl, jx_rv, if_true, if_false, Nat.reduceLeDiff, Nat.add_one_ne_zero, and_self, true_or, or_true, Nat.reduceEqDiff, or_self, or_false, false_or, m1, e2, lg]
    · rw [if_neg c] at hz
      subst hz
      simp only [↓reduceIte, q_i, q_l, q_k, q_r, q_z, q_si, q_sl, jx_lt, jx_ri, jx_rl, jx_rv, if_true, if_false, Nat.reduceLeDiff, Nat.add_one_ne_zero, and_self, true_or, or_true, Nat.reduceEqDiff, or_self, or_false, false_or, sx1, sx2, sx3, xo_k (st_x ok.2.2.2.1), n1 hi hN, b1 hi hN, z1 hi hN, c1 hi hN, c]
      rw [E_316_42]
      simp only [↓reduceIte, q_i, q_l, q_k, q_r, q_z, q_si, q_sl, jx_lt, jx_ri, jx_rl, jx_rv, if_true, if_false, Nat.reduceLeDiff, Nat.add_one_ne_zero, and_self, true_or, or_true, Nat.reduceEqDiff, or_self, or_false, false_or, sx1, sx2, sx3, xo_k (st_x ok.2.2.2.1), n1 hi hN, b1 hi hN, z1 hi hN, c1 hi hN, e1, x1, k1, y1, m1, c]
      rw [E_316_44]
      simp only [↓reduceIte, q_i, q_l, q_k, q_r, q_z, q_si, q_sl, jx_lt, jx_ri, jx_rl, jx_rv, if_true, if_false, Nat.reduceLeDiff, Nat.add_one_ne_zero, and_self, true_or, or_true, Nat.reduceEqDiff, or_self, or_false, false_or, m1, e2, lg]
  exact key _ rfl
theorem blk_45 (ok : qOk I L s t t' X N) (hi : i + 6 ≤ N) (hN : N ≤ 3072) : qBk I L s X N i 45 := by
  have key : ∀ z : Int32, (z = if X (i + 2) = 0 then 0 else 1) → qBk I L s X N i 45 := fun z hz => by
    obtain ⟨v, I1, L1, s1, I2, L2, s2, t2, t2', e1, e2, x1, k1, y1, m1, ok2, en, ew⟩ := t_149 ok (X (i + 1)) z
    obtain ⟨a, rfl⟩ := ret_int (by decide +kernel) e1
    obtain ⟨sx1, sx2, sx3, -⟩ := ok.2.2.2.2
    have lg : ∀ a : Int64, lg_cmp a a = 0 := fun a => by rw [lg_cmp_eq]
    refine ⟨I2, L2, s2, t2, t2', ?_, ok2, en, ew⟩
    rw [E_316_45]
    by_cases c : X (i + 2) = 0
    · rw [if_pos c] at hz
      subst hz
      simp only [↓reduceIte, q_i, q_l, q_k, q_r, q_z, q_si, q_sl, jx_lt, jx_ri, jx_rl, jx_rv, if_true, if_false, Nat.reduceLeDiff, Nat.add_one_ne_zero, and_self, true_or, or_true, Nat.reduceEqDiff, or_self, or_false, false_or, sx1, sx2, sx3, xo_k (st_x ok.2.2.2.1), n1 hi hN, b1 hi hN, z1 hi hN, c1 hi hN, n2 hi hN, b2 hi hN, z2 hi hN, c2 hi hN, c]
      rw [E_316_46, E_316_47]
      simp only [↓reduceIte, q_i, q_l, q_k, q_r, q_z, q_si, q_sl, jx_lt, jx_ri, jx_rl, jx_rv, if_true, if_false, Nat.reduceLeDiff, Nat.add_one_ne_zero, and_self, true_or, or_true, Nat.reduceEqDiff, or_self, or_false, false_or, sx1, sx2, sx3, xo_k (st_x ok.2.2.2.1), n1 hi hN, b1 hi hN, z1 hi hN, c1 hi hN, n2 hi hN, b2 hi hN, z2 hi hN, c2 hi hN, e1, x1, k1, y1, m1, c]
      rw [E_316_48, E_316_49]
      simp only [↓reduceIte, q_i, q_l, q_k, q_r, q_z, q_si, q_sl, jx_lt, jx_ri, jx_rl, jx_rv, if_true, if_false, Nat.reduceLeDiff, Nat.add_one_ne_zero, and_self, true_or, or_true, Nat.reduceEqDiff, or_self, or_false, false_or, m1, e2]
    · rw [if_neg c] at hz
      subst hz
      simp only [↓reduceIte, q_i, q_l, q_k, q_r, q_z, q_si, q_sl, jx_lt, jx_ri, jx_rl, jx_rv, if_true, if_false, Nat.reduceLeDiff, Nat.add_one_ne_zero, and_self, true_or, or_true, Nat.reduceEqDiff, or_self, or_false, false_or, sx1, sx2, sx3, xo_k (st_x ok.2.2.2.1), n1 hi hN, b1 hi hN, z1 hi hN, c1 hi hN, n2 hi hN, b2 hi hN, z2 hi hN, c2 hi hN, c]
      rw [E_316_47]
      simp only [↓reduceIte, q_i, q_l, q_k, q_r, q_z, q_si, q_sl, jx_lt, jx_ri, jx_rl, jx_rv, if_true, if_false, Nat.reduceLeDiff, Nat.add_one_ne_zero, and_self, true_or, or_true, Nat.reduceEqDiff, or_self, or_false, false_or, sx1, sx2, sx3, xo_k (st_x ok.2.2.2.1), n1 hi hN, b1 hi hN, z1 hi hN, c1 hi hN, n2 hi hN, b2 hi hN, z2 hi hN, c2 hi hN, e1, x1, k1, y1, m1, c]
      rw [E_316_49]
      simp only [↓reduceIte, q_i, q_l, q_k, q_r, q_z, q_si, q_sl, jx_lt, jx_ri, jx_rl, jx_rv, if_true, if_false, Nat.reduceLeDiff, Nat.add_one_ne_zero, and_self, true_or, or_true, Nat.reduceEqDiff, or_self, or_false, false_or, m1, e2]
  exact key _ rfl
theorem blk_54 (ok : qOk I L s t t' X N) (hi : i + 6 ≤ N) (hN : N ≤ 3072) : qBk I L s X N i 54 := by
  have key : ∀ z : Int32, (z = if X (i + 2) = 0 then 0 else 1) → qBk I L s X N i 54 := fun z hz => by
    obtain ⟨v, I1, L1, s1, I2, L2, s2, t2, t2', e1, e2, x1, k1, y1, m1, ok2, en, ew⟩ := t_154 ok (X (i + 1)) z (by rw [hz]; split <;> simp)
    obtain ⟨a, rfl⟩ := ret_int (by decide +kernel) e1
    obtain ⟨sx1, sx2, sx3, -⟩ := ok.2.2.2.2
    have lg : ∀ a : Int64, lg_cmp a a = 0 := fun a => by rw [lg_cmp_eq]
    refine ⟨I2, L2, s2, t2, t2', ?_, ok2, en, ew⟩
    rw [E_316_54]
    by_cases c : X (i + 2) = 0
    · rw [if_pos c] at hz
      subst hz
      simp only [↓reduceIte, q_i, q_l, q_k, q_r, q_z, q_si, q_sl, jx_lt, jx_ri, jx_rl, jx_rv, if_true, if_false, Nat.reduceLeDiff, Nat.add_one_ne_zero, and_self, true_or, or_true, Nat.reduceEqDiff, or_self, or_false, false_or, sx1, sx2, sx3, xo_k (st_x ok.2.2.2.1), n1 hi hN, b1 hi hN, z1 hi hN, c1 hi hN, n2 hi hN, b2 hi hN, z2 hi hN, c2 hi hN, c]
      rw [E_316_55, E_316_56]
      simp only [↓reduceIte, q_i, q_l, q_k, q_r, q_z, q_si, q_sl, jx_lt, jx_ri, jx_rl, jx_rv, if_true, if_false, Nat.reduceLeDiff, Nat.add_one_ne_zero, and_self, true_or, or_true, Nat.reduceEqDiff, or_self, or_false, false_or, sx1, sx2, sx3, xo_k (st_x ok.2.2.2.1), n1 hi hN, b1 hi hN, z1 hi hN, c1 hi hN, n2 hi hN, b2 hi hN, z2 hi hN, c2 hi hN, e1, x1, k1, y1, m1, c]
      rw [E_316_57, E_316_58]
      simp only [↓reduceIte, q_i, q_l, q_k, q_r, q_z, q_si, q_sl, jx_lt, jx_ri, jx_rl, jx_rv, if_true, if_false, Nat.reduceLeDiff, Nat.add_one_ne_zero, and_self, true_or, or_true, Nat.reduceEqDiff, or_self, or_false, false_or, m1, e2]
    · rw [if_neg c] at hz
      subst hz
      simp only [↓reduceIte, q_i, q_l, q_k, q_r, q_z, q_si, q_sl, jx_lt, jx_ri, jx_rl, jx_rv, if_true, if_false, Nat.reduceLeDiff, Nat.add_one_ne_zero, and_self, true_or, or_true, Nat.reduceEqDiff, or_self, or_false, false_or, sx1, sx2, sx3, xo_k (st_x ok.2.2.2.1), n1 hi hN, b1 hi hN, z1 hi hN, c1 hi hN, n2 hi hN, b2 hi hN, z2 hi hN, c2 hi hN, c]
      rw [E_316_56]
      simp only [↓reduceIte, q_i, q_l, q_k, q_r, q_z, q_si, q_sl, jx_lt, jx_ri, jx_rl, jx_rv, if_true, if_false, Nat.reduceLeDiff, Nat.add_one_ne_zero, and_self, true_or, or_true, Nat.reduceEqDiff, or_self, or_false, false_or, sx1, sx2, sx3, xo_k (st_x ok.2.2.2.1), n1 hi hN, b1 hi hN, z1 hi hN, c1 hi hN, n2 hi hN, b2 hi hN, z2 hi hN, c2 hi hN, e1, x1, k1, y1, m1, c]
      rw [E_316_58]
      simp only [↓reduceIte, q_i, q_l, q_k, q_r, q_z, q_si, q_sl, jx_lt, jx_ri, jx_rl, jx_rv, if_true, if_false, Nat.reduceLeDiff, Nat.add_one_ne_zero, and_self, true_or, or_true, Nat.reduceEqDiff, or_self, or_false, false_or, m1, e2]
  exact key _ rfl
theorem ok_Lf {K : qI} {L' : qL} {s' : qS} (ok : qOk I L s t t' X N) (h : qLf I K) (hL : ∀ k, L' 182 k = L 182 k) (hk : qKw s s') : qOk K L' s' t t' X N := by
  obtain ⟨o1, o2, o3, o4, o5⟩ := ok
  obtain ⟨hf, h1, h2, h3⟩ := h
  have c : ∀ a, ¬ qSc a → K a = I a := hf.1
  refine ⟨nm_fr hL (c _ (by unfold qSc; omega)) (c _ (by unfold qSc; omega)) o1, tp_fr (by rw [h1]) hf.2.2.1 (c _ (by unfold qSc; omega)) (c _ (by unfold qSc; omega)) o2, ⟨?_, ?_, ?_⟩, st_W o5.2.2.2.2.2.2 o4 (fr_W hf) hk, sx_kw o5 (c 1 (by unfold qSc; omega)) hk⟩
  · rw [h1, hf.2.2.2.1]; exact o3.1
  · rw [h1, h2]; exact o3.2.1
  · rw [h1, h3]; exact o3.2.2
theorem kw_thr : qKw s (q_thr s) := ⟨fun a _ => ⟨rfl, rfl⟩, fun a k _ _ => rfl, Nat.le_succ _⟩
theorem blk_64 (ok : qOk I L s t t' X N) (hi : i + 6 ≤ N) (hN : N ≤ 3072) : qBk I L s X N i 64 := by
  obtain ⟨sx1, sx2, sx3, sx4, sx5, sx6, sx7⟩ := id ok.2.2.2.2
  have kx := xo_k (st_x ok.2.2.2.1)
  have km := mo_k (st_m ok.2.2.2.1)
  have lg : ∀ a : Int64, lg_cmp a a = 0 := fun a => by rw [lg_cmp_eq]
  have e190 : ∀ (K : qI) (L' : qL) (s' : qS), qk s' 240 = 13 → jD 190 [.ref 240] (K, L', s') = some (some (.int (K 240 0)), K, L', s') := fun K L' s' hk => by
    rw [D_190, E_190_0]
    simp only [↓reduceIte, q_i, q_l, q_k, q_r, q_z, q_si, q_sl, jx_lt, jx_ri, jx_rl, jx_rv, if_true, if_false, Nat.reduceLeDiff, Nat.add_one_ne_zero, and_self, true_or, or_true, Nat.reduceEqDiff, or_self, or_false, false_or, hk]
  rcases s_led (L := L) ok.2.2.2.1 (X (i + 1)) with ⟨v, e1, e2⟩ | ⟨e1, K, e2, k0, kf⟩
  · obtain ⟨K, e2, k0, kf⟩ := e2 (q_upl L 259 (q_setl (L 259) 0 (Int32.toInt64 v)))
    have l0 : q_upl L 259 (q_setl (L 259) 0 (Int32.toInt64 v)) 259 0 = Int32.toInt64 v := rfl
    refine ⟨K, _, s, t, t', ?_, ok_Lf (L' := q_upl L 259 (q_setl (L 259) 0 (Int32.toInt64 v))) ok kf (fun k => rfl) (kw_of ks_refl), Nat.le_add_right _ _, Nat.le_add_right _ _⟩
    rw [E_316_64]
    simp only [↓reduceIte, q_i, q_l, q_k, q_r, q_z, q_si, q_sl, jx_lt, jx_ri, jx_rl, jx_rv, if_true, if_false, Nat.reduceLeDiff, Nat.add_one_ne_zero, and_self, true_or, or_true, Nat.reduceEqDiff, or_self, or_false, false_or, sx1, sx2, sx3, kx, sx5, n1 hi hN, b1 hi hN, z1 hi hN, c1 hi hN, e1, jx_rt, sx6, show ¬ 1 = 0 by decide, km, e2, e190, k0]
    rw [E_316_65, if_pos rfl]
    simp only [↓reduceIte, q_i, q_l, q_k, q_r, q_z, q_si, q_sl, jx_lt, jx_ri, jx_rl, jx_rv, if_true, if_false, Nat.reduceLeDiff, Nat.add_one_ne_zero, and_self, true_or, or_true, Nat.reduceEqDiff, or_self, or_false, false_or, sx5, sx6, show (0 : Int32).toNatClampNeg = 0 from rfl, show ¬ (1 : Nat) ≤ 0 by decide, l0, lg]
    rw [E_316_66]
    exact if_neg (by decide)
  · have kt : qk (q_thr s) = qk s := rfl
    have zt : qz (q_thr s) = qz s := rfl
    refine ⟨K, L, q_thr s, t, t', ?_, ok_Lf ok kf (fun k => rfl) kw_thr, Nat.add_le_add_left (by decide) _, Nat.add_le_add_left (by decide) _⟩
    rw [E_316_64]
    simp only [↓reduceIte, q_i, q_l, q_k, q_r, q_z, q_si, q_sl, jx_lt, jx_ri, jx_rl, jx_rv, if_true, if_false, Nat.reduceLeDiff, Nat.add_one_ne_zero, and_self, true_or, or_true, Nat.reduceEqDiff, or_self, or_false, false_or, sx1, sx2, sx3, kx, sx5, n1 hi hN, b1 hi hN, z1 hi hN, c1 hi hN, e1, jx_rt, kt, zt, km, e2, e190, k0]
    rw [E_316_65, if_neg (by decide), E_316_66]

end BLK
