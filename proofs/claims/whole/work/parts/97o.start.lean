/-! THE START: the constructors -/
section KON
variable {L : Nat} {xs : Nat → Int32}
theorem rd_0 : qRdr (nM L xs 176).2.2 140 := rd_ag (by omega) (by unfold qRdr qRow qFl qRow; decide +kernel)
theorem rd_1 : qRdr (nM L xs 180).2.2 140 := s_4 (p := 176) (by decide +kernel) rd_0
theorem rd_2 : qRdr (nM L xs 184).2.2 140 := s_4 (p := 180) (by decide +kernel) rd_1
theorem rd_3 : qRdr (nM L xs 188).2.2 140 := s_4 (p := 184) (by decide +kernel) rd_2
theorem rd_4 : qRdr (nM L xs 192).2.2 140 := s_4 (p := 188) (by decide +kernel) rd_3
theorem rd_5 : qRdr (nM L xs 196).2.2 140 := s_4 (p := 192) (by decide +kernel) rd_4
theorem rd_6 : qRdr (nM L xs 200).2.2 140 := s_4 (p := 196) (by decide +kernel) rd_5
theorem rd_7 : qRdr (nM L xs 204).2.2 140 := s_4 (p := 200) (by decide +kernel) rd_6
theorem rd_8 : qRdr (nM L xs 208).2.2 140 := s_4 (p := 204) (by decide +kernel) rd_7
theorem rd_9 : qRdr (nM L xs 212).2.2 140 := s_4 (p := 208) (by decide +kernel) rd_8
theorem rd_10 : qRdr (nM L xs 216).2.2 140 := s_4 (p := 212) (by decide +kernel) rd_9
set_option maxRecDepth 100000 in
theorem k14_2 : jD 14 [.ref 101] (nM L xs 2) = some (none, nM L xs 78) := by
  rw [D_14, E_14_0]
  refine (row_s 2 6 101 3 0 12 12 (by decide +kernel)).trans ?_
  refine (row_s 6 10 101 3 1 8 8 (by decide +kernel)).trans ?_
  refine (row_s 10 14 101 3 2 64 64 (by decide +kernel)).trans ?_
  refine (row_s 14 18 101 3 3 64 64 (by decide +kernel)).trans ?_
  refine (row_s 18 22 101 3 4 6 6 (by decide +kernel)).trans ?_
  refine (row_s 22 26 101 3 5 6 6 (by decide +kernel)).trans ?_
  refine (row_s 26 30 101 3 6 6 6 (by decide +kernel)).trans ?_
  refine (row_s 30 34 101 3 7 6 6 (by decide +kernel)).trans ?_
  refine (row_s 34 38 101 3 8 6 6 (by decide +kernel)).trans ?_
  refine (row_s 38 42 101 3 9 6 6 (by decide +kernel)).trans ?_
  refine (row_s 42 46 101 3 10 8 8 (by decide +kernel)).trans ?_
  refine (row_s 46 50 101 3 11 8 8 (by decide +kernel)).trans ?_
  refine (row_s 50 54 101 3 12 8 8 (by decide +kernel)).trans ?_
  refine (row_s 54 58 101 3 13 6 6 (by decide +kernel)).trans ?_
  refine (row_s 58 62 101 3 14 6 6 (by decide +kernel)).trans ?_
  refine (row_s 62 66 101 3 15 20 20 (by decide +kernel)).trans ?_
  refine (row_s 66 70 101 3 16 6 6 (by decide +kernel)).trans ?_
  refine (row_s 70 74 101 3 17 6 6 (by decide +kernel)).trans ?_
  refine (row_s 74 78 101 3 18 6 6 (by decide +kernel)).trans ?_
  rfl
set_option maxRecDepth 100000 in
theorem k14_80 : jD 14 [.ref 140] (nM L xs 80) = some (none, nM L xs 156) := by
  rw [D_14, E_14_0]
  refine (row_s 80 84 140 3 0 12 12 (by decide +kernel)).trans ?_
  refine (row_s 84 88 140 3 1 8 8 (by decide +kernel)).trans ?_
  refine (row_s 88 92 140 3 2 64 64 (by decide +kernel)).trans ?_
  refine (row_s 92 96 140 3 3 64 64 (by decide +kernel)).trans ?_
  refine (row_s 96 100 140 3 4 6 6 (by decide +kernel)).trans ?_
  refine (row_s 100 104 140 3 5 6 6 (by decide +kernel)).trans ?_
  refine (row_s 104 108 140 3 6 6 6 (by decide +kernel)).trans ?_
  refine (row_s 108 112 140 3 7 6 6 (by decide +kernel)).trans ?_
  refine (row_s 112 116 140 3 8 6 6 (by decide +kernel)).trans ?_
  refine (row_s 116 120 140 3 9 6 6 (by decide +kernel)).trans ?_
  refine (row_s 120 124 140 3 10 8 8 (by decide +kernel)).trans ?_
  refine (row_s 124 128 140 3 11 8 8 (by decide +kernel)).trans ?_
  refine (row_s 128 132 140 3 12 8 8 (by decide +kernel)).trans ?_
  refine (row_s 132 136 140 3 13 6 6 (by decide +kernel)).trans ?_
  refine (row_s 136 140 140 3 14 6 6 (by decide +kernel)).trans ?_
  refine (row_s 140 144 140 3 15 20 20 (by decide +kernel)).trans ?_
  refine (row_s 144 148 140 3 16 6 6 (by decide +kernel)).trans ?_
  refine (row_s 148 152 140 3 17 6 6 (by decide +kernel)).trans ?_
  refine (row_s 152 156 140 3 18 6 6 (by decide +kernel)).trans ?_
  rfl
set_option maxRecDepth 100000 in
theorem k84_173 : jD 84 [.ref 187, .ref 179] (nM L xs 173) = some (none, nM L xs 174) := by
  rw [D_84, E_84_0]
  refine (sr_s 173 174 187 8 0 179 (by decide +kernel)).trans ?_
  rfl
set_option maxRecDepth 100000 in
theorem k49_162 : jD 49 [.ref 181, .ref 179, .ref 140] (nM L xs 162) = some (none, nM L xs 220) := by
  rw [D_49, E_49_0]
  refine (arr_s 162 164 181 6 1 21 31 31 (by decide +kernel)).trans ?_
  refine (row_s 164 168 181 6 2 31 31 (by decide +kernel)).trans ?_
  refine (row_s 168 172 181 6 3 31 31 (by decide +kernel)).trans ?_
  refine (obj_s 172 174 175 187 181 6 0 8 7 84 [.ref 179] k84_173 (by decide +kernel)).trans ?_
  refine (sr_s 175 176 181 6 5 140 (by decide +kernel)).trans ?_
  refine (word_s 176 180 2 0 214211860 0 0 (rd_0) (by decide +kernel)).trans ?_
  refine (word_s 180 184 3 1 6694067 1 1 (rd_1) (by decide +kernel)).trans ?_
  refine (word_s 184 188 4 2 643568 3 3 (rd_2) (by decide +kernel)).trans ?_
  refine (word_s 188 192 5 3 23609 4 4 (rd_3) (by decide +kernel)).trans ?_
  refine (word_s 192 196 6 4 735599309185 5 5 (rd_4) (by decide +kernel)).trans ?_
  refine (word_s 196 200 7 5 599495 6 6 (rd_5) (by decide +kernel)).trans ?_
  refine (word_s 200 204 8 6 66667 7 7 (rd_6) (by decide +kernel)).trans ?_
  refine (word_s 204 208 9 7 16496818 8 8 (rd_7) (by decide +kernel)).trans ?_
  refine (word_s 208 212 10 8 16052 9 9 (rd_8) (by decide +kernel)).trans ?_
  refine (word_s 212 216 11 9 591150 10 10 (rd_9) (by decide +kernel)).trans ?_
  refine (word_s 216 220 12 10 763332 11 11 (rd_10) (by decide +kernel)).trans ?_
  rfl
set_option maxRecDepth 100000 in
theorem k39_222 : jD 39 [.ref 188] (nM L xs 222) = some (none, nM L xs 226) := by
  rw [D_39, E_39_0]
  refine (row_s 222 226 188 5 0 19 19 (by decide +kernel)).trans ?_
  rfl
set_option maxRecDepth 100000 in
theorem k39_228 : jD 39 [.ref 191] (nM L xs 228) = some (none, nM L xs 232) := by
  rw [D_39, E_39_0]
  refine (row_s 228 232 191 5 0 19 19 (by decide +kernel)).trans ?_
  rfl
set_option maxRecDepth 100000 in
theorem k0_234 : jD 0 [.ref 194] (nM L xs 234) = some (none, nM L xs 242) := by
  rw [D_0, E_0_0]
  refine (row_s 234 238 194 1 0 304 304 (by decide +kernel)).trans ?_
  refine (row_s 238 242 194 1 1 57 57 (by decide +kernel)).trans ?_
  rfl
set_option maxRecDepth 100000 in
theorem k103_244 : jD 103 [.ref 199, .ref 101, .ref 188] (nM L xs 244) = some (none, nM L xs 275) := by
  rw [D_103, E_103_0]
  refine (row_s 244 248 199 10 0 120 120 (by decide +kernel)).trans ?_
  refine (row_s 248 252 199 10 1 120 120 (by decide +kernel)).trans ?_
  refine (row_s 252 256 199 10 2 120 120 (by decide +kernel)).trans ?_
  refine (row_s 256 260 199 10 3 6 6 (by decide +kernel)).trans ?_
  refine (row_s 260 264 199 10 4 6 6 (by decide +kernel)).trans ?_
  refine (row_s 264 268 199 10 5 6 6 (by decide +kernel)).trans ?_
  refine (row_s 268 272 199 10 6 6 6 (by decide +kernel)).trans ?_
  refine (si_s 272 273 199 10 9 4294967295 (-1) (by decide +kernel)).trans ?_
  refine (sr_s 273 274 199 10 7 101 (by decide +kernel)).trans ?_
  refine (sr_s 274 275 199 10 8 188 (by decide +kernel)).trans ?_
  rfl
set_option maxRecDepth 100000 in
theorem k103_277 : jD 103 [.ref 214, .ref 101, .ref 188] (nM L xs 277) = some (none, nM L xs 308) := by
  rw [D_103, E_103_0]
  refine (row_s 277 281 214 10 0 120 120 (by decide +kernel)).trans ?_
  refine (row_s 281 285 214 10 1 120 120 (by decide +kernel)).trans ?_
  refine (row_s 285 289 214 10 2 120 120 (by decide +kernel)).trans ?_
  refine (row_s 289 293 214 10 3 6 6 (by decide +kernel)).trans ?_
  refine (row_s 293 297 214 10 4 6 6 (by decide +kernel)).trans ?_
  refine (row_s 297 301 214 10 5 6 6 (by decide +kernel)).trans ?_
  refine (row_s 301 305 214 10 6 6 6 (by decide +kernel)).trans ?_
  refine (si_s 305 306 214 10 9 4294967295 (-1) (by decide +kernel)).trans ?_
  refine (sr_s 306 307 214 10 7 101 (by decide +kernel)).trans ?_
  refine (sr_s 307 308 214 10 8 188 (by decide +kernel)).trans ?_
  rfl
set_option maxRecDepth 100000 in
theorem k91_310 : jD 91 [.ref 229] (nM L xs 310) = some (none, nM L xs 318) := by
  rw [D_91, E_91_0]
  refine (row_s 310 314 229 9 0 1800 1800 (by decide +kernel)).trans ?_
  refine (row_s 314 318 229 9 1 6 6 (by decide +kernel)).trans ?_
  rfl
set_option maxRecDepth 100000 in
theorem k7_320 : jD 7 [.ref 234] (nM L xs 320) = some (none, nM L xs 325) := by
  rw [D_7, E_7_0]
  refine (row_s 320 324 234 2 0 160 160 (by decide +kernel)).trans ?_
  refine (si_s 324 325 234 2 1 4294967295 (-1) (by decide +kernel)).trans ?_
  rfl
set_option maxRecDepth 100000 in
theorem k30_327 : jD 30 [.ref 237] (nM L xs 327) = some (none, nM L xs 331) := by
  rw [D_30, E_30_0]
  refine (row_s 327 331 237 4 0 64 64 (by decide +kernel)).trans ?_
  rfl
set_option maxRecDepth 100000 in
theorem k113_1 : jD 113 [.ref 100] (nM L xs 1) = some (none, nM L xs 336) := by
  rw [D_113, E_113_0]
  refine (obj_s 1 78 79 101 100 11 0 3 19 14 [] k14_2 (by decide +kernel)).trans ?_
  refine (obj_s 79 156 157 140 100 11 1 3 19 14 [] k14_80 (by decide +kernel)).trans ?_
  refine (row_s 157 161 100 11 2 1100 1100 (by decide +kernel)).trans ?_
  refine (ob2_s 161 220 221 181 100 11 3 6 8 49 2 1 179 140 k49_162 (by decide +kernel)).trans ?_
  refine (obj_s 221 226 227 188 100 11 4 5 1 39 [] k39_222 (by decide +kernel)).trans ?_
  refine (obj_s 227 232 233 191 100 11 5 5 1 39 [] k39_228 (by decide +kernel)).trans ?_
  refine (obj_s 233 242 243 194 100 11 6 1 5 0 [] k0_234 (by decide +kernel)).trans ?_
  refine (ob2_s 243 275 276 199 100 11 7 10 10 103 0 4 101 188 k103_244 (by decide +kernel)).trans ?_
  refine (ob2_s 276 308 309 214 100 11 8 10 10 103 0 4 101 188 k103_277 (by decide +kernel)).trans ?_
  refine (obj_s 309 318 319 229 100 11 9 9 2 91 [] k91_310 (by decide +kernel)).trans ?_
  refine (obj_s 319 325 326 234 100 11 10 2 9 7 [] k7_320 (by decide +kernel)).trans ?_
  refine (obj_s 326 331 332 237 100 11 11 4 1 30 [] k30_327 (by decide +kernel)).trans ?_
  refine (si_s 332 333 100 11 12 0 0 (by decide +kernel)).trans ?_
  refine (si_s 333 334 100 11 13 0 0 (by decide +kernel)).trans ?_
  refine (si_s 334 335 100 11 14 0 0 (by decide +kernel)).trans ?_
  refine (si_s 335 336 100 11 15 4294967295 (-1) (by decide +kernel)).trans ?_
  rfl
set_option maxRecDepth 100000 in
theorem k189_337 : jD 189 [.ref 240] (nM L xs 337) = some (none, nM L xs 374) := by
  rw [D_189, E_189_0]
  refine (si_s 337 338 240 13 2 4294967295 (-1) (by decide +kernel)).trans ?_
  refine (arr_s 338 340 240 13 5 22 1100 1100 (by decide +kernel)).trans ?_
  refine (arr_s 340 342 240 13 16 20 49 49 (by decide +kernel)).trans ?_
  refine (arr_s 342 344 240 13 17 20 784 784 (by decide +kernel)).trans ?_
  refine (arr_s 344 346 240 13 18 20 147 147 (by decide +kernel)).trans ?_
  refine (arr_s 346 348 240 13 21 20 6 6 (by decide +kernel)).trans ?_
  refine (arr_s 348 350 240 13 22 20 6 6 (by decide +kernel)).trans ?_
  refine (arr_s 350 352 240 13 23 20 120 120 (by decide +kernel)).trans ?_
  refine (arr_s 352 354 240 13 24 20 120 120 (by decide +kernel)).trans ?_
  refine (arr_s 354 356 240 13 25 20 120 120 (by decide +kernel)).trans ?_
  refine (arr_s 356 358 240 13 26 20 6 6 (by decide +kernel)).trans ?_
  refine (arr_s 358 360 240 13 27 20 6 6 (by decide +kernel)).trans ?_
  refine (arr_s 360 362 240 13 29 20 6000 6000 (by decide +kernel)).trans ?_
  refine (arr_s 362 364 240 13 30 20 1000 1000 (by decide +kernel)).trans ?_
  refine (arr_s 364 366 240 13 31 20 6 6 (by decide +kernel)).trans ?_
  refine (arr_s 366 368 240 13 32 20 6 6 (by decide +kernel)).trans ?_
  refine (arr_s 368 370 240 13 40 20 160 160 (by decide +kernel)).trans ?_
  refine (arr_s 370 372 240 13 43 20 6 6 (by decide +kernel)).trans ?_
  refine (arr_s 372 374 240 13 44 20 6 6 (by decide +kernel)).trans ?_
  rfl
theorem k316 : jD 316 [.ref 1] (jz_M0 L xs) = jd 316 1 [some (.ref 1), some (.ref 100), some (.ref 240), some (.ref 259), some (.int 0), none, none] [] (nM L xs 375) := by
  rw [D_316, E_316_0]
  refine (top_s 0 336 100 11 16 113 k113_1 (by decide +kernel)).trans ?_
  refine (top_s 336 374 240 13 45 189 k189_337 (by decide +kernel)).trans ?_
  have a1 : jm_n (nM L xs 336) = 240 := (ag_all _ (by omega)).2.1.trans (by decide +kernel)
  have a2 : jm_n (nM L xs 374) = 259 := (ag_all _ (by omega)).2.1.trans (by decide +kernel)
  have a3 : jm_new (nM L xs 374) 21 1 1 = nM L xs 375 := (nm_s (p := 374) (o := (0, 21, 1, 1)) (by decide +kernel)).symm
  show (if (1 : Int32) < 0 then none else if 1000000 ≤ (1 : Int32).toNatClampNeg then none else jd 316 1 [some (.ref 1), some (.ref 100), some (.ref (jm_n (nM L xs 336))), some (.ref (jm_n (nM L xs 374))), some (.int (0 : Int32)), none, none] [] (jm_new (nM L xs 374) 21 1 1)) = _
  rw [if_neg (by decide), if_neg (by decide), a1, a2, a3]
end KON
