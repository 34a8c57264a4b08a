/-! THE LAW'S LOOP -/
theorem E_316_1 (x4 : Int32) (M : jM) : jd 316 1 [some (.ref 1), some (.ref 100), some (.ref 240), some (.ref 259), some (.int x4), none, none] [] M = if 20 ≤ jm_k M 1 ∧ jm_k M 1 ≤ 30 then if (Int32.ofNat (jm_z M 1) - 6) < x4 then jd 316 70 [none, none, none, none, none, none, none] [] M else if jm_k M 1 = 20 ∨ jm_k M 1 = 30 then if x4 < 0 ∨ jm_z M 1 ≤ x4.toNatClampNeg then none else jd 316 (jx_sw (jt_sw 6) (jm_i M 1 x4.toNatClampNeg &&& 63)) (jx_mk (jt_cd 316 (jx_sw (jt_sw 6) (jm_i M 1 x4.toNatClampNeg &&& 63))).2.2.2 [some (.ref 1), some (.ref 100), some (.ref 240), some (.ref 259), some (.int x4), none, none]) [] M else none else none := jd_eq _ _ _ _ _
def q_sl49 : List Nat := (jt_sw 6).2.1
theorem sw_in (v : Int32) : jx_sw (jt_sw 6) v = 69 ∨ jx_sw (jt_sw 6) v ∈ q_sl49 := by
  unfold jx_sw
  split
  · exact Or.inl rfl
  · rename_i h
    have h1 : (jt_sw 6).1 = 0 := rfl
    have h2 : (jt_sw 6).2.1.length = 49 := rfl
    have hl : (v.toInt - (jt_sw 6).1).toNat < (jt_sw 6).2.1.length := by
      rw [h2] at h ⊢
      rw [h1] at h ⊢
      omega
    refine Or.inr ?_
    rw [List.getD_eq_getElem?_getD, List.getElem?_eq_getElem hl]
    exact List.getElem_mem hl
theorem sw_mk : ∀ k ∈ (69 :: q_sl49), (jt_cd 316 k).2.2.2 = [true, true, true, true, true, false, false] := by decide +kernel
theorem n6_lt {N i : Nat} (hN : N ≤ 3072) (hi : i ≤ 9000) : (w N - 6) < w i ↔ N < i + 6 := by
  rw [Int32.lt_iff_toInt_lt, Int32.toInt_sub, w_int (by omega), w_int (by omega), show (6 : Int32).toInt = 6 from rfl, Int.bmod_eq_of_le (by omega) (by omega)]
  omega
section LWL
variable {X : Nat → Int32} {N : Nat}
theorem blk_all {I : qI} {L : qL} {s : qS} {t t' i : Nat} (ok : qOk I L s t t' X N) (hi : i + 6 ≤ N) (hN : N ≤ 3072) : ∀ k ∈ q_sl49, qBk I L s X N i k := by
  intro k hk
  have hk : k ∈ [2, 3, 4, 5, 6, 7, 8, 9, 10, 11, 12, 13, 14, 15, 16, 17, 18, 19, 20, 21, 26, 27, 28, 29, 30, 31, 32, 33, 34, 35, 36, 37, 38, 39, 40, 45, 50, 51, 52, 53, 54, 59, 60, 61, 62, 63, 64, 67, 68] := hk
  simp only [List.mem_cons, List.not_mem_nil, or_false] at hk
  rcases hk with rfl | rfl | rfl | rfl | rfl | rfl | rfl | rfl | rfl | rfl | rfl | rfl | rfl | rfl | rfl | rfl | rfl | rfl | rfl | rfl | rfl | rfl | rfl | rfl | rfl | rfl | rfl | rfl | rfl | rfl | rfl | rfl | rfl | rfl | rfl | rfl | rfl | rfl | rfl | rfl | rfl | rfl | rfl | rfl | rfl | rfl | rfl | rfl | rfl
  · exact blk_2 ok hi hN
  · exact blk_3 ok hi hN
  · exact blk_4 ok hi hN
  · exact blk_5 ok hi hN
  · exact blk_6 ok hi hN
  · exact blk_7 ok hi hN
  · exact blk_8 ok hi hN
  · exact blk_9 ok hi hN
  · exact blk_10 ok hi hN
  · exact blk_11 ok hi hN
  · exact blk_12 ok hi hN
  · exact blk_13 ok hi hN
  · exact blk_14 ok hi hN
  · exact blk_15 ok hi hN
  · exact blk_16 ok hi hN
  · exact blk_17 ok hi hN
  · exact blk_18 ok hi hN
  · exact blk_19 ok hi hN
  · exact blk_20 ok hi hN
  · exact blk_21 ok hi hN
  · exact blk_26 ok hi hN
  · exact blk_27 ok hi hN
  · exact blk_28 ok hi hN
  · exact blk_29 ok hi hN
  · exact blk_30 ok hi hN
  · exact blk_31 ok hi hN
  · exact blk_32 ok hi hN
  · exact blk_33 ok hi hN
  · exact blk_34 ok hi hN
  · exact blk_35 ok hi hN
  · exact blk_36 ok hi hN
  · exact blk_37 ok hi hN
  · exact blk_38 ok hi hN
  · exact blk_39 ok hi hN
  · exact blk_40 ok hi hN
  · exact blk_45 ok hi hN
  · exact blk_50 ok hi hN
  · exact blk_51 ok hi hN
  · exact blk_52 ok hi hN
  · exact blk_53 ok hi hN
  · exact blk_54 ok hi hN
  · exact blk_59 ok hi hN
  · exact blk_60 ok hi hN
  · exact blk_61 ok hi hN
  · exact blk_62 ok hi hN
  · exact blk_63 ok hi hN
  · exact blk_64 ok hi hN
  · exact blk_67 ok hi hN
  · exact blk_68 ok hi hN
theorem law_end {I : qI} {L : qL} {s : qS} {t t' i : Nat} (ok : qOk I L s t t' X N) (hN : N ≤ 3072) (hi : i ≤ 9000) (h : N < i + 6) : jd 316 1 [some (.ref 1), some (.ref 100), some (.ref 240), some (.ref 259), some (.int (w i)), none, none] [] (I, L, s) = some (some (.int 1), (I, L, s)) := by
  obtain ⟨sx1, sx2, sx3, -⟩ := ok.2.2.2.2
  have hk : jm_k ((I, L, s) : jM) 1 = 30 := sx2
  have hz : jm_z ((I, L, s) : jM) 1 = N := sx3
  rw [E_316_1, hk, hz, if_pos (by decide), if_pos ((n6_lt hN hi).mpr h), E_316_70, if_pos (Or.inr rfl)]
theorem law_loop : ∀ (d : Nat) {I : qI} {L : qL} {s : qS} {t t' i : Nat}, qOk I L s t t' X N → N ≤ 3072 → i ≤ 3078 → N < i + 6 * d + 6 → ∃ I2 L2 s2, jd 316 1 [some (.ref 1), some (.ref 100), some (.ref 240), some (.ref 259), some (.int (w i)), none, none] [] (I, L, s) = some (some (.int 1), (I2, L2, s2)) ∧ qn s2 ≤ qn s + 24 * d ∧ qw s2 ≤ qw s + 1000 * d := by
  intro d
  induction d with
  | zero => exact fun {I L s t t' i} ok hN hi h => ⟨I, L, s, law_end ok hN (by omega) (by omega), Nat.le_add_right _ _, Nat.le_add_right _ _⟩
  | succ d ih =>
    intro I L s t t' i ok hN hi h
    by_cases hc : N < i + 6
    · exact ⟨I, L, s, law_end ok hN (by omega) hc, Nat.le_add_right _ _, Nat.le_add_right _ _⟩
    · obtain ⟨sx1, sx2, sx3, -⟩ := id ok.2.2.2.2
      have hk : jm_k ((I, L, s) : jM) 1 = 30 := sx2
      have hz : jm_z ((I, L, s) : jM) 1 = N := sx3
      have go : ∀ {I2 : qI} {L2 : qL} {s2 : qS} {t2 t2' : Nat}, qOk I2 L2 s2 t2 t2' X N → qn s2 ≤ qn s + 24 → qw s2 ≤ qw s + 1000 → ∃ I3 L3 s3, jd 316 69 [some (.ref 1), some (.ref 100), some (.ref 240), some (.ref 259), some (.int (w i)), none, none] [] (I2, L2, s2) = some (some (.int 1), (I3, L3, s3)) ∧ qn s3 ≤ qn s + 24 * (d + 1) ∧ qw s3 ≤ qw s + 1000 * (d + 1) := by
        intro I2 L2 s2 t2 t2' ok2 en ew
        obtain ⟨I3, L3, s3, e3, en3, ew3⟩ := ih (i := i + 6) ok2 hN (by omega) (by omega)
        refine ⟨I3, L3, s3, ?_, by omega, by omega⟩
        rw [E_316_69, show w i + (6 : Int32) = w (i + 6) from w_add (b := 6)]
        exact e3
      have hx : ¬ (w i < 0 ∨ N ≤ (w i).toNatClampNeg) := by
        rw [w_tc (by omega)]
        intro h1
        rcases h1 with h1 | h1
        · exact w_nn (by omega) h1
        · omega
      rw [E_316_1, hk, hz, if_pos (by decide), if_neg (fun h1 => hc ((n6_lt hN (by omega)).mp h1)), if_pos (Or.inr rfl), if_neg hx]
      have hs := sw_in (jm_i ((I, L, s) : jM) 1 (w i).toNatClampNeg &&& 63)
      generalize jx_sw (jt_sw 6) (jm_i ((I, L, s) : jM) 1 (w i).toNatClampNeg &&& 63) = k at hs ⊢
      rcases hs with hs | hs
      · rw [sw_mk k (by rw [hs]; exact List.mem_cons_self), hs]
        exact go ok (by omega) (by omega)
      · rw [sw_mk k (List.mem_cons_of_mem _ hs)]
        obtain ⟨I2, L2, s2, t2, t2', e2, ok2, en, ew⟩ := blk_all (i := i) ok (by omega) hN k hs
        exact (go ok2 en ew).imp fun I3 => Exists.imp fun L3 => Exists.imp fun s3 => fun h => ⟨(e2.trans h.1 : _), h.2⟩
end LWL
