/-! THE PURE HALF: the law comes to its end with true -/
theorem jz_pure (L : Nat) (xs : Nat → Int32) (hL : L ≤ 3072) : ∃ M', jx_D jt_tx jt_sw jt_cd jt_nl jt_law [.ref 1] (jz_M0 L xs) = some (some (.int 1), M') ∧ jm_n M' - 100 ≤ 601024 ∧ jm_w M' ≤ 7293034 := by
  have A := ag_all (L := L) (xs := xs) 375 (by omega)
  obtain ⟨I2, L2, s2, e, en, ew⟩ := law_loop 512 (i := 0) (fin_ok (L := L) (xs := xs)) hL (by omega) (by omega)
  have hn : qn (nM L xs 375).2.2 = 260 := A.2.1.trans fc_c.2.2.2.2.2.2.2.2.2.1
  have hw : qw (nM L xs 375).2.2 ≤ 100000 := Nat.le_trans (Nat.le_of_eq A.2.2.1) fc_c.2.2.2.2.2.2.2.2.2.2
  refine ⟨(I2, L2, s2), k316.trans e, ?_, ?_⟩
  · show qn s2 - 100 ≤ 601024
    omega
  · show qw s2 ≤ 7293034
    omega
