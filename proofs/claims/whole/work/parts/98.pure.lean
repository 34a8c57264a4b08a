/-! THE PURE HALF (open) -/
theorem jz_pure (L : Nat) (xs : Nat → Int32) (hL : L ≤ 3072) : ∃ M', jx_D jt_tx jt_sw jt_cd jt_nl jt_law [.ref 1] (jz_M0 L xs) = some (some (.int 1), M') ∧ jm_n M' - 100 ≤ 601024 ∧ jm_w M' ≤ 7293034 := by
  sorry
