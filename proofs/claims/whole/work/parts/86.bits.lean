/-! bits of a number -/
theorem bit_get (x : Int32) {d : Nat} (hd : d < 32) : (x >>> (w d &&& 31)) &&& 1 = 1 ↔ x.toBitVec.getLsbD d = true := by
  rw [and31 hd]
  have e : (BitVec.ofNat 32 d).smod 32 = BitVec.ofNat 32 d := by
    have : ∀ j, j < 32 → (BitVec.ofNat 32 j).smod 32 = BitVec.ofNat 32 j := by decide +kernel
    exact this d hd
  have hs : (x >>> w d).toBitVec = x.toBitVec.sshiftRight d := by
    show x.toBitVec.sshiftRight' ((BitVec.ofNat 32 d).smod 32) = _
    rw [e]
    show x.toBitVec.sshiftRight (BitVec.ofNat 32 d).toNat = _
    rw [BitVec.toNat_ofNat, Nat.mod_eq_of_lt (show d < 2 ^ 32 by omega)]
  have h1 : (x >>> w d &&& 1 = 1) ↔ ((x >>> w d).toBitVec &&& 1#32 = 1#32) := ⟨fun z => congrArg Int32.toBitVec z, fun z => Int32.toBitVec_inj.mp z⟩
  have h2 : ∀ y : BitVec 32, (y &&& 1#32 = 1#32) ↔ y.getLsbD 0 = true := fun y => by
    rw [BitVec.and_one_eq_setWidth_ofBool_getLsbD]
    cases y.getLsbD 0 <;> decide
  rw [h1, h2, hs, BitVec.getLsbD_sshiftRight, Nat.add_zero, if_pos hd]
  simp
theorem or_get (x : Int32) {v d : Nat} (hv : v < 31) (hd : d < 31) : (x ||| ((1 : Int32) <<< (w v &&& 31))).toBitVec.getLsbD d = (x.toBitVec.getLsbD d || decide (d = v)) := by
  rw [and31 (show v < 32 by omega), show (1 : Int32) <<< w v = w (2 ^ v) by rw [show (1 : Int32) = w 1 from rfl, shl_w (by omega), Nat.one_mul]]
  show (x.toBitVec ||| BitVec.ofNat 32 (2 ^ v)).getLsbD d = _
  rw [BitVec.getLsbD_or, BitVec.getLsbD_ofNat, Nat.testBit_two_pow]
  have : d < 32 := by omega
  by_cases c : d = v
  · subst c; simp [this]
  · have c' : ¬ v = d := fun e => c e.symm
    simp [this, c, c']
theorem bit_or (x : Int32) {v d : Nat} (hv : v < 31) (hd : d < 31) : ((x ||| ((1 : Int32) <<< (w v &&& 31))) >>> (w d &&& 31)) &&& 1 = 1 ↔ ((x >>> (w d &&& 31)) &&& 1 = 1 ∨ d = v) := by
  rw [bit_get _ (by omega), bit_get _ (by omega), or_get x hv hd, Bool.or_eq_true, decide_eq_true_eq]
