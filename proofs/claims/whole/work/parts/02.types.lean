/-! A SMALL MACHINE of its own: memory by codes of cells, blocks of instructions, the methods by numbers; its answers as a function. -/
abbrev jM : Type := (Nat → Nat → Int32) × (Nat → Nat → Int64) × (Nat → Nat → Nat) × (Nat → Nat) × (Nat → Nat) × Nat × Nat
def jm_i (M : jM) : Nat → Nat → Int32 := M.1
def jm_l (M : jM) : Nat → Nat → Int64 := M.2.1
/-- a reference's code, 0 for null -/
def jm_r (M : jM) : Nat → Nat → Nat := M.2.2.1
/-- the kind of a cell: its class and one; 20 ints, 21 longs, 22 bytes; 30 the script; 40 a text; 0 none of ours -/
def jm_k (M : jM) : Nat → Nat := M.2.2.2.1
def jm_z (M : jM) : Nat → Nat := M.2.2.2.2.1
def jm_n (M : jM) : Nat := M.2.2.2.2.2.1
def jm_w (M : jM) : Nat := M.2.2.2.2.2.2
def jm_up {α : Type} (f : Nat → Nat → α) (a k : Nat) (v : α) : Nat → Nat → α := fun x y => if x = a ∧ y = k then v else f x y
def jm_row {α : Type} (f : Nat → Nat → α) (a : Nat) (v : α) : Nat → Nat → α := fun x y => if x = a then v else f x y
def jm_at {α : Type} (f : Nat → α) (a : Nat) (v : α) : Nat → α := fun x => if x = a then v else f x
def jm_si (M : jM) (a k : Nat) (v : Int32) : jM := (jm_up M.1 a k v, M.2)
def jm_sl (M : jM) (a k : Nat) (v : Int64) : jM := (M.1, jm_up M.2.1 a k v, M.2.2)
def jm_sr (M : jM) (a k : Nat) (v : Nat) : jM := (M.1, M.2.1, jm_up M.2.2.1 a k v, M.2.2.2)
/-- a new cell of a kind, of a length, that counts so many slots -/
def jm_new (M : jM) (kd len w : Nat) : jM :=
  (jm_row M.1 (jm_n M) 0, jm_row M.2.1 (jm_n M) 0, jm_row M.2.2.1 (jm_n M) 0, jm_at M.2.2.2.1 (jm_n M) kd, jm_at M.2.2.2.2.1 (jm_n M) len, jm_n M + 1, jm_w M + w)
/-- what a call answers -/
abbrev jR : Type := Option Value × jM
abbrev jL : Type := List (Option Value)
/-- an instruction, a constant, four numbers -/
abbrev jX : Type := Instr × Value × Nat × Nat × Nat × Nat
/-- a block: its instructions, the one behind, where it begins, which locals live -/
abbrev jB : Type := List jX × Nat × Nat × List Bool
