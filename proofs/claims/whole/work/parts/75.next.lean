theorem set_id {f : Nat → Int32} {k : Nat} {v : Int32} (h : f k = v) : q_set f k v = f := by
  funext j
  unfold q_set
  by_cases c : j = k
  · rw [if_pos c, c, h]
  · rw [if_neg c]
