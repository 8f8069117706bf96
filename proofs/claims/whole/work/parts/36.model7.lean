/-! the reference: what a kind lays -/
theorem lc_ref {k rc c : Int32} (h : ¬ c.toInt = 0) : (if k = 5 then (if c.toInt < 0 then rc + c else c - rc) else if k = 1 ∨ k = 4 then -1 * c else 1 * c) = lc k rc c := by
  unfold lc
  by_cases h5 : k = 5
  · have hn : ¬ (k = 1 ∨ k = 4) := by rw [h5]; decide
    rw [if_pos h5, if_neg hn, if_pos h5]
    by_cases q : c.toInt < 0
    · rw [if_pos q, if_neg (show ¬ 0 < c.toInt by omega), Int32.add_comm]
    · rw [if_neg q, if_pos (show 0 < c.toInt by omega)]
  · rw [if_neg h5]
    by_cases q : k = 1 ∨ k = 4
    · rw [if_pos q, if_pos q, Int32.neg_mul, Int32.one_mul]
    · rw [if_neg q, if_neg q, if_neg h5, Int32.one_mul]
