theorem c_has {e : Nat} {I : Nat → Nat → Int32} {L : Nat → Nat → Int64} {R : Nat → Nat → Option Nat} {x : Int32} : Ev mX3_has 0 [.ref 1, .int x] [] (71 + e, I, L, R) = some (some (.int (if 0 ≤ x ∧ x < I 1 5 then 1 else 0)), (71 + e, I, L, R)) := by
  simp only [e_X3_has_0, e_X3_has_1, e_X3_has_4, e_X3_has_5, e_X3_has_6, e_X3_has_9, e_X3_has_12, e_X3_has_13, e_X3_has_16, e_X3_has_17, ob_1, rt_bo_0, rt_bo_1]
  sorry
