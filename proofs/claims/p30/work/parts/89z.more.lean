/-! more of what whole had -/
theorem stg_le {R : aY} {m : Nat} : stg R m ≤ 2 := by
  unfold stg
  split
  · omega
  · split <;> omega
