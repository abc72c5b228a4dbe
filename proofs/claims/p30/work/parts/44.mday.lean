/-! the reference: a day's room, the order -/
theorem sumN_bd {f : Nat → Nat} {a b : Nat} : ∀ {n : Nat}, (∀ i, i < n → f (a + i) ≤ b) → sumN f a n ≤ b * n
  | 0, _ => Nat.zero_le _
  | n + 1, h => by
    have h1 := sumN_bd (n := n) (fun i hi => h i (by omega))
    have h2 := h n (by omega)
    rw [sumN_succ, Nat.mul_succ]
    omega
section Mb
variable {Z : aZ} {N : Nat → Nat → Nat} {L : Nat → Nat → Int64} {c : Nat × Nat}
end Mb
