/-! what is set on a day; one yard copied into another -/
/-- how many of the first n of a house were set on a day -/
def onH (N : Nat → Nat → Nat) (y d h : Nat) : Nat → Nat := sumN (fun i => if N (y + 8) i = d then 1 else 0) (h * 6)
def onAll (N : Nat → Nat → Nat) (y d : Nat) : Nat → Nat := fun h => onH N y d h (N (y + 5) h)
section Yo
variable {Z : aZ} {N : Nat → Nat → Nat} {L : Nat → Nat → Int64} {c : Nat × Nat} {y : Nat}
theorem s_setTodays {q : List Nat} (hy : YAt Z y) (hq : QH N y q) (hn : q.length ≤ 36) (hb : ∀ x ∈ q, x < 36 ∧ N (y + 8) x < 2147483648)
    (w1 : 1 ≤ N y 2) (w2 : N y 2 ≤ 60) (ht : N y 0 < 2147483648) (hw : ∀ x, x < 36 → N (y + 6) x ≤ 3 ∧ N (y + 7) x ≤ 9999) (hv : ∀ i, i < 60 → N (y + 1) i ≤ 9) (hs : ∀ h, h < 6 → N (y + 5) h ≤ 6) (hh : N (y + 2) 2 ≤ 30) :
    ex 45 0 [some (.ref y), none, none, none, none, none] [] (Z, iN N, L, c) = some (.inl (some (.int (nI (stX y q 0 0 N).2.1))), (Z, iN (up2 (stX y q 0 0 N).2.2 y 3 (stX y q 0 0 N).1), L, c)) := by
  simp only [r_X6_setTodays_0, r_X6_setTodays_1, r_X6_setTodays_2, r_X6_setTodays_3, r_X6_setTodays_4, r_X6_setTodays_5, kp_none, kp_int, kp_ref]
  exact s_setTodays_loop hy hn q 0 0 0 N none none (by omega) hq.1 (by omega) (by omega) (fun j h => by rw [Nat.zero_add]; exact hq.2 j h) hb w1 w2 ht hw hv hs hh
end Yo
