/-! the last fact -/
theorem i2d_val {x : Nat} (h1 : 1 ≤ x) (h2 : x < 2147483648) : ∃ c q, Jvm.FP.Core.val64 (FP.i2d (nI x)) = .fin false c q ∧ c * 2 ^ q.toNat = x * 2 ^ (-q).toNat := by
  have hd : Jvm.FP.Core.Whole (nI x).toInt (Jvm.FP.Core.val64 (FP.i2d (nI x))) := Jvm.FP.Core.i2d_int (nI x)
  rw [t_nI h2] at hd
  cases hv : Jvm.FP.Core.val64 (FP.i2d (nI x)) with
  | nan => rw [hv] at hd; exact hd.elim
  | inf s => rw [hv] at hd; exact hd.elim
  | fin s c q =>
    rw [hv] at hd
    have hs := Jvm.FP.Core.whole_sign hd (by omega)
    have hs : s = false := by rw [hs]; exact decide_eq_false (by omega)
    subst hs
    refine ⟨c, q, rfl, ?_⟩
    have hd : ((c * 2 ^ q.toNat : Nat) : Int) = (x : Int) * ((2 ^ (-q).toNat : Nat) : Int) := hd
    rw [← Int.natCast_mul] at hd
    exact Int.ofNat.inj hd
