/-! doubles from 2^-1022 to 1, by their fields -/
def dW (E t : Nat) : UInt64 := Jvm.FP.Core.of64 (.fin false (4503599627370496 + t) ((E : Int) - 1075))
theorem dW_fits {E t : Nat} (h1 : 1 ≤ E) (h2 : E ≤ 1100) (ht : t < 4503599627370496) : Jvm.FP.Core.fits Jvm.FP.Core.b64 (.fin false (4503599627370496 + t) ((E : Int) - 1075)) := by
  refine ⟨?_, ?_, ?_, Or.inr ?_⟩
  · show 4503599627370496 + t < 2 ^ 53
    omega
  · rw [Jvm.FP.Core.qmin_b64]
    omega
  · show (E : Int) - 1075 ≤ Jvm.FP.Core.b64.qmax
    rw [show Jvm.FP.Core.b64.qmax = 971 from by decide]
    omega
  · rw [Jvm.FP.Core.tails_b64]
    omega
theorem dW_val {E t : Nat} (h1 : 1 ≤ E) (h2 : E ≤ 1100) (ht : t < 4503599627370496) : Jvm.FP.Core.val64 (dW E t) = .fin false (4503599627370496 + t) ((E : Int) - 1075) := Jvm.FP.Core.val64_of64 (dW_fits h1 h2 ht)
theorem dW_nn {E t : Nat} (h1 : 1 ≤ E) (h2 : E ≤ 1100) (ht : t < 4503599627370496) : Jvm.FP.Core.val64 (dW E t) ≠ .nan := by
  rw [dW_val h1 h2 ht]
  exact fun h => by cases h
theorem d2_val : Jvm.FP.Core.val64 0x4000000000000000 = .fin false 4503599627370496 (-51) := by decide +kernel
/-- doubling -/
theorem dW_2 {E t : Nat} (h1 : 1 ≤ E) (h2 : E ≤ 1023) (ht : t < 4503599627370496) : FP.dmul (dW E t) 0x4000000000000000 = dW (E + 1) t := by
  refine (Jvm.FP.Core.val64_inj (dW_nn (by omega) (by omega) ht) ?_).symm
  rw [dW_val (by omega) (by omega) ht]
  refine Eq.symm ((Jvm.FP.Core.val64_dmul _ _).trans ?_)
  rw [dW_val h1 (by omega) ht, d2_val]
  show Jvm.FP.Core.roundRatio Jvm.FP.Core.b64 (false != false) ((4503599627370496 + t) * 4503599627370496) 1 ((E : Int) - 1075 + -51) = _
  refine Jvm.FP.Core.roundRatio_exact Jvm.FP.Core.good_b64 (by omega) (dW_fits (by omega) (by omega) ht) ?_
  rw [show ((E : Int) - 1075 + -51 - (((E + 1 : Nat) : Int) - 1075)).toNat = 0 by omega, show ((((E + 1 : Nat) : Int) - 1075) - ((E : Int) - 1075 + -51)).toNat = 52 by omega]
  simp only [Nat.pow_zero, Nat.mul_one, Nat.reducePow]
