/-! one less, then as a whole number -/
theorem d1_val : Jvm.FP.Core.val64 FP.dconst1 = .fin false 4503599627370496 (-52) := by decide +kernel
theorem d52_val : Jvm.FP.Core.val64 0x4330000000000000 = .fin false 4503599627370496 0 := by decide +kernel
theorem sc_ex : ∀ (n t : Nat), 1 ≤ t → t < 4503599627370496 → 4503599627370496 ≤ t * 2 ^ n → ∃ s, s ≤ n ∧ 4503599627370496 ≤ t * 2 ^ s ∧ t * 2 ^ s < 9007199254740992
  | 0, t, _, h2, h3 => by
    rw [Nat.pow_zero, Nat.mul_one] at h3
    omega
  | n + 1, t, h1, h2, h3 => by
    by_cases q : 4503599627370496 ≤ t * 2 ^ n
    · obtain ⟨s, a, b, c⟩ := sc_ex n t h1 h2 q
      exact ⟨s, by omega, b, c⟩
    · refine ⟨n + 1, Nat.le_refl _, h3, ?_⟩
      rw [Nat.pow_succ, ← Nat.mul_assoc]
      omega
theorem dm_val {t : Nat} (h0 : 1 ≤ t) (ht : t < 4503599627370496) : ∃ s : Nat, s ≤ 52 ∧ (4503599627370496 ≤ t * 2 ^ s ∧ t * 2 ^ s < 9007199254740992) ∧ Jvm.FP.Core.val64 (FP.dsub (dW 1023 t) FP.dconst1) = .fin false (t * 2 ^ s) (-52 - (s : Int)) := by
  obtain ⟨s, a, b, c⟩ := sc_ex 52 t h0 ht (by
    show 4503599627370496 ≤ t * 4503599627370496
    omega)
  refine ⟨s, a, ⟨b, c⟩, (Jvm.FP.Core.val64_dsub _ _).trans ?_⟩
  rw [dW_val (by omega) (by omega) ht, d1_val]
  have hu : Jvm.FP.Core.sumUnits false (4503599627370496 + t) (((1023 : Nat) : Int) - 1075) true 4503599627370496 (-52) (min (((1023 : Nat) : Int) - 1075) (-52)) = (t : Int) := by
    unfold Jvm.FP.Core.sumUnits Jvm.FP.Core.signed Jvm.FP.Core.inUnits
    rw [show (((1023 : Nat) : Int) - 1075 - min (((1023 : Nat) : Int) - 1075) (-52)).toNat = 0 by omega, show ((-52 : Int) - min (((1023 : Nat) : Int) - 1075) (-52)).toNat = 0 by omega]
    simp only [Nat.pow_zero, Nat.mul_one, if_true, Bool.false_eq_true, if_false]
    omega
  show Jvm.FP.Core.round Jvm.FP.Core.b64 (.fin (Jvm.FP.Core.sumSign false true _) (Jvm.FP.Core.sumUnits _ _ _ _ _ _ _).natAbs (min (((1023 : Nat) : Int) - 1075) (-52))) = _
  rw [show (!false) = true from rfl, hu]
  have hs : Jvm.FP.Core.sumSign false true (t : Int) = false := by
    unfold Jvm.FP.Core.sumSign
    rw [if_neg (by omega)]
    exact decide_eq_false (by omega)
  rw [hs]
  show Jvm.FP.Core.roundRatio Jvm.FP.Core.b64 false (t : Int).natAbs 1 (min (((1023 : Nat) : Int) - 1075) (-52)) = _
  rw [Int.natAbs_natCast, show min (((1023 : Nat) : Int) - 1075) (-52) = -52 by omega]
  refine Jvm.FP.Core.roundRatio_exact Jvm.FP.Core.good_b64 (by omega) ⟨c, ?_, ?_, Or.inr b⟩ ?_
  · rw [Jvm.FP.Core.qmin_b64]
    omega
  · rw [show Jvm.FP.Core.b64.qmax = 971 from by decide]
    omega
  · rw [show ((-52 : Int) - (-52 - (s : Int))).toNat = s by omega, show (-52 - (s : Int) - -52).toNat = 0 by omega]
    simp only [Nat.pow_zero, Nat.mul_one]
theorem dm_int {t : Nat} (ht : t < 4503599627370496) : Jvm.FP.Core.val64 (FP.dsub (dW 1023 t) FP.dconst1) ≠ .nan ∧ Jvm.FP.Core.DInt (t : Int) (FP.dmul (FP.dsub (dW 1023 t) FP.dconst1) 0x4330000000000000) := by
  by_cases h0 : t = 0
  · subst h0
    have e : dW 1023 0 = FP.dconst1 := by decide +kernel
    rw [e]
    have e2 : FP.dmul (FP.dsub FP.dconst1 FP.dconst1) 0x4330000000000000 = 0 := by decide +kernel
    refine ⟨?_, ?_⟩
    · rw [show FP.dsub FP.dconst1 FP.dconst1 = 0 from by decide +kernel]
      decide +kernel
    · rw [e2]
      unfold Jvm.FP.Core.DInt
      rw [show Jvm.FP.Core.val64 0 = .fin false 0 (-1074) from by decide +kernel]
      simp [Jvm.FP.Core.Whole, Jvm.FP.Core.signed]
  · obtain ⟨s, a, ⟨b, c⟩, hv⟩ := dm_val (by omega) ht
    refine ⟨by rw [hv]; exact fun h => (by cases h), ?_⟩
    have hm : Jvm.FP.Core.val64 (FP.dmul (FP.dsub (dW 1023 t) FP.dconst1) 0x4330000000000000) = .fin false (t * 2 ^ s) (-(s : Int)) := by
      refine (Jvm.FP.Core.val64_dmul _ _).trans ?_
      rw [hv, d52_val]
      show Jvm.FP.Core.roundRatio Jvm.FP.Core.b64 (false != false) (t * 2 ^ s * 4503599627370496) 1 (-52 - (s : Int) + 0) = _
      refine Jvm.FP.Core.roundRatio_exact Jvm.FP.Core.good_b64 (by omega) ⟨c, ?_, ?_, Or.inr b⟩ ?_
      · rw [Jvm.FP.Core.qmin_b64]
        omega
      · rw [show Jvm.FP.Core.b64.qmax = 971 from by decide]
        omega
      · rw [show (-52 - (s : Int) + 0 - -(s : Int)).toNat = 0 by omega, show (-(s : Int) - (-52 - (s : Int) + 0)).toNat = 52 by omega]
        simp only [Nat.pow_zero, Nat.mul_one, Nat.reducePow]
    unfold Jvm.FP.Core.DInt
    rw [hm]
    show Jvm.FP.Core.signed false (t * 2 ^ s * 2 ^ (-(s : Int)).toNat) = (t : Int) * ((2 ^ (-(-(s : Int))).toNat : Nat) : Int)
    rw [show (-(s : Int)).toNat = 0 by omega, show (-(-(s : Int))).toNat = s by omega]
    unfold Jvm.FP.Core.signed
    simp only [Nat.pow_zero, Nat.mul_one, Bool.false_eq_true, if_false]
    rw [Int.natCast_mul]
theorem dW_toNat {E t : Nat} (h1 : 1 ≤ E) (h2 : E ≤ 1100) (ht : t < 4503599627370496) : (dW E t).toNat = E * 4503599627370496 + t := by
  unfold dW
  rw [Jvm.FP.Core.toNat_of64 (dW_fits h1 h2 ht)]
  unfold Jvm.FP.Core.encode
  dsimp only
  rw [Jvm.FP.Core.tails_b64, if_neg (by omega)]
  unfold Jvm.FP.Core.assemble
  rw [Jvm.FP.Core.tails_b64, Jvm.FP.Core.qmin_b64, show ((E : Int) - 1075 - -1074).toNat + 1 = E by omega]
  simp only [Bool.toNat_false, Nat.zero_mul, Nat.zero_add, Nat.reducePow]
  omega
