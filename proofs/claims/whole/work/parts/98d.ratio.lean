/-! a ratio up to one, rounded -/
theorem rk_ex {a b : Nat} (ha : 1 ≤ a) (hab : a ≤ b) : ∀ n, b * 4503599627370496 ≤ a * 2 ^ (52 + n) → ∃ k, k ≤ n ∧ b * 4503599627370496 ≤ a * 2 ^ (52 + k) ∧ a * 2 ^ (52 + k) < b * 9007199254740992
  | 0, h => ⟨0, Nat.le_refl _, h, by
    rw [show a * 2 ^ (52 + 0) = a * 4503599627370496 from rfl]
    omega⟩
  | n + 1, h => by
    by_cases q : b * 4503599627370496 ≤ a * 2 ^ (52 + n)
    · obtain ⟨k, h1, h2, h3⟩ := rk_ex ha hab n q
      exact ⟨k, by omega, h2, h3⟩
    · refine ⟨n + 1, Nat.le_refl _, h, ?_⟩
      rw [show 52 + (n + 1) = (52 + n) + 1 by omega, Nat.pow_succ, ← Nat.mul_assoc]
      omega
theorem rr_val {a b : Nat} (ha : 1 ≤ a) (hab : a ≤ b) (hb : b < 1000000) : ∃ E t : Nat, 23 ≤ E ∧ E ≤ 1023 ∧ t < 4503599627370496 ∧ Jvm.FP.Core.roundRatio Jvm.FP.Core.b64 false a b 0 = .fin false (4503599627370496 + t) ((E : Int) - 1075) := by
  obtain ⟨k, k1, k2, k3⟩ := rk_ex ha hab 20 (by
    rw [show a * 2 ^ (52 + 20) = a * 4722366482869645213696 from rfl]
    omega)
  have hA : 0 < a := ha
  have hB : 0 < b := by omega
  obtain ⟨X, hX⟩ : ∃ X, X = a * 2 ^ (52 + k) := ⟨_, rfl⟩
  have un : Jvm.FP.Core.unitsNum a 0 (-((52 + k : Nat) : Int)) = X := by
    unfold Jvm.FP.Core.unitsNum
    rw [hX, show ((0 : Int) - -((52 + k : Nat) : Int)).toNat = 52 + k by omega]
  have ud : Jvm.FP.Core.unitsDen b 0 (-((52 + k : Nat) : Int)) = b := by
    unfold Jvm.FP.Core.unitsDen
    rw [show (-((52 + k : Nat) : Int) - 0).toNat = 0 by omega, Nat.pow_zero, Nat.mul_one]
  rw [← hX] at k2 k3
  have hq : Jvm.FP.Core.quantum Jvm.FP.Core.b64 a b 0 = -((52 + k : Nat) : Int) := by
    refine Jvm.FP.Core.quantum_eq hA hB (by rw [Jvm.FP.Core.qmin_b64]; omega) ?_ (Or.inr ?_)
    · have := (Jvm.FP.Core.units_below a b 0 (-((52 + k : Nat) : Int)) 53).mp (by
        rw [un, ud, show 2 ^ 53 = 9007199254740992 from rfl, Nat.mul_comm]
        exact k3)
      exact this
    · intro hbw
      rw [show ((Jvm.FP.Core.b64.p : Int) - 1) = ((52 : Nat) : Int) from by decide] at hbw
      have := (Jvm.FP.Core.units_below a b 0 (-((52 + k : Nat) : Int)) 52).mpr hbw
      rw [un, ud, show 2 ^ 52 = 4503599627370496 from rfl, Nat.mul_comm] at this
      omega
  obtain ⟨C, hC⟩ : ∃ C, C = Jvm.FP.Core.nearest X b := ⟨_, rfl⟩
  have c1 : 4503599627370496 ≤ C := by
    rw [hC]
    exact Jvm.FP.Core.nearest_ge hB (by rw [Nat.mul_comm]; exact k2)
  have c2 : C ≤ 9007199254740992 := by
    rw [hC]
    exact Jvm.FP.Core.nearest_le hB (by rw [Nat.mul_comm]; exact Nat.le_of_lt k3)
  have e0 : Jvm.FP.Core.roundRatio Jvm.FP.Core.b64 false a b 0 = Jvm.FP.Core.settle Jvm.FP.Core.b64 false C (-((52 + k : Nat) : Int)) := by
    unfold Jvm.FP.Core.roundRatio
    rw [if_neg (by omega), hq]
    unfold Jvm.FP.Core.roundAt
    rw [un, ud, hC]
  have qm : Jvm.FP.Core.b64.qmax = 971 := by decide
  rw [e0]
  unfold Jvm.FP.Core.settle
  by_cases w : C < 9007199254740992
  · refine ⟨1023 - k, C - 4503599627370496, by omega, by omega, by omega, ?_⟩
    rw [if_pos (show C < 2 ^ Jvm.FP.Core.b64.p from w)]
    unfold Jvm.FP.Core.bound
    rw [if_pos (by rw [qm]; omega), show 4503599627370496 + (C - 4503599627370496) = C by omega, show (((1023 - k : Nat) : Int) - 1075) = -((52 + k : Nat) : Int) by omega]
  · have hk : 1 ≤ k := by
      rcases Nat.eq_zero_or_pos k with z | z
      · exfalso
        have : C ≤ 4503599627370496 := by
          rw [hC]
          refine Jvm.FP.Core.nearest_le hB ?_
          rw [hX, z, show a * 2 ^ (52 + 0) = a * 4503599627370496 from rfl, Nat.mul_comm a]
          exact Nat.mul_le_mul_left _ hab
        clear hC hX e0 hq un ud
        omega
      · exact z
    refine ⟨1024 - k, 0, by omega, by omega, by omega, ?_⟩
    rw [if_neg (show ¬ C < 2 ^ Jvm.FP.Core.b64.p from w)]
    unfold Jvm.FP.Core.bound
    rw [if_pos (by rw [qm]; omega), Jvm.FP.Core.tails_b64, show (((1024 - k : Nat) : Int) - 1075) = -((52 + k : Nat) : Int) + 1 by omega]
