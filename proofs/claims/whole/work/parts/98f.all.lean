/-! the held share is such a double -/
theorem dv_W {a b : Nat} (ha : 1 ≤ a) (hab : a ≤ b) (hb : b < 1000000) : ∃ E t : Nat, 23 ≤ E ∧ E ≤ 1023 ∧ t < 4503599627370496 ∧ FP.ddiv (FP.i2d (nI a)) (FP.i2d (nI b)) = dW E t := by
  obtain ⟨E, t, h1, h2, h3, h4⟩ := rr_val ha hab hb
  obtain ⟨c, q, hc, ec⟩ := i2d_val ha (by omega)
  obtain ⟨d, r, hd, ed⟩ := i2d_val (x := b) (by omega) (by omega)
  refine ⟨E, t, h1, h2, h3, (Jvm.FP.Core.val64_inj (dW_nn (by omega) (by omega) h3) ?_).symm⟩
  rw [dW_val (by omega) (by omega) h3]
  refine Eq.symm ((Jvm.FP.Core.val64_ddiv _ _).trans ?_)
  rw [hc, hd, ← h4]
  have d0 : 0 < d := by
    rcases Nat.eq_zero_or_pos d with z | z
    · exfalso
      rw [z, Nat.zero_mul] at ed
      have p := Nat.mul_pos (show 0 < b by omega) (Nat.two_pow_pos (-r).toNat)
      omega
    · exact z
  show (if d = 0 then (if c = 0 then Jvm.FP.Core.Datum.nan else .inf (false != false)) else Jvm.FP.Core.roundRatio Jvm.FP.Core.b64 (false != false) c d (q - r)) = _
  rw [if_neg (by omega)]
  refine Jvm.FP.Core.roundRatio_congr d0 (by omega) ?_
  have k : c * b * 2 ^ (q.toNat + (-r).toNat) = a * d * 2 ^ ((-q).toNat + r.toNat) := by
    rw [Nat.pow_add, Nat.pow_add]
    have e1 : c * b * (2 ^ q.toNat * 2 ^ (-r).toNat) = (c * 2 ^ q.toNat) * (b * 2 ^ (-r).toNat) := by ac_rfl
    have e2 : a * d * (2 ^ (-q).toNat * 2 ^ r.toNat) = (a * 2 ^ (-q).toNat) * (d * 2 ^ r.toNat) := by ac_rfl
    rw [e1, e2, ec, ed]
  obtain ⟨m, hm⟩ : ∃ m, m = q.toNat + (-r).toNat - (q - r - 0).toNat := ⟨_, rfl⟩
  rw [show q.toNat + (-r).toNat = (q - r - 0).toNat + m by omega, show (-q).toNat + r.toNat = (0 - (q - r)).toNat + m by omega, Nat.pow_add, Nat.pow_add, ← Nat.mul_assoc, ← Nat.mul_assoc] at k
  exact Nat.eq_of_mul_eq_mul_right (Nat.two_pow_pos m) k
theorem dv_0 {b : Nat} (hb1 : 1 ≤ b) (hb : b < 1000000) : FP.ddiv (FP.i2d (nI 0)) (FP.i2d (nI b)) = FP.dconst0 := by
  obtain ⟨d, r, hd, ed⟩ := i2d_val (x := b) hb1 (by omega)
  have d0 : d ≠ 0 := fun z => by
    rw [z, Nat.zero_mul] at ed
    have p := Nat.mul_pos (show 0 < b by omega) (Nat.two_pow_pos (-r).toNat)
    omega
  have v0 : Jvm.FP.Core.val64 FP.dconst0 = .fin false 0 (-1074) := by decide +kernel
  have e0 : Jvm.FP.Core.val64 (FP.i2d (nI 0)) = .fin false 0 (-1074) := by decide +kernel
  refine (Jvm.FP.Core.val64_inj (by rw [v0]; exact fun h => (by cases h)) ?_).symm
  rw [v0]
  refine Eq.symm ((Jvm.FP.Core.val64_ddiv _ _).trans ?_)
  rw [e0, hd]
  show (if d = 0 then (if 0 = 0 then Jvm.FP.Core.Datum.nan else .inf (false != false)) else Jvm.FP.Core.roundRatio Jvm.FP.Core.b64 (false != false) 0 d (-1074 - r)) = _
  rw [if_neg d0]
  unfold Jvm.FP.Core.roundRatio
  rw [if_pos rfl, Jvm.FP.Core.qmin_b64]
  rfl
theorem cb_all : ∀ a b : Nat, 1 ≤ b → a ≤ b → b < 1000000 → CBits (FP.ddiv (FP.i2d (nI a)) (FP.i2d (nI b))) := fun a b h1 h2 h3 => by
  rcases Nat.eq_zero_or_pos a with z | z
  · subst z
    rw [dv_0 h1 h3]
    exact CBits_0
  · obtain ⟨E, t, e1, e2, e3, e4⟩ := dv_W z h2 h3
    rw [e4]
    exact CBits_W e1 e2 e3
theorem lw_final {Ls : Nat} {xs : Nat → Int32} (hL : Ls ≤ 3072) : ∃ h', ex 211 0 (lay 9 [.ref 100000]) [] (h00 Ls xs) = some (.inl (some (.int 1)), h') ∧ cn h' ≤ 601024 ∧ us h' ≤ 7293034 := lw_spec heldOK (digestOK (bits_of cb_all)) hL
