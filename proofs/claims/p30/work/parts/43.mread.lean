/-! the reference: its objects, what it reads -/
theorem i_ltU {x b : Nat} (hx : x < 4294967296) (hb : b < 2147483648) : (nI x < nI b) = (x < b ∨ 2147483648 ≤ x) := by
  by_cases h : x < 2147483648
  · rw [i_lt h hb]
    exact propext ⟨Or.inl, fun q => q.elim id (fun q => absurd h (by omega))⟩
  · refine (eq_true ?_).trans (eq_true (Or.inr (by omega))).symm
    have t : (nI x).toInt = (x : Int) - 4294967296 := by
      show (Int32.ofNat x).toInt = _
      rw [Int32.toInt_ofNat']
      unfold Int.bmod
      simp
      omega
    rw [Int32.lt_iff_toInt_lt, t, nI_toInt hb]
    omega
theorem i_gtU {x b : Nat} (hx : x < 4294967296) (hb : b < 2147483648) : (nI b < nI x) = (b < x ∧ x < 2147483648) := by
  by_cases h : x < 2147483648
  · rw [i_lt hb h]
    exact propext ⟨fun q => ⟨q, h⟩, And.left⟩
  · refine (eq_false ?_).trans (eq_false (fun q => h q.2)).symm
    have t : (nI x).toInt = (x : Int) - 4294967296 := by
      show (Int32.ofNat x).toInt = _
      rw [Int32.toInt_ofNat']
      unfold Int.bmod
      simp
      omega
    rw [Int32.lt_iff_toInt_lt, t, nI_toInt hb]
    omega
section Ma
variable {Z : aZ} {N : Nat → Nat → Nat} {L : Nat → Nat → Int64} {c : Nat × Nat}
end Ma
