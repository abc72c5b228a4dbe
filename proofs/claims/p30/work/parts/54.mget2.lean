/-! the reference: properties of houses, modules, days -/
theorem i_eqU {x b : Nat} (hx : x < 4294967296) (hb : b < 4294967296) : (nI x = nI b) = (x = b) := by
  refine propext ⟨fun h => ?_, fun h => by rw [h]⟩
  have e : ∀ y, (nI y).toBitVec.toNat = y % 2 ^ 32 := fun y => by
    show (BitVec.ofNat 32 y).toNat = _
    simp
  have h2 : (nI x).toBitVec.toNat = (nI b).toBitVec.toNat := by rw [h]
  rw [e, e] at h2
  omega
section Mh
variable {Z : aZ} {N : Nat → Nat → Nat} {L : Nat → Nat → Int64} {c : Nat × Nat}
end Mh
