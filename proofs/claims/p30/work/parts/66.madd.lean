/-! the reference: a house is added, winds are set -/
theorem ahX_o {h k j : Nat} (h6 : k ≠ 6) (h7 : k ≠ 7) : ∀ (l : List (Nat × Nat)) (i : Nat) (R : aY), ahX h l i R k j = R k j
  | [], _, _ => rfl
  | e :: l, i, R => by
    unfold ahX
    rw [ahX_o h6 h7 l, up2_o (by omega), up2_o (by omega)]
theorem skX_o {v k j : Nat} (h1 : k ≠ 1) : ∀ (n p : Nat) (R : aY), skX v n p R k j = R k j
  | 0, _, _ => rfl
  | n + 1, p, R => by
    unfold skX
    rw [skX_o h1 n, up2_o (by omega)]
theorem swX_o {k j : Nat} (h1 : k ≠ 1) : ∀ (l : List (Nat × Nat)) (p : Nat) (R : aY), swX l p R k j = R k j
  | [], _, _ => rfl
  | e :: l, p, R => by
    unfold swX
    rw [swX_o h1 l, skX_o h1]
theorem hEnd_all {s : aP2} (hb : HB s) (he : hEnd s = true) : s.1 = 2 ∧ 1 ≤ s.2.length ∧ s.2.length ≤ 6 ∧ ∀ e ∈ s.2, 1 ≤ e.2 ∧ e.1 ≤ 3 ∧ e.2 ≤ 9999 := by
  obtain ⟨aw, l⟩ := s
  obtain ⟨b1, b2, b3, b4, b5⟩ := hb
  dsimp only at b1 b2 b3 b4 b5
  rcases (show aw = 0 ∨ aw = 1 ∨ aw = 2 by omega) with rfl | rfl | rfl
  · cases he
  · cases he
  · obtain ⟨e, l', hl, k1, -⟩ := b5 (by omega)
    subst hl
    obtain ⟨w, p⟩ := e
    have h1 : 1 ≤ p := Nat.le_of_ble_eq_true he
    refine ⟨rfl, by simp, b2, fun e he => ?_⟩
    have := b3 e he
    refine ⟨?_, this⟩
    rcases List.mem_cons.mp he with z | z
    · rw [z]; exact h1
    · exact k1 e z
theorem wEnd_all {s : aP2} {k : Nat} (hb : WB s k) (he : wEnd s = true) : s.1 ≠ 0 ∧ 1 ≤ s.2.length ∧ 2 * s.2.length ≤ k + 1 ∧ ∀ e ∈ s.2, 1 ≤ e.2 ∧ e.1 ≤ 9 ∧ e.2 ≤ 60 := by
  obtain ⟨aw, l⟩ := s
  obtain ⟨b1, b3, b4, b5⟩ := hb
  dsimp only at b1 b3 b4 b5
  have ha : aw ≠ 0 := fun z => by subst z; cases he
  obtain ⟨lk, e, l', hl, k1, k2⟩ := b5 ha
  subst hl
  obtain ⟨w, p⟩ := e
  have h1 : 1 ≤ p := by
    rcases (show aw = 1 ∨ aw = 2 by omega) with rfl | rfl
    · have := k2 rfl
      dsimp only at this
      omega
    · have : 2 ≤ p := Nat.le_of_ble_eq_true he
      omega
  refine ⟨ha, by simp, lk, fun e he => ?_⟩
  have := b3 e he
  refine ⟨?_, this⟩
  rcases List.mem_cons.mp he with z | z
  · rw [z]; exact h1
  · exact k1 e z
section Mz
variable {Z : aZ} {N : Nat → Nat → Nat} {L : Nat → Nat → Int64} {c : Nat × Nat}
end Mz
