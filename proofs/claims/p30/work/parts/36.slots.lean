/-! days cleared are clear -/
/-- every day with modules is among those used -/
def SH (N : Nat → Nat → Nat) (s : Nat) : Prop := N s 3 ≤ 36 ∧ (∀ j, j < N s 3 → N (s + 3) j < 1400) ∧ ∀ e, (N (s + 1) e = 0 ∧ N (s + 2) e = 0) ∨ ∃ j, j < N s 3 ∧ N (s + 3) j = e
theorem clX_z {s e : Nat} : ∀ (k i : Nat) (N : Nat → Nat → Nat), N (s + 1) e = 0 ∧ N (s + 2) e = 0 → clX s k i N (s + 1) e = 0 ∧ clX s k i N (s + 2) e = 0
  | 0, _, _, h => h
  | k + 1, i, N, h => by
    unfold clX
    refine clX_z k (i + 1) _ ⟨?_, ?_⟩
    · rw [up2_o (by omega)]
      unfold up2
      split
      · rfl
      · exact h.1
    · unfold up2
      split
      · rfl
      · rw [if_neg (by omega)]
        exact h.2
theorem clX_0 {s e : Nat} : ∀ (k i : Nat) (N : Nat → Nat → Nat), (∃ j, i ≤ j ∧ j < i + k ∧ N (s + 3) j = e) → clX s k i N (s + 1) e = 0 ∧ clX s k i N (s + 2) e = 0
  | 0, i, N, ⟨j, h1, h2, h3⟩ => by omega
  | k + 1, i, N, ⟨j, h1, h2, h3⟩ => by
    unfold clX
    by_cases q : j = i
    · subst q
      rw [h3]
      refine clX_z k _ _ ⟨?_, up2_e ⟨rfl, rfl⟩⟩
      rw [up2_o (by omega)]
      exact up2_e ⟨rfl, rfl⟩
    · refine clX_0 k (i + 1) _ ⟨j, by omega, by omega, ?_⟩
      rw [up2_o (by omega), up2_o (by omega)]
      exact h3
theorem SH_clear {N : Nat → Nat → Nat} {s : Nat} (h : SH N s) (e : Nat) : up2 (clX s (N s 3) 0 N) s 3 0 (s + 1) e = 0 ∧ up2 (clX s (N s 3) 0 N) s 3 0 (s + 2) e = 0 := by
  rw [up2_o (by omega), up2_o (by omega)]
  rcases h.2.2 e with q | ⟨j, q1, q2⟩
  · exact clX_z _ _ _ q
  · exact clX_0 _ _ _ ⟨j, Nat.zero_le _, by omega, q2⟩
theorem SH_put {N : Nat → Nat → Nat} {s d w : Nat} (h : SH N s) (hd : d < 1400) (h3 : N s 3 < 36) : SH (sPut N s d w) s := by
  have o3 : ∀ j, sPut N s d w (s + 3) j = if j = N s 3 then d else N (s + 3) j := fun j => by
    unfold sPut
    rw [up2_o (by omega)]
    show (if s + 3 = s + 3 ∧ j = N s 3 then d else up2 (up2 N (s + 1) d (N (s + 1) d + 1)) (s + 2) d (N (s + 2) d + w) (s + 3) j) = _
    rw [up2_o (by omega), up2_o (by omega)]
    simp
  refine ⟨by rw [sPut_n]; omega, fun j hj => ?_, fun e => ?_⟩
  · rw [sPut_n] at hj
    rw [o3]
    split
    · exact hd
    · exact h.2.1 j (by omega)
  · rw [sPut_1, sPut_2, sPut_n]
    by_cases q : e = d
    · exact Or.inr ⟨N s 3, by omega, by rw [o3, if_pos rfl, q]⟩
    · rw [if_neg q, if_neg q]
      rcases h.2.2 e with z | ⟨j, q1, q2⟩
      · exact Or.inl z
      · exact Or.inr ⟨j, by omega, by rw [o3, if_neg (by omega)]; exact q2⟩
theorem SH_congr {N M : Nat → Nat → Nat} {s : Nat} (h : SH N s) (h1 : ∀ a j, s ≤ a → a ≤ s + 3 → M a j = N a j) : SH M s := by
  refine ⟨by rw [h1 _ _ (by omega) (by omega)]; exact h.1, fun j hj => ?_, fun e => ?_⟩
  · rw [h1 _ _ (by omega) (by omega)] at hj ⊢
    exact h.2.1 j hj
  · rw [h1 _ _ (by omega) (by omega), h1 _ _ (by omega) (by omega), h1 _ _ (by omega) (by omega)]
    rcases h.2.2 e with z | ⟨j, q1, q2⟩
    · exact Or.inl z
    · exact Or.inr ⟨j, q1, by rw [h1 _ _ (by omega) (by omega)]; exact q2⟩
