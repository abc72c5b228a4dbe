/-! the reference: a day passes as the function says -/
def aC : List Nat → aY → Nat
  | [], _ => 0
  | p :: l, R => if aCan R p = true then aC l (aSet R p) + 1 else aC l R
theorem aC_sum : ∀ (l : List Nat) (R : aY), (∀ x ∈ l, x < 36) → aC l R + sumN (R 5) 0 6 = sumN (aDo l R 5) 0 6
  | [], R, _ => Nat.zero_add _
  | p :: l, R, hx => by
    have hp := hx p List.mem_cons_self
    have hl : ∀ x ∈ l, x < 36 := fun x h => hx x (List.mem_cons_of_mem _ h)
    unfold aC aDo
    split
    · rw [← aC_sum l _ hl]
      have := sumN_up (f := R 5) (g := aSet R p 5) (a := 0) (v := 1) (n := 6) (p / 6) (by omega) (by rw [aSet_5, if_pos (by omega)]) (fun i _ hi => by rw [aSet_5, if_neg (by omega)])
      omega
    · exact aC_sum l R hl
theorem aC_le : ∀ (l : List Nat) (R : aY), aC l R ≤ l.length
  | [], _ => Nat.le_refl _
  | p :: l, R => by
    unfold aC
    split
    · have := aC_le l (aSet R p)
      rw [List.length_cons]
      omega
    · have := aC_le l R
      rw [List.length_cons]
      omega
theorem WFz_set {R : aY} {p : Nat} (h : WFz R) (hp : p < 36) (h5 : R 5 (p / 6) = p % 6) (h4 : p % 6 < R 4 (p / 6)) : WFz (aSet R p) := by
  obtain ⟨⟨w1, w2, w3⟩, wh, wp, ws, hz, ht⟩ := h
  have o : ∀ a j, a ≠ 12 → a ≠ 5 → a ≠ 9 → aSet R p a j = R a j := fun a j h1 h2 h3 => aSet_o h1 h2 h3
  have hr := wh (p / 6) (by omega)
  refine ⟨⟨?_, fun i hi => ?_, ?_⟩, fun i hi => ?_, fun i hi => ?_, fun i hi t ht => ?_, fun m hm => ?_, ?_⟩
  · rw [o 0 _ (by omega) (by omega) (by omega), o 0 _ (by omega) (by omega) (by omega)]; exact w1
  · rw [o 1 _ (by omega) (by omega) (by omega)]; exact w2 i hi
  · rw [o 2 _ (by omega) (by omega) (by omega), o 2 _ (by omega) (by omega) (by omega), o 2 _ (by omega) (by omega) (by omega), o 2 _ (by omega) (by omega) (by omega), o 2 _ (by omega) (by omega) (by omega)]; exact w3
  · rw [o 3 _ (by omega) (by omega) (by omega), o 4 _ (by omega) (by omega) (by omega), aSet_5, o 0 _ (by omega) (by omega) (by omega)]
    have hi2 := wh i hi
    refine ⟨?_, hi2.2⟩
    split
    · rename_i e
      rw [e]
      omega
    · exact hi2.1
  · rw [o 6 _ (by omega) (by omega) (by omega), o 7 _ (by omega) (by omega) (by omega)]; exact wp i hi
  · rw [aSet_12 ht, o 13 _ (by omega) (by omega) (by omega), o 3 _ (by omega) (by omega) (by omega)]
    have hi2 := ws i hi t ht
    by_cases e : i = p
    · rw [if_pos e]
      have := aHeld_le (wp p hp).2 w3.2.2.2.2.1
      refine ⟨by split <;> omega, hi2.2.1, fun h3 => ?_⟩
      rw [e] at h3
      omega
    · rw [if_neg e]
      exact hi2
  · have := hz m hm
    unfold zOn at this ⊢
    rw [o 4 _ (by omega) (by omega) (by omega), o 8 _ (by omega) (by omega) (by omega)]
    exact this
  · rw [o 0 _ (by omega) (by omega) (by omega)]; exact ht
section Mp
variable {Z : aZ} {N : Nat → Nat → Nat} {L : Nat → Nat → Int64} {c : Nat × Nat}
end Mp
