/-! the reference: the whole of what it holds; saved states -/
def push (sv : List (aY × List Nat)) (s : aY × List Nat) : List (aY × List Nat) := (if sv.length = 6 then sv.drop 1 else sv) ++ [s]
theorem push_len {sv : List (aY × List Nat)} {s : aY × List Nat} (h : sv.length ≤ 6) : (push sv s).length = (if sv.length = 6 then 5 else sv.length) + 1 ∧ (push sv s).length ≤ 6 := by
  unfold push
  split
  · rename_i e
    rw [List.length_append, List.length_drop, e]
    exact ⟨rfl, by simp⟩
  · rw [List.length_append]
    exact ⟨rfl, by simp; omega⟩
theorem push_get {sv : List (aY × List Nat)} {s s' : aY × List Nat} (h : sv.length ≤ 6) {k : Nat} (hk : (push sv s)[k]? = some s') : (k = (if sv.length = 6 then 5 else sv.length) ∧ s' = s) ∨ (k < (if sv.length = 6 then 5 else sv.length) ∧ sv[if sv.length = 6 then k + 1 else k]? = some s') := by
  unfold push at hk
  by_cases e : sv.length = 6
  · rw [if_pos e] at hk ⊢
    rw [if_pos e]
    have hl : (sv.drop 1).length = 5 := by rw [List.length_drop, e]
    rcases Nat.lt_trichotomy k 5 with z | z | z
    · rw [List.getElem?_append_left (by omega), List.getElem?_drop, Nat.add_comm] at hk
      exact Or.inr ⟨z, hk⟩
    · rw [List.getElem?_append_right (by omega), hl, z] at hk
      exact Or.inl ⟨z, (Option.some.inj hk).symm⟩
    · rw [List.getElem?_eq_none (by simp; omega)] at hk
      cases hk
  · rw [if_neg e] at hk ⊢
    rw [if_neg e]
    rcases Nat.lt_trichotomy k sv.length with z | z | z
    · rw [List.getElem?_append_left z] at hk
      exact Or.inr ⟨z, hk⟩
    · rw [List.getElem?_append_right (by omega), z, Nat.sub_self] at hk
      exact Or.inl ⟨z, (Option.some.inj hk).symm⟩
    · rw [List.getElem?_eq_none (by simp; omega)] at hk
      cases hk
section Ms
variable {Z : aZ} {N : Nat → Nat → Nat} {L : Nat → Nat → Int64} {c : Nat × Nat}
end Ms
