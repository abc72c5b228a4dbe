/-! what is sorted, as a list -/
def AtL (f : Nat → Nat) (l : List Nat) : Prop := ∀ i x, l[i]? = some x → f i = x
theorem AtL_app {f : Nat → Nat} {l : List Nat} {x : Nat} : AtL f (l ++ [x]) ↔ AtL f l ∧ f l.length = x := by
  refine ⟨fun h => ⟨fun i z hz => h i z ?_, h _ _ (by simp)⟩, fun h i z hz => ?_⟩
  · have hi : i < l.length := by
      rcases Nat.lt_or_ge i l.length with q | q
      · exact q
      · rw [List.getElem?_eq_none q] at hz; cases hz
    rw [List.getElem?_append_left hi]
    exact hz
  · rcases Nat.lt_or_ge i l.length with q | q
    · rw [List.getElem?_append_left q] at hz
      exact h.1 i z hz
    · rw [List.getElem?_append_right q] at hz
      rcases Nat.eq_or_lt_of_le q with e | e
      · rw [← e, Nat.sub_self] at hz
        rw [← e, h.2]
        exact Option.some.inj hz
      · rw [List.getElem?_eq_none (by simp; omega)] at hz; cases hz
def insR (D : Nat → Nat) (p : Nat) : List Nat → List Nat
  | [] => [p]
  | x :: l => if D p < D x then x :: insR D p l else p :: x :: l
theorem insR_len {D : Nat → Nat} {p : Nat} : ∀ (l : List Nat), (insR D p l).length = l.length + 1
  | [] => rfl
  | x :: l => by
    unfold insR
    split
    · simp [insR_len l]
    · simp
theorem soX_hi {s p : Nat} {D : Nat → Nat} : ∀ (k : Nat) (N : Nat → Nat → Nat) (j : Nat), k < j → soX s p D k N (s + 4) j = N (s + 4) j
  | 0, N, j, h => up2_o (by omega)
  | k + 1, N, j, h => by
    unfold soX
    split
    · rw [soX_hi k _ j (by omega), up2_o (by omega)]
    · exact up2_o (by omega)
theorem soX_at {s p : Nat} {D : Nat → Nat} : ∀ (l : List Nat) (N : Nat → Nat → Nat), AtL (N (s + 4)) l.reverse → AtL (soX s p D l.length N (s + 4)) (insR D p l).reverse
  | [], N, _ => by
    show AtL (soX s p D 0 N (s + 4)) ([] ++ [p])
    exact AtL_app.mpr ⟨fun i x h => by simp at h, up2_e ⟨rfl, rfl⟩⟩
  | x :: l, N, h => by
    rw [List.reverse_cons] at h
    obtain ⟨h1, h2⟩ := AtL_app.mp h
    rw [List.length_reverse] at h2
    show AtL (soX s p D (l.length + 1) N (s + 4)) _
    unfold soX insR
    rw [h2]
    by_cases q : D p < D x
    · rw [if_pos q, if_pos q, List.reverse_cons]
      refine AtL_app.mpr ⟨soX_at l _ (fun i z hz => ?_), ?_⟩
      · have hi : i < l.reverse.length := by
          rcases Nat.lt_or_ge i l.reverse.length with q | q
          · exact q
          · rw [List.getElem?_eq_none q] at hz; cases hz
        rw [List.length_reverse] at hi
        rw [up2_o (by omega)]
        exact h1 i z hz
      · rw [List.length_reverse, insR_len, soX_hi _ _ _ (by omega)]
        exact up2_e ⟨rfl, rfl⟩
    · rw [if_neg q, if_neg q, List.reverse_cons, List.reverse_cons]
      refine AtL_app.mpr ⟨fun i z hz => ?_, ?_⟩
      · have hi : i < (l.reverse ++ [x]).length := by
          rcases Nat.lt_or_ge i (l.reverse ++ [x]).length with q | q
          · exact q
          · rw [List.getElem?_eq_none q] at hz; cases hz
        rw [List.length_append, List.length_reverse, List.length_singleton] at hi
        rw [up2_o (by omega)]
        exact h i z hz
      · rw [List.length_append, List.length_reverse, List.length_singleton]
        exact up2_e ⟨rfl, rfl⟩
/-- the list in the order of the days, its end first -/
def srtR (D : Nat → Nat) : List Nat → List Nat → List Nat
  | [], l => l
  | p :: rs, l => srtR D rs (insR D p l)
theorem sortX_at {s : Nat} {D : Nat → Nat} : ∀ (rs l : List Nat) (N : Nat → Nat → Nat), AtL (N (s + 4)) l.reverse → AtL (sortX s D rs l.length N (s + 4)) (srtR D rs l).reverse
  | [], l, N, h => h
  | p :: rs, l, N, h => by
    have := sortX_at (D := D) rs (insR D p l) (soX s p D l.length N) (soX_at l N h)
    rw [insR_len] at this
    exact this
theorem insR_mem {D : Nat → Nat} {p x : Nat} : ∀ (l : List Nat), x ∈ insR D p l ↔ x = p ∨ x ∈ l
  | [] => by simp [insR]
  | z :: l => by
    unfold insR
    split
    · rw [List.mem_cons, insR_mem l, List.mem_cons]
      exact ⟨fun h => h.elim (fun h => Or.inr (Or.inl h)) (fun h => h.elim Or.inl (fun h => Or.inr (Or.inr h))), fun h => h.elim (fun h => Or.inr (Or.inl h)) (fun h => h.elim Or.inl (fun h => Or.inr (Or.inr h)))⟩
    · rw [List.mem_cons]
theorem srtR_mem {D : Nat → Nat} {x : Nat} : ∀ (rs l : List Nat), x ∈ srtR D rs l ↔ x ∈ rs ∨ x ∈ l
  | [], l => by simp [srtR]
  | p :: rs, l => by
    unfold srtR
    rw [srtR_mem rs, insR_mem, List.mem_cons]
    exact ⟨fun h => h.elim (fun h => Or.inl (Or.inr h)) (fun h => h.elim (fun h => Or.inl (Or.inl h)) Or.inr), fun h => h.elim (fun h => h.elim (fun h => Or.inr (Or.inl h)) Or.inl) (fun h => Or.inr (Or.inr h))⟩
theorem srtR_len {D : Nat → Nat} : ∀ (rs l : List Nat), (srtR D rs l).length = rs.length + l.length
  | [], l => by simp [srtR]
  | p :: rs, l => by
    unfold srtR
    rw [srtR_len rs, insR_len, List.length_cons]
    omega
