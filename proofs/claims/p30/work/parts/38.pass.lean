/-! the queue that is left of a day -/
def stQ (y : Nat) : List Nat → Nat → (Nat → Nat → Nat) → List Nat
  | [], _, _ => []
  | p :: rs, k, N => if N (y + 8) p = N y 0 ∧ N (y + 5) (p / 6) = p % 6 ∧ N (y + 1) (N y 0 % N y 2) ≤ 8 - 2 * N (y + 6) p then stQ y rs k (ySet N y p)
    else p :: stQ y rs (k + 1) (up2 N (y + 15) k p)
theorem stX_at {y : Nat} : ∀ (rs l : List Nat) (k lf : Nat) (N : Nat → Nat → Nat), l.length = k → AtL (N (y + 15)) l → AtL ((stX y rs k lf N).2.2 (y + 15)) (l ++ stQ y rs k N) ∧ (stX y rs k lf N).1 = (l ++ stQ y rs k N).length
  | [], l, k, lf, N, hk, h => by
    unfold stX stQ
    rw [List.append_nil]
    exact ⟨h, hk.symm⟩
  | p :: rs, l, k, lf, N, hk, h => by
    unfold stX stQ
    by_cases q : N (y + 8) p = N y 0 ∧ N (y + 5) (p / 6) = p % 6 ∧ N (y + 1) (N y 0 % N y 2) ≤ 8 - 2 * N (y + 6) p
    · rw [if_pos q, if_pos q]
      exact stX_at rs l k lf _ hk (fun i x hx => by rw [ySet_o (by omega) (by omega) (by omega)]; exact h i x hx)
    · rw [if_neg q, if_neg q]
      have := stX_at rs (l ++ [p]) (k + 1) (if lf = 0 ∧ ¬ N (y + 8) p = N y 0 then 0 else 1) (up2 N (y + 15) k p) (by simp [hk]) (AtL_app.mpr ⟨fun i x hx => by
        have hi : i < l.length := by
          rcases Nat.lt_or_ge i l.length with q | q
          · exact q
          · rw [List.getElem?_eq_none q] at hx; cases hx
        rw [up2_o (by omega)]
        exact h i x hx, by rw [hk]; exact up2_e ⟨rfl, rfl⟩⟩)
      rw [List.append_assoc, List.singleton_append] at this
      exact this
theorem QH_of {f : Nat → Nat → Nat} {y : Nat} {l : List Nat} (h3 : f y 3 = l.length) (h : AtL (f (y + 15)) l) : QH f y l := ⟨h3, fun i hi => h i _ (List.getElem?_eq_getElem hi)⟩
theorem stX_QH {y : Nat} {q : List Nat} {N : Nat → Nat → Nat} : QH (up2 (stX y q 0 0 N).2.2 y 3 (stX y q 0 0 N).1) y (stQ y q 0 N) := by
  obtain ⟨a, b⟩ := stX_at (y := y) q [] 0 0 N rfl (fun i x h => by simp at h)
  refine QH_of (by rw [up2_e ⟨rfl, rfl⟩]; exact b) (fun i x hx => ?_)
  rw [up2_o (by omega)]
  exact a i x hx
