/-! where the law starts -/
theorem VAt_cg {Z Z' : aZ} {v : Nat} (h : VAt Z v) (p : ∀ a, v ≤ a → a < v + 98 → Z'.1 a = Z.1 a ∧ Z'.2.1 a = Z.2.1 a ∧ Z'.2.2.1 a = Z.2.2.1 a) : VAt Z' v := by
  obtain ⟨q1, q2, q3, q4, q5⟩ := h
  refine ⟨(p v (by omega) (by omega)).1.trans q1, (p (v + 1) (by omega) (by omega)).1.trans q2, (p (v + 1) (by omega) (by omega)).2.1.trans q3, (congrFun (p v (by omega) (by omega)).2.2 0).trans q4, fun k hk => ⟨(congrFun (p (v + 1) (by omega) (by omega)).2.2 k).trans (q5 k hk).1, YAt_cg (q5 k hk).2 (fun a h1 h2 => p a (by omega) (by omega))⟩⟩
theorem SAt_cg {Z Z' : aZ} {s : Nat} (h : SAt Z s) (p : ∀ a, s ≤ a → a ≤ s + 4 → Z'.1 a = Z.1 a ∧ Z'.2.1 a = Z.2.1 a ∧ Z'.2.2.1 a = Z.2.2.1 a) : SAt Z' s := by
  obtain ⟨q1, q2, q3, q4, q5, q6, q7, q8, q9, q10, q11, q12, q13⟩ := h
  exact ⟨(p _ (by omega) (by omega)).1.trans q1, (p _ (by omega) (by omega)).1.trans q2, (p _ (by omega) (by omega)).1.trans q3, (p _ (by omega) (by omega)).1.trans q4, (p _ (by omega) (by omega)).1.trans q5, (p _ (by omega) (by omega)).2.1.trans q6, (p _ (by omega) (by omega)).2.1.trans q7, (p _ (by omega) (by omega)).2.1.trans q8, (p _ (by omega) (by omega)).2.1.trans q9, (congrFun (p s (by omega) (by omega)).2.2 0).trans q10, (congrFun (p s (by omega) (by omega)).2.2 1).trans q11, (congrFun (p s (by omega) (by omega)).2.2 2).trans q12, (congrFun (p s (by omega) (by omega)).2.2 4).trans q13⟩
theorem TAt_cg {Z Z' : aZ} {s : Nat} (h : TAt Z s) (p : ∀ a, s ≤ a → a ≤ s + 1 → Z'.1 a = Z.1 a ∧ Z'.2.1 a = Z.2.1 a ∧ Z'.2.2.1 a = Z.2.2.1 a) : TAt Z' s := by
  obtain ⟨q1, q2, q3, q4⟩ := h
  exact ⟨(p _ (by omega) (by omega)).1.trans q1, (p _ (by omega) (by omega)).1.trans q2, (p _ (by omega) (by omega)).2.1.trans q3, (congrFun (p s (by omega) (by omega)).2.2 0).trans q4⟩
theorem RAt_cg {Z Z' : aZ} {s k n : Nat} (h : RAt Z s k n) (p : ∀ a, s ≤ a → a ≤ s + 2 → Z'.1 a = Z.1 a ∧ Z'.2.1 a = Z.2.1 a ∧ Z'.2.2.1 a = Z.2.2.1 a) : RAt Z' s k n := by
  obtain ⟨q1, q2, q3, q4, q5, q6, q7⟩ := h
  exact ⟨(p _ (by omega) (by omega)).1.trans q1, (p _ (by omega) (by omega)).1.trans q2, (p _ (by omega) (by omega)).1.trans q3, (p _ (by omega) (by omega)).2.1.trans q4, (p _ (by omega) (by omega)).2.1.trans q5, (congrFun (p s (by omega) (by omega)).2.2 0).trans q6, (congrFun (p s (by omega) (by omega)).2.2 1).trans q7⟩
