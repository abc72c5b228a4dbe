/-! .. at all times -/
def HSK (S : aSt) : Prop := HS S.1.1 ∧ ∀ s ∈ S.2.1, HS s.1
theorem HSK_new {S : aSt} {R : aY} {q tx : List Nat} (h : HSK S) (hr : HS R) : HSK ((R, q), push S.2.1 S.1, tx) := by
  refine ⟨hr, fun s hs => ?_⟩
  have hs : s ∈ push S.2.1 S.1 := hs
  unfold push at hs
  rcases List.mem_append.mp hs with z | z
  · split at z
    · exact h.2 s (List.drop_subset _ _ z)
    · exact h.2 s z
  · rw [List.mem_singleton.mp z]
    exact h.1
theorem HSK_book {S : aSt} {x y : Nat} (hS : SOK S) (h : HSK S) : HSK (oBook S x y).2.2 := by
  unfold oBook
  repeat' split
  all_goals first | exact h | exact HSK_new h (HS_same h.1 (fun k j hk => by (try unfold bkR); rw [up2_o (by omega), up2_o (by omega)]))
theorem HSK_unbook {S : aSt} {x : Nat} (hS : SOK S) (h : HSK S) : HSK (oUnb S x).2.2 := by
  unfold oUnb
  repeat' split
  all_goals first | exact h | exact HSK_new h (HS_same h.1 (fun k j hk => by (try unfold ubR); rw [up2_o (by omega), up2_o (by omega)]))
theorem HSK_set {S : aSt} {x y : Nat} (hS : SOK S) (h : HSK S) : HSK (oSet S x y).2.2 := by
  unfold oSet
  repeat' split
  all_goals first | exact h | exact HSK_new h (HS_same h.1 (fun k j hk => up2_o (by omega)))
theorem HSK_pass {S : aSt} {n : Nat} (hS : SOK S) (h : HSK S) : HSK (oPass S n).2.2 := by
  unfold oPass
  by_cases q1 : n < 1 ∨ 60 < n
  · rw [if_pos q1]
    exact h
  · rw [if_neg q1]
    by_cases q2 : 1000 < S.1.1 0 0 + n
    · rw [if_pos q2]
      exact h
    · rw [if_neg q2]
      exact HSK_new h (HS_Pn n S.1 hS.1.1 (by omega) h.1)
theorem HSK_inspect {S : aSt} {a b t d : Nat} (hS : SOK S) (h : HSK S) : HSK (oIns S a b t d).2.2 := by
  unfold oIns
  repeat' split
  all_goals first | exact h | exact HSK_new h (HS_tal (HS_13 h.1))
theorem HSK_fix {S : aSt} {a b t d : Nat} (hS : SOK S) (h : HSK S) : HSK (oFix S a b t d).2.2 := by
  unfold oFix
  repeat' split
  all_goals first | exact h | exact HSK_new h (HS_fx h.1)
theorem HSK_claim {S : aSt} {a b t d v : Nat} (hS : SOK S) (h : HSK S) : HSK (oClm S a b t d v).2.2 := by
  unfold oClm
  repeat' split
  all_goals first | exact h | exact HSK_new h (HS_mov h.1)
theorem HSK_release {S : aSt} {a b : Nat} (hS : SOK S) (h : HSK S) : HSK (oRel S a b).2.2 := by
  unfold oRel
  repeat' split
  all_goals first | exact h | exact HSK_new h (HS_pay h.1)
theorem HSK_undo {S : aSt} (_hS : SOK S) (h : HSK S) : HSK (oUndo S).2.2 := by
  unfold oUndo
  cases hl : S.2.1.getLast? with
  | none => exact h
  | some s => exact ⟨h.2 s (List.mem_of_getLast? hl), fun x hx => h.2 x (List.dropLast_subset _ hx)⟩
theorem HSK_append {S : aSt} {x : Nat} (_hS : SOK S) (h : HSK S) : HSK (oApp S x).2.2 := by
  unfold oApp
  repeat' split
  all_goals exact h
theorem HSK_clear {S : aSt} (h : HSK S) : HSK (oClr S).2.2 := h
theorem HSK_addHouse {S : aSt} (hS : SOK S) (h : HSK S) : HSK (oAdd S).2.2 := by
  unfold oAdd
  cases hh : (pH S.2.2).2 with
  | none => exact h
  | some s =>
    dsimp only
    by_cases q1 : hEnd s = true
    · rw [if_pos q1]
      by_cases q2 : S.1.1 0 1 = 6
      · rw [if_pos q2]
        exact h
      · rw [if_neg q2]
        have w := hS.1.1.1.1.1
        have hb := hEnd_all (pH_HB _ _ _ HB_0 hh) q1
        exact HSK_new h (HS_add hS.1.1 h.1 (by omega) (by rw [List.length_reverse]; exact hb.2.2.1))
    · rw [if_neg q1]
      exact h
theorem HSK_setWinds {S : aSt} (_hS : SOK S) (h : HSK S) : HSK (oWnd S).2.2 := by
  unfold oWnd
  cases hh : (pW S.2.2).2 with
  | none => exact h
  | some s =>
    dsimp only
    repeat' split
    all_goals first | exact h | exact HSK_new h (HS_wnd h.1)
