/-! texts, as functions; the reference reads them so -/
abbrev aP2 : Type := Nat × List (Nat × Nat)
def hS (x : Nat) (s : aP2) : Option aP2 :=
  if s.1 = 0 then (if (49 ≤ x ∧ x ≤ 51) ∧ s.2.length < 6 then some (1, (x - 48, 0) :: s.2) else none)
  else if s.1 = 1 then (if x = 58 then some (2, s.2) else none)
  else match s.2 with
    | [] => none
    | (w, p) :: l => if x = 44 then (if 1 ≤ p ∧ l.length + 1 < 6 then some (0, (w, p) :: l) else none) else if (48 ≤ x ∧ x ≤ 57) ∧ 1 ≤ p * 10 + (x - 48) ∧ p * 10 + (x - 48) ≤ 9999 then some (2, (w, p * 10 + (x - 48)) :: l) else none
def wS (x : Nat) (s : aP2) : Option aP2 :=
  if s.1 = 0 then (if (48 ≤ x ∧ x ≤ 57) ∧ s.2.length < 60 then some (1, (x - 48, 1) :: s.2) else none)
  else match s.2 with
    | [] => none
    | (w, t) :: l => if x = 44 then (if s.1 = 1 ∨ 2 ≤ t then some (0, (w, t) :: l) else none)
      else if s.1 = 1 then (if x = 42 then some (2, (w, 0) :: l) else none)
      else if (48 ≤ x ∧ x ≤ 57) ∧ 1 ≤ t * 10 + (x - 48) ∧ t * 10 + (x - 48) ≤ 60 then some (2, (w, t * 10 + (x - 48)) :: l) else none
def pF (f : Nat → aP2 → Option aP2) : List Nat → aP2 → Nat × Option aP2
  | [], s => (0, some s)
  | x :: l, s => match f x s with
    | none => (0, none)
    | some s' => ((pF f l s').1 + 1, (pF f l s').2)
def HB (s : aP2) : Prop := s.1 ≤ 2 ∧ s.2.length ≤ 6 ∧ (∀ e ∈ s.2, e.1 ≤ 3 ∧ e.2 ≤ 9999) ∧ (s.1 = 0 → s.2.length ≤ 5 ∧ ∀ e ∈ s.2, 1 ≤ e.2) ∧ (s.1 ≠ 0 → ∃ e l, s.2 = e :: l ∧ (∀ e ∈ l, 1 ≤ e.2) ∧ (s.1 = 1 → e.2 = 0))
theorem HB_step {x : Nat} {s s' : aP2} (h : HB s) (hs : hS x s = some s') : HB s' := by
  obtain ⟨aw, l⟩ := s
  obtain ⟨h1, h2, h3, h4, h5⟩ := h
  unfold hS at hs
  dsimp only at hs h1 h2 h3 h4 h5
  by_cases a0 : aw = 0
  · rw [if_pos a0] at hs
    split at hs
    · rename_i c
      cases hs
      refine ⟨by simp, by simp; omega, fun e he => ?_, fun z => by simp at z, fun _ => ⟨_, _, rfl, (h4 a0).2, fun _ => rfl⟩⟩
      rcases List.mem_cons.mp he with z | z
      · rw [z]; exact ⟨by dsimp only; omega, by dsimp only; omega⟩
      · exact h3 e z
    · cases hs
  · rw [if_neg a0] at hs
    obtain ⟨e, l', hl, k1, k2⟩ := h5 a0
    by_cases a1 : aw = 1
    · rw [if_pos a1] at hs
      split at hs
      · cases hs
        exact ⟨by simp, h2, h3, fun z => by simp at z, fun _ => ⟨e, l', hl, k1, fun z => by simp at z⟩⟩
      · cases hs
    · rw [if_neg a1] at hs
      subst hl
      obtain ⟨w, p⟩ := e
      dsimp only at hs
      split at hs
      · split at hs
        · rename_i c
          cases hs
          refine ⟨by simp, h2, h3, fun _ => ⟨by simp; omega, fun e he => ?_⟩, fun z => by simp at z⟩
          rcases List.mem_cons.mp he with z | z
          · rw [z]; exact c.1
          · exact k1 e z
        · cases hs
      · split at hs
        · rename_i c
          cases hs
          refine ⟨by simp, h2, fun e he => ?_, fun z => by simp at z, fun _ => ⟨_, _, rfl, k1, fun z => by simp at z⟩⟩
          rcases List.mem_cons.mp he with z | z
          · rw [z]; exact ⟨(h3 (w, p) List.mem_cons_self).1, c.2.2⟩
          · exact h3 e (List.mem_cons_of_mem _ z)
        · cases hs
/-- the winds so far, k characters read -/
def WB (s : aP2) (k : Nat) : Prop := s.1 ≤ 2 ∧ (∀ e ∈ s.2, e.1 ≤ 9 ∧ e.2 ≤ 60) ∧ (s.1 = 0 → 2 * s.2.length ≤ k ∧ ∀ e ∈ s.2, 1 ≤ e.2) ∧ (s.1 ≠ 0 → 2 * s.2.length ≤ k + 1 ∧ ∃ e l, s.2 = e :: l ∧ (∀ e ∈ l, 1 ≤ e.2) ∧ (s.1 = 1 → e.2 = 1))
theorem WB_step {x k : Nat} {s s' : aP2} (h : WB s k) (hs : wS x s = some s') : WB s' (k + 1) := by
  obtain ⟨aw, l⟩ := s
  obtain ⟨h1, h3, h4, h5⟩ := h
  unfold wS at hs
  dsimp only at hs h1 h3 h4 h5
  by_cases a0 : aw = 0
  · rw [if_pos a0] at hs
    split at hs
    · rename_i c
      cases hs
      refine ⟨by simp, fun e he => ?_, fun z => by simp at z, fun _ => ⟨by have := (h4 a0).1; simp; omega, _, _, rfl, (h4 a0).2, fun _ => rfl⟩⟩
      rcases List.mem_cons.mp he with z | z
      · rw [z]; exact ⟨by dsimp only; omega, by dsimp only; omega⟩
      · exact h3 e z
    · cases hs
  · rw [if_neg a0] at hs
    obtain ⟨k0, e, l', hl, k1, k2⟩ := h5 a0
    subst hl
    obtain ⟨w, p⟩ := e
    dsimp only at hs k2
    split at hs
    · split at hs
      · rename_i c
        cases hs
        refine ⟨by simp, h3, fun _ => ⟨by simp at k0 ⊢; omega, fun e he => ?_⟩, fun z => by simp at z⟩
        rcases List.mem_cons.mp he with z | z
        · rw [z]
          rcases c with c | c
          · have := k2 c
            dsimp only
            omega
          · dsimp only
            omega
        · exact k1 e z
      · cases hs
    · split at hs
      · split at hs
        · cases hs
          refine ⟨by simp, fun e he => ?_, fun z => by simp at z, fun _ => ⟨by simp at k0 ⊢; omega, _, _, rfl, k1, fun z => by simp at z⟩⟩
          rcases List.mem_cons.mp he with z | z
          · rw [z]; exact ⟨(h3 (w, p) List.mem_cons_self).1, by dsimp only; omega⟩
          · exact h3 e (List.mem_cons_of_mem _ z)
        · cases hs
      · split at hs
        · rename_i c
          cases hs
          refine ⟨by simp, fun e he => ?_, fun z => by simp at z, fun _ => ⟨by simp at k0 ⊢; omega, _, _, rfl, k1, fun z => by simp at z⟩⟩
          rcases List.mem_cons.mp he with z | z
          · rw [z]; exact ⟨(h3 (w, p) List.mem_cons_self).1, c.2.2⟩
          · exact h3 e (List.mem_cons_of_mem _ z)
        · cases hs
section Mt
variable {Z : aZ} {N : Nat → Nat → Nat} {L : Nat → Nat → Int64} {c : Nat × Nat}
end Mt
