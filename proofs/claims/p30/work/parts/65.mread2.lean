/-! the reference: the buffer, houses and winds taken from it -/
def pH (tx : List Nat) : Nat × Option aP2 := pF hS tx (0, [])
def pW (tx : List Nat) : Nat × Option aP2 := pF wS tx (0, [])
def hEnd (s : aP2) : Bool := match s with | (2, (_, p) :: _) => Nat.ble 1 p | _ => false
def wEnd (s : aP2) : Bool := match s with | (1, _) => true | (2, (_, t) :: _) => Nat.ble 2 t | _ => false
def ahX (h : Nat) : List (Nat × Nat) → Nat → aY → aY
  | [], _, R => R
  | e :: l, i, R => ahX h l (i + 1) (up2 (up2 R 6 (h * 6 + i) e.1) 7 (h * 6 + i) e.2)
def skX (v : Nat) : Nat → Nat → aY → aY
  | 0, _, R => R
  | k + 1, l, R => skX v k (l + 1) (up2 R 1 l v)
def swX : List (Nat × Nat) → Nat → aY → aY
  | [], _, R => R
  | e :: l, p, R => swX l (p + e.2) (skX e.1 e.2 p R)
def tot (l : List (Nat × Nat)) : Nat := sumL id (l.map Prod.snd)
def ahR (R : aY) (l : List (Nat × Nat)) : aY := up2 (up2 (ahX (R 0 1) l 0 R) 3 (R 0 1) l.length) 0 1 (R 0 1 + 1)
def swR (R : aY) (l : List (Nat × Nat)) : aY := up2 (swX l 0 R) 0 2 (tot l)
def oApp (S : aSt) (x : Nat) : Nat × Nat × aSt := if x < 33 ∨ 126 < x then (1, 0, S) else if S.2.2.length = 60 then (2, 0, S) else (0, S.2.2.length + 1, S.1, S.2.1, S.2.2 ++ [x])
def oClr (S : aSt) : Nat × Nat × aSt := (0, S.2.2.length, S.1, S.2.1, [])
def oAdd (S : aSt) : Nat × Nat × aSt :=
  match (pH S.2.2).2 with
  | none => (1, 0, S)
  | some s => if hEnd s = true then (if S.1.1 0 1 = 6 then (2, 0, S) else (0, S.1.1 0 1, (ahR S.1.1 s.2.reverse, S.1.2), push S.2.1 S.1, [])) else (1, 0, S)
def oWnd (S : aSt) : Nat × Nat × aSt :=
  match (pW S.2.2).2 with
  | none => (1, 0, S)
  | some s => if wEnd s = true then (if 60 < tot s.2.reverse then (2, 0, S) else (0, tot s.2.reverse, (swR S.1.1 s.2.reverse, S.1.2), push S.2.1 S.1, [])) else (1, 0, S)
theorem pF_le {f : Nat → aP2 → Option aP2} : ∀ (l : List Nat) (s : aP2), (pF f l s).1 ≤ l.length ∧ ((pF f l s).1 = l.length ↔ (pF f l s).2.isSome = true)
  | [], s => ⟨Nat.le_refl _, ⟨fun _ => rfl, fun _ => rfl⟩⟩
  | x :: l, s => by
    unfold pF
    cases h : f x s with
    | none => exact ⟨Nat.zero_le _, ⟨fun w => by simp at w, fun w => by simp at w⟩⟩
    | some s' =>
      obtain ⟨a, b⟩ := pF_le (f := f) l s'
      dsimp only
      rw [List.length_cons]
      exact ⟨by omega, ⟨fun w => b.mp (by omega), fun w => by have := b.mpr w; omega⟩⟩
theorem pH_HB : ∀ (l : List Nat) (s s' : aP2), HB s → (pF hS l s).2 = some s' → HB s'
  | [], s, s', h, e => by cases e; exact h
  | x :: l, s, s', h, e => by
    unfold pF at e
    cases h1 : hS x s with
    | none => rw [h1] at e; cases e
    | some s1 =>
      rw [h1] at e
      exact pH_HB l s1 s' (HB_step h h1) e
theorem pW_WB : ∀ (l : List Nat) (s s' : aP2) (k : Nat), WB s k → (pF wS l s).2 = some s' → WB s' (k + l.length)
  | [], s, s', k, h, e => by cases e; exact h
  | x :: l, s, s', k, h, e => by
    unfold pF at e
    cases h1 : wS x s with
    | none => rw [h1] at e; cases e
    | some s1 =>
      rw [h1] at e
      have := pW_WB l s1 s' (k + 1) (WB_step h h1) e
      rw [List.length_cons, show k + (l.length + 1) = k + 1 + l.length by omega]
      exact this
theorem HB_0 : HB (0, []) := ⟨by simp, by simp, by simp, fun _ => ⟨by simp, by simp⟩, fun z => absurd rfl z⟩
theorem WB_0 : WB (0, []) 0 := ⟨by simp, by simp, fun _ => ⟨by simp, by simp⟩, fun z => absurd rfl z⟩
section Mx
variable {Z : aZ} {N : Nat → Nat → Nat} {L : Nat → Nat → Int64} {c : Nat × Nat}
end Mx
