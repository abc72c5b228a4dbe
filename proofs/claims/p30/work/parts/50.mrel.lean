/-! the reference's array beside a yard -/
def zOn (R : aY) (m : Nat) : Nat := if R 4 (m / 6) ≤ m % 6 then 0 else R 8 m
def stg (R : aY) (m : Nat) : Nat := if m % 6 < R 5 (m / 6) then 2 else if m % 6 < R 4 (m / 6) then 1 else 0
/-- the keys of the order of booking -/
def BK (q : List Nat) (B : Nat → Nat) (o : Nat) : Prop := q.Pairwise (fun a b => B a < B b) ∧ (∀ m, m < 36 → B m ≤ o) ∧ (∀ x ∈ q, B x < o) ∧ o ≤ 1000
theorem BK_sub {q q' : List Nat} {B : Nat → Nat} {o : Nat} (h : BK q B o) (hs : q'.Sublist q) : BK q' B o := ⟨h.1.sublist hs, h.2.1, fun x hx => h.2.2.1 x (hs.subset hx), h.2.2.2⟩
theorem BK_ne {B : Nat → Nat} : ∀ (q : List Nat), q.Pairwise (fun a b => B a < B b) → ∀ x ∈ q, ∀ y ∈ q, x ≠ y → B x ≠ B y
  | [], _, x, hx, _, _, _ => by simp at hx
  | p :: q, h, x, hx, y, hy, hne => by
    obtain ⟨h1, h2⟩ := List.pairwise_cons.mp h
    rcases List.mem_cons.mp hx with e | e
    · rcases List.mem_cons.mp hy with e2 | e2
      · exact absurd (e.trans e2.symm) hne
      · have := h1 y e2
        rw [e]
        omega
    · rcases List.mem_cons.mp hy with e2 | e2
      · have := h1 x e
        rw [e2]
        omega
      · exact BK_ne q h2 x e y e2 hne
theorem WF_zOn {R : aY} {q : List Nat} (h : WF R q) {m : Nat} (hm : m < 36) : zOn R m < 1400 := by
  unfold zOn
  split
  · omega
  · exact ((h.2.2.2.2.1 m hm).2.1 (by omega)).1
theorem stg_1 {R : aY} {q : List Nat} (hw : WF R q) {x : Nat} (hx : x < 36) : stg R x = 1 ↔ x ∈ q := by
  rw [hw.2.2.2.2.2.2.1 x]
  unfold stg
  by_cases h1 : x % 6 < R 5 (x / 6)
  · rw [if_pos h1]
    omega
  · rw [if_neg h1]
    by_cases h2 : x % 6 < R 4 (x / 6)
    · rw [if_pos h2]
      omega
    · rw [if_neg h2]
      omega
/-! a module is set in both -/
