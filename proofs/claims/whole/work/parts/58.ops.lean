/-! what the calls do, as functions -/
abbrev aSt : Type := (aY × List Nat) × List (aY × List Nat) × List Nat
def bkR (R : aY) (p d : Nat) : aY := up2 (up2 R 8 p d) 4 (p / 6) (R 4 (p / 6) + 1)
def ubR (R : aY) (p : Nat) : aY := up2 (up2 R 4 (p / 6) (R 4 (p / 6) - 1)) 8 p 4294967295
def aTal (R : aY) (t k v : Nat) : aY := up2 R 14 (t * 4 + k) (R 14 (t * 4 + k) + v)
def aMov (R : aY) (p to fr v : Nat) : aY := aTal (aTal (up2 (up2 R 12 (p * 4 + fr) (R 12 (p * 4 + fr) - v)) 10 p (R 10 p + v)) to 0 v) fr 1 v
def inR (R : aY) (p t n : Nat) : aY := aTal (up2 R 13 (p * 4 + t) (R 13 (p * 4 + t) + n)) t 2 n
def fxR (R : aY) (p t b : Nat) : aY := if b = t then up2 R 13 (p * 4 + t) (R 13 (p * 4 + t) - 1) else aTal (aMov (up2 R 13 (p * 4 + t) (R 13 (p * 4 + t) - 1)) p b t (min (R 2 3) (R 12 (p * 4 + t)))) b 3 1
def aPyF (p : Nat) : Nat → Nat → Nat → aY → Nat × aY
  | 0, _, s, R => (s, R)
  | k + 1, t, s, R => if R 13 (p * 4 + t) = 0 then aPyF p k (t + 1) (s + R 12 (p * 4 + t)) (up2 R 12 (p * 4 + t) 0) else aPyF p k (t + 1) s R
def aPay (R : aY) (p : Nat) : Nat × aY := ((aPyF p 4 0 0 R).1, up2 (aPyF p 4 0 0 R).2 9 p ((aPyF p 4 0 0 R).2 9 p + (aPyF p 4 0 0 R).1))
def stLo (s : Nat) : Nat := if s = 0 then 1 else if s = 1 then 3 else if s = 3 then 1 else 0
def stHi (s : Nat) : Nat := if s = 0 then 3 else if s = 1 then 9 else if s = 3 then 100 else 30
def oBook (S : aSt) (h d : Nat) : Nat × Nat × aSt :=
  if ¬ h < S.1.1 0 1 then (1, 0, S) else if d < S.1.1 0 0 ∨ 999 < d then (2, 0, S) else if S.1.1 4 h < S.1.1 3 h ∧ aOpen S.1.1 S.1.2 (6 * h + S.1.1 4 h) d = true then
    (0, S.1.1 4 h, (bkR S.1.1 (6 * h + S.1.1 4 h) d, S.1.2 ++ [6 * h + S.1.1 4 h]), push S.2.1 S.1, S.2.2) else (3, 0, S)
def oUnb (S : aSt) (h : Nat) : Nat × Nat × aSt :=
  if ¬ h < S.1.1 0 1 then (1, 0, S) else if S.1.1 4 h ≤ S.1.1 5 h then (2, 0, S) else
    (0, S.1.1 8 (6 * h + (S.1.1 4 h - 1)), (ubR S.1.1 (6 * h + (S.1.1 4 h - 1)), S.1.2.filter (fun x => !Nat.beq x (6 * h + (S.1.1 4 h - 1)))), push S.2.1 S.1, S.2.2)
def oSet (S : aSt) (s v : Nat) : Nat × Nat × aSt :=
  if ¬ s < 5 then (1, 0, S) else if v < stLo s ∨ stHi s < v then (2, 0, S) else (0, S.1.1 2 s, (up2 S.1.1 2 s v, S.1.2), push S.2.1 S.1, S.2.2)
def oPass (S : aSt) (n : Nat) : Nat × Nat × aSt :=
  if n < 1 ∨ 60 < n then (1, 0, S) else if 1000 < S.1.1 0 0 + n then (2, 0, S) else (0, S.1.2.length - (aPn n S.1).2.length, aPn n S.1, push S.2.1 S.1, S.2.2)
def oIns (S : aSt) (h k t n : Nat) : Nat × Nat × aSt :=
  if ¬ ((h < S.1.1 0 1 ∧ k < S.1.1 3 h) ∧ t < 4) then (1, 0, S) else if n < 1 ∨ 9 < n then (2, 0, S) else if ¬ k < S.1.1 5 h ∨ 99 < S.1.1 13 ((6 * h + k) * 4 + t) + n then (3, 0, S) else
    (0, S.1.1 13 ((6 * h + k) * 4 + t) + n, (inR S.1.1 (6 * h + k) t n, S.1.2), push S.2.1 S.1, S.2.2)
def oFix (S : aSt) (h k t b : Nat) : Nat × Nat × aSt :=
  if ¬ (((h < S.1.1 0 1 ∧ k < S.1.1 3 h) ∧ t < 4) ∧ b < 4) then (1, 0, S) else if S.1.1 13 ((6 * h + k) * 4 + t) = 0 then (2, 0, S) else
    (0, (if b = t then 0 else min (S.1.1 2 3) (S.1.1 12 ((6 * h + k) * 4 + t))), (fxR S.1.1 (6 * h + k) t b, S.1.2), push S.2.1 S.1, S.2.2)
def oClm (S : aSt) (h k f a v : Nat) : Nat × Nat × aSt :=
  if ¬ (((h < S.1.1 0 1 ∧ k < S.1.1 3 h) ∧ f < 4) ∧ a < 4) then (1, 0, S) else if (v < 1 ∨ 9999 < v) ∨ f = a then (2, 0, S) else if S.1.1 12 ((6 * h + k) * 4 + a) < v then (3, 0, S) else
    (0, S.1.1 12 ((6 * h + k) * 4 + a) - v, (aMov S.1.1 (6 * h + k) f a v, S.1.2), push S.2.1 S.1, S.2.2)
def oRel (S : aSt) (h k : Nat) : Nat × Nat × aSt :=
  if ¬ (h < S.1.1 0 1 ∧ k < S.1.1 3 h) then (1, 0, S) else if ¬ k < S.1.1 5 h ∨ S.1.1 0 0 < S.1.1 8 (6 * h + k) + S.1.1 2 4 then (2, 0, S) else
    (0, (aPay S.1.1 (6 * h + k)).1, ((aPay S.1.1 (6 * h + k)).2, S.1.2), push S.2.1 S.1, S.2.2)
def oUndo (S : aSt) : Nat × Nat × aSt :=
  match S.2.1.getLast? with
  | none => (1, 0, S)
  | some s => (0, S.2.1.length - 1, s, S.2.1.dropLast, S.2.2)
/-! where a yard's cells lie in the reference's array -/
def locR (x k i : Nat) : Prop :=
  (k = 0 ∧ ((i = 1 ∧ x = 0) ∨ (i = 0 ∧ x = 1) ∨ (i = 2 ∧ x = 3))) ∨ (k = 1 ∧ i < 60 ∧ x = 4 + i) ∨ (k = 2 ∧ i < 5 ∧ x = 64 + i) ∨ (k = 14 ∧ i < 16 ∧ x = 69 + i) ∨ (k = 3 ∧ i < 6 ∧ x = 85 + i) ∨
  (k = 6 ∧ i < 36 ∧ x = 91 + 16 * i + 0) ∨ (k = 7 ∧ i < 36 ∧ x = 91 + 16 * i + 1) ∨ (k = 9 ∧ i < 36 ∧ x = 91 + 16 * i + 5) ∨ (k = 11 ∧ i < 36 ∧ x = 91 + 16 * i + 6) ∨ (k = 10 ∧ i < 36 ∧ x = 91 + 16 * i + 7) ∨
  (k = 12 ∧ i < 144 ∧ x = 91 + 16 * (i / 4) + (8 + i % 4)) ∨ (k = 13 ∧ i < 144 ∧ x = 91 + 16 * (i / 4) + (12 + i % 4))
theorem MZ_wr {N : Nat → Nat → Nat} {R : aY} {B : Nat → Nat} {o a k i v : Nat} (h : MZ (N 145) R B o) (hk : k ≠ 4 ∧ k ≠ 5 ∧ k ≠ 8) (ha : a ≠ 2 ∧ ∀ m, m < 36 → a ≠ 91 + 16 * m + 2 ∧ a ≠ 91 + 16 * m + 3 ∧ a ≠ 91 + 16 * m + 4)
    (hl : ∀ x k' i', locR x k' i' → (x = a ↔ (k' = k ∧ i' = i))) : MZ (up2 N 145 a v 145) (up2 R k i v) B o := by
  obtain ⟨⟨a1, a2, a3, a4⟩, b, c, d, e, f, g⟩ := h
  have key : ∀ x k' i', locR x k' i' → N 145 x = R k' i' → up2 N 145 a v 145 x = up2 R k i v k' i' := fun x k' i' hloc he => by
    by_cases z : x = a
    · rw [up2_e ⟨rfl, z⟩, up2_e ((hl x k' i' hloc).mp z)]
    · rw [up2_o (fun w => z w.2), up2_o (fun w => z ((hl x k' i' hloc).mpr w))]
      exact he
  have oR : ∀ j k', k' = 4 ∨ k' = 5 ∨ k' = 8 → up2 R k i v k' j = R k' j := fun j k' hk' => up2_o (by omega)
  have hs : ∀ x, stg (up2 R k i v) x = stg R x := fun x => by
    unfold stg
    rw [oR _ 5 (by omega), oR _ 4 (by omega)]
  have ho : ∀ x, zOn (up2 R k i v) x = zOn R x := fun x => by
    unfold zOn
    rw [oR _ 4 (by omega), oR _ 8 (by omega)]
  refine ⟨⟨key 0 0 1 (Or.inl ⟨rfl, Or.inl ⟨rfl, rfl⟩⟩) a1, key 1 0 0 (Or.inl ⟨rfl, Or.inr (Or.inl ⟨rfl, rfl⟩)⟩) a2, ?_, key 3 0 2 (Or.inl ⟨rfl, Or.inr (Or.inr ⟨rfl, rfl⟩)⟩) a4⟩, fun j hj => key _ _ _ (Or.inr (Or.inl ⟨rfl, hj, rfl⟩)) (b j hj), fun j hj => key _ _ _ (Or.inr (Or.inr (Or.inl ⟨rfl, hj, rfl⟩))) (c j hj), fun j hj => key _ _ _ (Or.inr (Or.inr (Or.inr (Or.inl ⟨rfl, hj, rfl⟩)))) (d j hj), fun j hj => key _ _ _ (Or.inr (Or.inr (Or.inr (Or.inr (Or.inl ⟨rfl, hj, rfl⟩))))) (e j hj), fun x hx => ?_, fun x hx t ht => ?_⟩
  · rw [up2_o (by omega)]
    exact a3
  · obtain ⟨f0, f1, f2, f3, f4, f5, f6, f7⟩ := f x hx
    have hax := ha.2 x hx
    rw [hs, ho]
    refine ⟨key _ _ _ (Or.inr (Or.inr (Or.inr (Or.inr (Or.inr (Or.inl ⟨rfl, hx, rfl⟩)))))) f0, key _ _ _ (Or.inr (Or.inr (Or.inr (Or.inr (Or.inr (Or.inr (Or.inl ⟨rfl, hx, rfl⟩))))))) f1, ?_, ?_, ?_, key _ _ _ (Or.inr (Or.inr (Or.inr (Or.inr (Or.inr (Or.inr (Or.inr (Or.inl ⟨rfl, hx, rfl⟩)))))))) f5, key _ _ _ (Or.inr (Or.inr (Or.inr (Or.inr (Or.inr (Or.inr (Or.inr (Or.inr (Or.inl ⟨rfl, hx, rfl⟩))))))))) f6, key _ _ _ (Or.inr (Or.inr (Or.inr (Or.inr (Or.inr (Or.inr (Or.inr (Or.inr (Or.inr (Or.inl ⟨rfl, hx, rfl⟩)))))))))) f7⟩
    · unfold zo
      rw [up2_o (by omega)]
      exact f2
    · unfold zo
      rw [up2_o (by omega)]
      exact f3
    · unfold zo
      rw [up2_o (by omega)]
      exact f4
  · exact ⟨key _ _ _ (Or.inr (Or.inr (Or.inr (Or.inr (Or.inr (Or.inr (Or.inr (Or.inr (Or.inr (Or.inr (Or.inl ⟨rfl, by omega, by omega⟩))))))))))) (g x hx t ht).1, key _ _ _ (Or.inr (Or.inr (Or.inr (Or.inr (Or.inr (Or.inr (Or.inr (Or.inr (Or.inr (Or.inr (Or.inr ⟨rfl, by omega, by omega⟩))))))))))) (g x hx t ht).2⟩
theorem MZ_w2 {N : Nat → Nat → Nat} {R : aY} {B : Nat → Nat} {o s v : Nat} (h : MZ (N 145) R B o) (hs : s < 5) : MZ (up2 N 145 (64 + s) v 145) (up2 R 2 s v) B o :=
  MZ_wr h (by omega) ⟨by omega, fun m hm => by omega⟩ (fun x k i hl => by rcases hl with ⟨rfl, hl⟩ | ⟨rfl, hl⟩ | ⟨rfl, hl⟩ | ⟨rfl, hl⟩ | ⟨rfl, hl⟩ | ⟨rfl, hl⟩ | ⟨rfl, hl⟩ | ⟨rfl, hl⟩ | ⟨rfl, hl⟩ | ⟨rfl, hl⟩ | ⟨rfl, hl⟩ | ⟨rfl, hl⟩ <;> omega)
theorem MZ_w14 {N : Nat → Nat → Nat} {R : aY} {B : Nat → Nat} {o s v : Nat} (h : MZ (N 145) R B o) (hs : s < 16) : MZ (up2 N 145 (69 + s) v 145) (up2 R 14 s v) B o :=
  MZ_wr h (by omega) ⟨by omega, fun m hm => by omega⟩ (fun x k i hl => by rcases hl with ⟨rfl, hl⟩ | ⟨rfl, hl⟩ | ⟨rfl, hl⟩ | ⟨rfl, hl⟩ | ⟨rfl, hl⟩ | ⟨rfl, hl⟩ | ⟨rfl, hl⟩ | ⟨rfl, hl⟩ | ⟨rfl, hl⟩ | ⟨rfl, hl⟩ | ⟨rfl, hl⟩ | ⟨rfl, hl⟩ <;> omega)
theorem MZ_w9 {N : Nat → Nat → Nat} {R : aY} {B : Nat → Nat} {o m v : Nat} (h : MZ (N 145) R B o) (hm : m < 36) : MZ (up2 N 145 (91 + 16 * m + 5) v 145) (up2 R 9 m v) B o :=
  MZ_wr h (by omega) ⟨by omega, fun m hm => by omega⟩ (fun x k i hl => by rcases hl with ⟨rfl, hl⟩ | ⟨rfl, hl⟩ | ⟨rfl, hl⟩ | ⟨rfl, hl⟩ | ⟨rfl, hl⟩ | ⟨rfl, hl⟩ | ⟨rfl, hl⟩ | ⟨rfl, hl⟩ | ⟨rfl, hl⟩ | ⟨rfl, hl⟩ | ⟨rfl, hl⟩ | ⟨rfl, hl⟩ <;> omega)
theorem MZ_w10 {N : Nat → Nat → Nat} {R : aY} {B : Nat → Nat} {o m v : Nat} (h : MZ (N 145) R B o) (hm : m < 36) : MZ (up2 N 145 (91 + 16 * m + 7) v 145) (up2 R 10 m v) B o :=
  MZ_wr h (by omega) ⟨by omega, fun m hm => by omega⟩ (fun x k i hl => by rcases hl with ⟨rfl, hl⟩ | ⟨rfl, hl⟩ | ⟨rfl, hl⟩ | ⟨rfl, hl⟩ | ⟨rfl, hl⟩ | ⟨rfl, hl⟩ | ⟨rfl, hl⟩ | ⟨rfl, hl⟩ | ⟨rfl, hl⟩ | ⟨rfl, hl⟩ | ⟨rfl, hl⟩ | ⟨rfl, hl⟩ <;> omega)
theorem MZ_w12 {N : Nat → Nat → Nat} {R : aY} {B : Nat → Nat} {o m t v : Nat} (h : MZ (N 145) R B o) (hm : m < 36) (ht : t < 4) : MZ (up2 N 145 (91 + 16 * m + (8 + t)) v 145) (up2 R 12 (m * 4 + t) v) B o :=
  MZ_wr h (by omega) ⟨by omega, fun m hm => by omega⟩ (fun x k i hl => by rcases hl with ⟨rfl, hl⟩ | ⟨rfl, hl⟩ | ⟨rfl, hl⟩ | ⟨rfl, hl⟩ | ⟨rfl, hl⟩ | ⟨rfl, hl⟩ | ⟨rfl, hl⟩ | ⟨rfl, hl⟩ | ⟨rfl, hl⟩ | ⟨rfl, hl⟩ | ⟨rfl, hl⟩ | ⟨rfl, hl⟩ <;> omega)
theorem MZ_w13 {N : Nat → Nat → Nat} {R : aY} {B : Nat → Nat} {o m t v : Nat} (h : MZ (N 145) R B o) (hm : m < 36) (ht : t < 4) : MZ (up2 N 145 (91 + 16 * m + (12 + t)) v 145) (up2 R 13 (m * 4 + t) v) B o :=
  MZ_wr h (by omega) ⟨by omega, fun m hm => by omega⟩ (fun x k i hl => by rcases hl with ⟨rfl, hl⟩ | ⟨rfl, hl⟩ | ⟨rfl, hl⟩ | ⟨rfl, hl⟩ | ⟨rfl, hl⟩ | ⟨rfl, hl⟩ | ⟨rfl, hl⟩ | ⟨rfl, hl⟩ | ⟨rfl, hl⟩ | ⟨rfl, hl⟩ | ⟨rfl, hl⟩ | ⟨rfl, hl⟩ <;> omega)
theorem MZ_w6 {N : Nat → Nat → Nat} {R : aY} {B : Nat → Nat} {o m v : Nat} (h : MZ (N 145) R B o) (hm : m < 36) : MZ (up2 N 145 (91 + 16 * m + 0) v 145) (up2 R 6 m v) B o :=
  MZ_wr h (by omega) ⟨by omega, fun m hm => by omega⟩ (fun x k i hl => by rcases hl with ⟨rfl, hl⟩ | ⟨rfl, hl⟩ | ⟨rfl, hl⟩ | ⟨rfl, hl⟩ | ⟨rfl, hl⟩ | ⟨rfl, hl⟩ | ⟨rfl, hl⟩ | ⟨rfl, hl⟩ | ⟨rfl, hl⟩ | ⟨rfl, hl⟩ | ⟨rfl, hl⟩ | ⟨rfl, hl⟩ <;> omega)
theorem MZ_w7 {N : Nat → Nat → Nat} {R : aY} {B : Nat → Nat} {o m v : Nat} (h : MZ (N 145) R B o) (hm : m < 36) : MZ (up2 N 145 (91 + 16 * m + 1) v 145) (up2 R 7 m v) B o :=
  MZ_wr h (by omega) ⟨by omega, fun m hm => by omega⟩ (fun x k i hl => by rcases hl with ⟨rfl, hl⟩ | ⟨rfl, hl⟩ | ⟨rfl, hl⟩ | ⟨rfl, hl⟩ | ⟨rfl, hl⟩ | ⟨rfl, hl⟩ | ⟨rfl, hl⟩ | ⟨rfl, hl⟩ | ⟨rfl, hl⟩ | ⟨rfl, hl⟩ | ⟨rfl, hl⟩ | ⟨rfl, hl⟩ <;> omega)
theorem MZ_w1 {N : Nat → Nat → Nat} {R : aY} {B : Nat → Nat} {o m v : Nat} (h : MZ (N 145) R B o) (hm : m < 60) : MZ (up2 N 145 (4 + m) v 145) (up2 R 1 m v) B o :=
  MZ_wr h (by omega) ⟨by omega, fun m hm => by omega⟩ (fun x k i hl => by rcases hl with ⟨rfl, hl⟩ | ⟨rfl, hl⟩ | ⟨rfl, hl⟩ | ⟨rfl, hl⟩ | ⟨rfl, hl⟩ | ⟨rfl, hl⟩ | ⟨rfl, hl⟩ | ⟨rfl, hl⟩ | ⟨rfl, hl⟩ | ⟨rfl, hl⟩ | ⟨rfl, hl⟩ | ⟨rfl, hl⟩ <;> omega)
theorem MZ_w3 {N : Nat → Nat → Nat} {R : aY} {B : Nat → Nat} {o m v : Nat} (h : MZ (N 145) R B o) (hm : m < 6) : MZ (up2 N 145 (85 + m) v 145) (up2 R 3 m v) B o :=
  MZ_wr h (by omega) ⟨by omega, fun m hm => by omega⟩ (fun x k i hl => by rcases hl with ⟨rfl, hl⟩ | ⟨rfl, hl⟩ | ⟨rfl, hl⟩ | ⟨rfl, hl⟩ | ⟨rfl, hl⟩ | ⟨rfl, hl⟩ | ⟨rfl, hl⟩ | ⟨rfl, hl⟩ | ⟨rfl, hl⟩ | ⟨rfl, hl⟩ | ⟨rfl, hl⟩ | ⟨rfl, hl⟩ <;> omega)
theorem MZ_w01 {N : Nat → Nat → Nat} {R : aY} {B : Nat → Nat} {o v : Nat} (h : MZ (N 145) R B o) : MZ (up2 N 145 0 v 145) (up2 R 0 1 v) B o :=
  MZ_wr h (by omega) ⟨by omega, fun m hm => by omega⟩ (fun x k i hl => by rcases hl with ⟨rfl, hl⟩ | ⟨rfl, hl⟩ | ⟨rfl, hl⟩ | ⟨rfl, hl⟩ | ⟨rfl, hl⟩ | ⟨rfl, hl⟩ | ⟨rfl, hl⟩ | ⟨rfl, hl⟩ | ⟨rfl, hl⟩ | ⟨rfl, hl⟩ | ⟨rfl, hl⟩ | ⟨rfl, hl⟩ <;> omega)
theorem MZ_w02 {N : Nat → Nat → Nat} {R : aY} {B : Nat → Nat} {o v : Nat} (h : MZ (N 145) R B o) : MZ (up2 N 145 3 v 145) (up2 R 0 2 v) B o :=
  MZ_wr h (by omega) ⟨by omega, fun m hm => by omega⟩ (fun x k i hl => by rcases hl with ⟨rfl, hl⟩ | ⟨rfl, hl⟩ | ⟨rfl, hl⟩ | ⟨rfl, hl⟩ | ⟨rfl, hl⟩ | ⟨rfl, hl⟩ | ⟨rfl, hl⟩ | ⟨rfl, hl⟩ | ⟨rfl, hl⟩ | ⟨rfl, hl⟩ | ⟨rfl, hl⟩ | ⟨rfl, hl⟩ <;> omega)
