/-! what the calls do, as functions -/
abbrev aSt : Type := (aY × List Nat) × List (aY × List Nat) × List Nat
def bkR (R : aY) (p d : Nat) : aY := up2 (up2 R 8 p d) 4 (p / 6) (R 4 (p / 6) + 1)
def ubR (R : aY) (p : Nat) : aY := up2 (up2 R 4 (p / 6) (R 4 (p / 6) - 1)) 8 p 4294967295
def aTal (R : aY) (t k v : Nat) : aY := up2 R 14 (t * 4 + k) (R 14 (t * 4 + k) + v)
def aMov (R : aY) (p to fr v : Nat) : aY := aTal (aTal (up2 (up2 R 12 (p * 4 + fr) (R 12 (p * 4 + fr) - v)) 10 p (R 10 p + v)) to 0 v) fr 1 v
def inR (R : aY) (p t n : Nat) : aY := aTal (up2 R 13 (p * 4 + t) (R 13 (p * 4 + t) + n)) t 2 n
def fxR (R : aY) (p t b : Nat) : aY := if b = t then up2 R 13 (p * 4 + t) (R 13 (p * 4 + t) - 1) else aTal (aMov (up2 R 13 (p * 4 + t) (R 13 (p * 4 + t) - 1)) p b t (min (R 2 3) (R 12 (p * 4 + t)))) b 3 1
def aPyF (p : Nat) : Nat → Nat → Nat → aY → Nat × aY
  | 0, _, s, R => (s, R)
  | k + 1, t, s, R => if R 13 (p * 4 + t) = 0 then aPyF p k (t + 1) (s + R 12 (p * 4 + t)) (up2 R 12 (p * 4 + t) 0) else aPyF p k (t + 1) s R
def aPay (R : aY) (p : Nat) : Nat × aY := ((aPyF p 4 0 0 R).1, up2 (aPyF p 4 0 0 R).2 9 p ((aPyF p 4 0 0 R).2 9 p + (aPyF p 4 0 0 R).1))
def stLo (s : Nat) : Nat := if s = 0 then 1 else if s = 1 then 3 else if s = 3 then 1 else 0
def stHi (s : Nat) : Nat := if s = 0 then 3 else if s = 1 then 9 else if s = 3 then 100 else 30
def oBook (S : aSt) (h d : Nat) : Nat × Nat × aSt :=
  if ¬ h < S.1.1 0 1 then (1, 0, S) else if d < S.1.1 0 0 ∨ 999 < d then (2, 0, S) else if S.1.1 4 h < S.1.1 3 h ∧ aOpen S.1.1 S.1.2 (6 * h + S.1.1 4 h) d = true then
    (0, S.1.1 4 h, (bkR S.1.1 (6 * h + S.1.1 4 h) d, S.1.2 ++ [6 * h + S.1.1 4 h]), push S.2.1 S.1, S.2.2) else (3, 0, S)
def oUnb (S : aSt) (h : Nat) : Nat × Nat × aSt :=
  if ¬ h < S.1.1 0 1 then (1, 0, S) else if S.1.1 4 h ≤ S.1.1 5 h then (2, 0, S) else
    (0, S.1.1 8 (6 * h + (S.1.1 4 h - 1)), (ubR S.1.1 (6 * h + (S.1.1 4 h - 1)), S.1.2.filter (fun x => !Nat.beq x (6 * h + (S.1.1 4 h - 1)))), push S.2.1 S.1, S.2.2)
def oSet (S : aSt) (s v : Nat) : Nat × Nat × aSt :=
  if ¬ s < 5 then (1, 0, S) else if v < stLo s ∨ stHi s < v then (2, 0, S) else (0, S.1.1 2 s, (up2 S.1.1 2 s v, S.1.2), push S.2.1 S.1, S.2.2)
def oPass (S : aSt) (n : Nat) : Nat × Nat × aSt :=
  if n < 1 ∨ 60 < n then (1, 0, S) else if 1000 < S.1.1 0 0 + n then (2, 0, S) else (0, S.1.2.length - (aPn n S.1).2.length, aPn n S.1, push S.2.1 S.1, S.2.2)
def oIns (S : aSt) (h k t n : Nat) : Nat × Nat × aSt :=
  if ¬ ((h < S.1.1 0 1 ∧ k < S.1.1 3 h) ∧ t < 4) then (1, 0, S) else if n < 1 ∨ 9 < n then (2, 0, S) else if ¬ k < S.1.1 5 h ∨ 99 < S.1.1 13 ((6 * h + k) * 4 + t) + n then (3, 0, S) else
    (0, S.1.1 13 ((6 * h + k) * 4 + t) + n, (inR S.1.1 (6 * h + k) t n, S.1.2), push S.2.1 S.1, S.2.2)
def oFix (S : aSt) (h k t b : Nat) : Nat × Nat × aSt :=
  if ¬ (((h < S.1.1 0 1 ∧ k < S.1.1 3 h) ∧ t < 4) ∧ b < 4) then (1, 0, S) else if S.1.1 13 ((6 * h + k) * 4 + t) = 0 then (2, 0, S) else
    (0, (if b = t then 0 else min (S.1.1 2 3) (S.1.1 12 ((6 * h + k) * 4 + t))), (fxR S.1.1 (6 * h + k) t b, S.1.2), push S.2.1 S.1, S.2.2)
def oClm (S : aSt) (h k f a v : Nat) : Nat × Nat × aSt :=
  if ¬ (((h < S.1.1 0 1 ∧ k < S.1.1 3 h) ∧ f < 4) ∧ a < 4) then (1, 0, S) else if (v < 1 ∨ 9999 < v) ∨ f = a then (2, 0, S) else if S.1.1 12 ((6 * h + k) * 4 + a) < v then (3, 0, S) else
    (0, S.1.1 12 ((6 * h + k) * 4 + a) - v, (aMov S.1.1 (6 * h + k) f a v, S.1.2), push S.2.1 S.1, S.2.2)
def oRel (S : aSt) (h k : Nat) : Nat × Nat × aSt :=
  if ¬ (h < S.1.1 0 1 ∧ k < S.1.1 3 h) then (1, 0, S) else if ¬ k < S.1.1 5 h ∨ S.1.1 0 0 < S.1.1 8 (6 * h + k) + S.1.1 2 4 then (2, 0, S) else
    (0, (aPay S.1.1 (6 * h + k)).1, ((aPay S.1.1 (6 * h + k)).2, S.1.2), push S.2.1 S.1, S.2.2)
/-! where a yard's cells lie in the reference's array -/
