/-! what the reference reads, of the yard -/
theorem sumN_sh {f : Nat → Nat} {a : Nat} : ∀ (n : Nat), sumN (fun i => f (a + i)) 0 n = sumN f a n
  | 0 => rfl
  | n + 1 => by rw [sumN_succ, sumN_succ, sumN_sh n, Nat.zero_add]
def aOn (R : aY) (d h : Nat) : Nat := sumN (fun k => if R 8 (h * 6 + k) = d then 1 else 0) 0 (R 5 h)
def aPr (R : aY) (h : Nat) : Nat := sumN (R 7) (h * 6) (R 5 h)
def aHn (R : aY) (h w : Nat) : Nat := if w = 0 then R 3 h else if w = 1 then R 4 h else if w = 2 then R 5 h else if w = 3 then sumN (R 7) (h * 6) 6 else if w = 4 then sumN (R 13) (h * 6 * 4) 24 else if w = 5 then sumN (R 12) (h * 6 * 4) 24 else if R 4 h < 1 then 4294967295 else R 8 (h * 6 + R 4 h - 1)
def aMn (R : aY) (p w : Nat) : Nat := if w = 0 then R 6 p else if w = 1 then R 7 p else if w = 2 then stg R p else if w = 3 then R 8 p else if w = 4 then R 9 p else if w = 5 then sumN (R 12) (p * 4) 4 else if w = 6 then R 10 p else if w = 7 then sumN (R 13) (p * 4) 4 else R 11 p
def aTr (R : aY) (t w : Nat) : Nat := if w = 0 then R 14 (t * 4 + 0) else if w = 1 then R 14 (t * 4 + 1) else if w = 2 then sumN (fun p => R 13 (p * 4 + t)) 0 36 else if w = 3 then sumN (fun p => R 12 (p * 4 + t)) 0 36 else if w = 4 then R 14 (t * 4 + 2) else R 14 (t * 4 + 3)
def aDn (R : aY) (q : List Nat) (d w : Nat) : Nat := if w = 0 then aWind R d else if w = 1 then cnt R q d else if w = 2 then wgt R q d else sumN (aOn R d) 0 6
def aCn (R : aY) (q : List Nat) (sv w : Nat) : Nat := if w = 0 then R 0 1 else if w = 1 then sumN (R 3) 0 6 else if w = 2 then q.length else if w = 3 then sumN (R 5) 0 6 else if w = 4 then R 0 0 else if w = 5 then R 0 2 else if w = 6 then sumN (aPr R) 0 6 else if w = 7 then sumN (R 9) 0 36 else if w = 8 then sumN (R 12) 0 144 else if w = 9 then sumN (R 10) 0 36 else if w = 10 then sumN (R 13) 0 144 else if w = 11 then sumN (R 11) 0 36 else sv
section Cv
variable {z : Nat → Nat} {R : aY} {B : Nat → Nat} {o : Nat} {q : List Nat}
end Cv
