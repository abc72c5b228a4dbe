/-! what is asked, as functions; the reference answers so -/
def oHou (S : aSt) (h w : Nat) : Nat × Nat × aSt := if ¬ h < S.1.1 0 1 then (1, 0, S) else if 6 < w then (2, 0, S) else (0, aHn S.1.1 h w, S)
def oMod (S : aSt) (h k w : Nat) : Nat × Nat × aSt := if ¬ (h < S.1.1 0 1 ∧ k < S.1.1 3 h) then (1, 0, S) else if 8 < w then (2, 0, S) else (0, aMn S.1.1 (6 * h + k) w, S)
def oShr (S : aSt) (h k t w : Nat) : Nat × Nat × aSt := if ¬ ((h < S.1.1 0 1 ∧ k < S.1.1 3 h) ∧ t < 4) then (1, 0, S) else if 1 < w then (2, 0, S) else (0, S.1.1 (if w = 0 then 12 else 13) ((6 * h + k) * 4 + t), S)
def oTrd (S : aSt) (t w : Nat) : Nat × Nat × aSt := if ¬ t < 4 then (1, 0, S) else if 5 < w then (2, 0, S) else (0, aTr S.1.1 t w, S)
def oDay (S : aSt) (d w : Nat) : Nat × Nat × aSt := if 9999 < d ∨ 3 < w then (1, 0, S) else (0, aDn S.1.1 S.1.2 d w, S)
def oCnt (S : aSt) (w : Nat) : Nat × Nat × aSt := if 12 < w then (1, 0, S) else (0, aCn S.1.1 S.1.2 S.2.1.length w, S)
def oStg (S : aSt) (s : Nat) : Nat × Nat × aSt := if ¬ s < 5 then (1, 0, S) else (0, S.1.1 2 s, S)
def oEnd (S : aSt) : Nat × Nat × aSt := (0, aEn 300 4294967295 S.1, S)
def oBst (S : aSt) (h : Nat) : Nat × Nat × aSt := if ¬ h < S.1.1 0 1 then (1, 0, S) else (0, aBs S.1.1 S.1.2 h, S)
def oIfp (S : aSt) (n h : Nat) : Nat × Nat × aSt := if h ≠ 4294967295 ∧ ¬ h < S.1.1 0 1 then (1, 0, S) else if n < 1 ∨ 60 < n then (2, 0, S) else (0, aSn (aPn n S.1).1 h - aSn S.1.1 h, S)
def oWrs (S : aSt) : Nat × Nat × aSt := (0, aWo (fun t => aTr S.1.1 t 2) (fun t => aTr S.1.1 t 3) 4 0 4294967295, S)
section My
variable {Z : aZ} {N : Nat → Nat → Nat} {L : Nat → Nat → Int64} {c : Nat × Nat}
end My
