/-! the reference: kept aside, brought back, saved; what would be -/
theorem aP_o {S : aY × List Nat} {a j : Nat} (h5 : a ≠ 5) (h8 : a ≠ 8) (h9 : a ≠ 9) (h11 : a ≠ 11) (h12 : a ≠ 12) (h0 : a ≠ 0 ∨ j ≠ 0) : (aP S).1 a j = S.1 a j := by
  unfold aP
  split
  · show aMvL _ _ _ a j = _
    rw [aMvL_o h8 h11]
    unfold aN
    rw [up2_o (by omega), aDo_o h12 h5 h9]
  · show aN _ _ a j = _
    unfold aN
    rw [up2_o (by omega), aDo_o h12 h5 h9]
theorem aP_5 {S : aY × List Nat} (h : Nat) : S.1 5 h ≤ (aP S).1 5 h := by
  have : (aP S).1 5 h = aDo S.2 S.1 5 h := by
    unfold aP
    split
    · show aMvL _ _ _ 5 h = _
      rw [aMvL_o (by omega) (by omega)]
      exact up2_o (by omega)
    · show aN _ _ 5 h = _
      unfold aN
      exact up2_o (by omega)
  rw [this]
  exact aDo_ge _ _ _
theorem aP_2 {S : aY × List Nat} : (aP S).2 = aQ S.2 S.1 := by
  unfold aP
  split <;> rfl
theorem WF_Pn : ∀ (k : Nat) (S : aY × List Nat), WF S.1 S.2 → S.1 0 0 + k ≤ 1300 → WF (aPn k S).1 (aPn k S).2 ∧ (aPn k S).1 0 0 = S.1 0 0 + k
  | 0, S, h, _ => ⟨h, rfl⟩
  | k + 1, S, h, ht => by
    obtain ⟨h1, h2, -⟩ := WF_P h (by omega)
    have := WF_Pn k (aP S) h1 (by omega)
    unfold aPn
    exact ⟨this.1, by rw [this.2, h2]; omega⟩
theorem aPn_5 (h : Nat) : ∀ (k : Nat) (S : aY × List Nat), S.1 5 h ≤ (aPn k S).1 5 h
  | 0, _ => Nat.le_refl _
  | k + 1, S => Nat.le_trans (aP_5 h) (aPn_5 h k (aP S))
theorem aPn_o {a j : Nat} (h5 : a ≠ 5) (h8 : a ≠ 8) (h9 : a ≠ 9) (h11 : a ≠ 11) (h12 : a ≠ 12) (h0 : a ≠ 0 ∨ j ≠ 0) : ∀ (k : Nat) (S : aY × List Nat), (aPn k S).1 a j = S.1 a j
  | 0, _ => rfl
  | k + 1, S => (aPn_o h5 h8 h9 h11 h12 h0 k (aP S)).trans (aP_o h5 h8 h9 h11 h12 h0)
theorem aPn_len : ∀ (k : Nat) (S : aY × List Nat), (aPn k S).2.length ≤ S.2.length
  | 0, _ => Nat.le_refl _
  | k + 1, S => Nat.le_trans (aPn_len k (aP S)) (by rw [aP_2]; exact (aQ_sub _ _).length_le)
def aEn : Nat → Nat → aY × List Nat → Nat
  | 0, last, S => if 0 < S.2.length then 4294967295 else last
  | k + 1, last, S => if 0 < S.2.length then aEn k (if 0 < S.2.length - (aP S).2.length then (aP S).1 0 0 - 1 else last) (aP S) else last
def aWo (s h : Nat → Nat) : Nat → Nat → Nat → Nat
  | 0, _, b => b
  | k + 1, t, b => aWo s h k (t + 1) (if (if b = 4294967295 then 0 else s b) < s t ∨ (0 < s t ∧ b ≠ 4294967295 ∧ s t = s b ∧ h t < h b) then t else b)
def aBf (R : aY) (q : List Nat) (p : Nat) : Nat → Nat → Nat
  | 0, _ => 4294967295
  | n + 1, d => if aOpen R q p d = true ∧ aLift R p d = true then d else aBf R q p n (d + 1)
def aBs (R : aY) (q : List Nat) (h : Nat) : Nat := if R 3 h ≤ R 4 h then 4294967295 else aBf R q (h * 6 + R 4 h) (min (R 0 0 + 100) 1000 - R 0 0) (R 0 0)
def aSn (R : aY) (h : Nat) : Nat := if h = 4294967295 then sumN (R 5) 0 6 else R 5 h
theorem aTr_lt {R : aY} {q : List Nat} (hw : WF R q) {t : Nat} (ht : t < 4) : aTr R t 2 ≤ 99 * 36 ∧ aTr R t 3 ≤ 9999 * 36 :=
  ⟨sumN_bd (f := fun p => R 13 (p * 4 + t)) (a := 0) (fun i hi => (hw.2.2.2.1 (0 + i) (by omega) t ht).2.1), sumN_bd (f := fun p => R 12 (p * 4 + t)) (a := 0) (fun i hi => (hw.2.2.2.1 (0 + i) (by omega) t ht).1)⟩
section Mw
variable {Z : aZ} {N : Nat → Nat → Nat} {L : Nat → Nat → Int64} {c : Nat × Nat}
theorem sumN_mono {f g : Nat → Nat} {a : Nat} : ∀ (n : Nat), (∀ i, i < n → f (a + i) ≤ g (a + i)) → sumN f a n ≤ sumN g a n
  | 0, _ => Nat.le_refl _
  | n + 1, h => by
    have h1 := sumN_mono n (fun i hi => h i (by omega))
    have h2 := h n (by omega)
    rw [sumN_succ, sumN_succ]
    omega
theorem aSn_le {R R' : aY} (h : ∀ i, R 5 i ≤ R' 5 i) (i : Nat) : aSn R i ≤ aSn R' i := by
  unfold aSn
  split
  · exact sumN_mono 6 (fun j _ => h _)
  · exact h i
end Mw
