/-! what is held is no more than what was priced -/
def HS (R : aY) : Prop := ∀ p, p < 36 → sumN (R 12) (p * 4) 4 ≤ if p % 6 < R 5 (p / 6) then R 7 p else 0
theorem HS_le {R R' : aY} (h : HS R) (h12 : ∀ j, R' 12 j ≤ R 12 j) (h5 : ∀ i, R' 5 i = R 5 i) (h7 : ∀ p, p < 36 → p % 6 < R 5 (p / 6) → R' 7 p = R 7 p) : HS R' := fun p hp => by
  refine Nat.le_trans (sumN_mono (g := R 12) 4 (fun i _ => h12 _)) (Nat.le_trans (h p hp) ?_)
  rw [h5]
  split
  · rename_i q
    rw [h7 p hp q]
    exact Nat.le_refl _
  · exact Nat.le_refl _
theorem HS_same {R R' : aY} (h : HS R) (he : ∀ k j, k = 12 ∨ k = 5 ∨ k = 7 → R' k j = R k j) : HS R' :=
  HS_le h (fun j => by rw [he 12 j (by omega)]; exact Nat.le_refl _) (fun i => he 5 i (by omega)) (fun p _ _ => he 7 p (by omega))
theorem HS_set {R : aY} {p : Nat} (h : HS R) (hp : p < 36) (hc : R 5 (p / 6) = p % 6) (hl : aHeld R p ≤ R 7 p) : HS (aSet R p) := fun x hx => by
  have e7 : aSet R p 7 x = R 7 x := aSet_o (by omega) (by omega) (by omega)
  rw [e7, aSet_5]
  by_cases q : x = p
  · rw [q, if_pos rfl, if_pos (by omega)]
    have e : ∀ u, u < 4 → aSet R p 12 (p * 4 + u) = aHeld R p / 4 + (if u < aHeld R p % 4 then 1 else 0) := fun u hu => by rw [aSet_12 hu, if_pos rfl]
    have s : sumN (aSet R p 12) (p * 4) 4 = 0 + aSet R p 12 (p * 4 + 0) + aSet R p 12 (p * 4 + 1) + aSet R p 12 (p * 4 + 2) + aSet R p 12 (p * 4 + 3) := rfl
    rw [s, e 0 (by omega), e 1 (by omega), e 2 (by omega), e 3 (by omega)]
    have m := Nat.mod_lt (aHeld R p) (show 4 > 0 by omega)
    have d := Nat.div_add_mod (aHeld R p) 4
    rcases (show aHeld R p % 4 = 0 ∨ aHeld R p % 4 = 1 ∨ aHeld R p % 4 = 2 ∨ aHeld R p % 4 = 3 by omega) with z | z | z | z
    all_goals
      rw [z]
      simp only [Nat.lt_irrefl, if_false, if_true, Nat.reduceLT, ↓reduceIte, Nat.not_lt_zero]
      omega
  · have s : sumN (aSet R p 12) (x * 4) 4 = sumN (R 12) (x * 4) 4 := sumN_congr (fun i hi => by rw [aSet_12 hi, if_neg q])
    rw [s]
    refine Nat.le_trans (h x hx) ?_
    by_cases w : x % 6 < R 5 (x / 6)
    · rw [if_pos w, if_pos (by split <;> omega)]
      exact Nat.le_refl _
    · rw [if_neg w]
      exact Nat.zero_le _
theorem HS_do : ∀ (l : List Nat) (R : aY), HS R → (∀ x ∈ l, x < 36) → R 2 2 ≤ 30 → HS (aDo l R)
  | [], R, h, _, _ => h
  | p :: l, R, h, hl, h2 => by
    unfold aDo
    have hp := hl p List.mem_cons_self
    by_cases q : aCan R p = true
    · rw [if_pos q]
      refine HS_do l _ (HS_set h hp ((aCan_iff.mp q).2.1) ?_) (fun x hx => hl x (List.mem_cons_of_mem _ hx)) (by rw [aSet_o (by omega) (by omega) (by omega)]; exact h2)
      unfold aHeld
      have h2 : R 7 p * R 2 2 ≤ R 7 p * 100 := Nat.mul_le_mul_left _ (by omega)
      omega
    · rw [if_neg q]
      exact HS_do l R h (fun x hx => hl x (List.mem_cons_of_mem _ hx)) h2
theorem HS_P {s : aY × List Nat} (hw : WF s.1 s.2) (h : HS s.1) : HS (aP s).1 := by
  have hd := HS_do s.2 s.1 h (fun x hx => ((hw.2.2.2.2.2.2.1 x).mp hx).1) hw.1.2.2.2.2.2.2.1
  have hn : HS (aN s.1 s.2) := HS_same hd (fun k j hk => up2_o (by omega))
  unfold aP
  split
  · exact HS_same hn (fun k j hk => aMvL_o (by omega) (by omega) _ _ _)
  · exact hn
theorem HS_Pn : ∀ (k : Nat) (s : aY × List Nat), WF s.1 s.2 → s.1 0 0 + k ≤ 1300 → HS s.1 → HS (aPn k s).1
  | 0, _, _, _, h => h
  | k + 1, s, hw, ht, h => by
    have w1 := WF_P hw (by omega)
    exact HS_Pn k (aP s) w1.1 (by omega) (HS_P hw h)
theorem HS_mov {R : aY} {p to fr v : Nat} (h : HS R) : HS (aMov R p to fr v) := by
  refine HS_le h (fun j => ?_) (fun i => ?_) (fun x _ _ => ?_)
  · unfold aMov aTal
    rw [up2_o (by omega), up2_o (by omega), up2_o (by omega)]
    by_cases q : j = p * 4 + fr
    · rw [up2_e ⟨rfl, q⟩, q]
      omega
    · rw [up2_o (by omega)]
      exact Nat.le_refl _
  · unfold aMov aTal
    rw [up2_o (by omega), up2_o (by omega), up2_o (by omega), up2_o (by omega)]
  · unfold aMov aTal
    rw [up2_o (by omega), up2_o (by omega), up2_o (by omega), up2_o (by omega)]
theorem HS_tal {R : aY} {t k v : Nat} (h : HS R) : HS (aTal R t k v) := HS_same h (fun k j hk => up2_o (by omega))
theorem HS_13 {R : aY} {i v : Nat} (h : HS R) : HS (up2 R 13 i v) := HS_same h (fun k j hk => up2_o (by omega))
theorem HS_fx {R : aY} {p t b : Nat} (h : HS R) : HS (fxR R p t b) := by
  unfold fxR
  split
  · exact HS_13 h
  · exact HS_tal (HS_mov (HS_13 h))
theorem HS_pyF {p : Nat} : ∀ (k t s : Nat) (R : aY), HS R → HS (aPyF p k t s R).2
  | 0, _, _, _, h => h
  | k + 1, t, s, R, h => by
    unfold aPyF
    split
    · refine HS_pyF k (t + 1) _ _ (HS_le h (fun j => ?_) (fun i => up2_o (by omega)) (fun x _ _ => up2_o (by omega)))
      by_cases q : j = p * 4 + t
      · rw [up2_e ⟨rfl, q⟩]
        exact Nat.zero_le _
      · rw [up2_o (by omega)]
        exact Nat.le_refl _
    · exact HS_pyF k (t + 1) s R h
theorem HS_pay {R : aY} {p : Nat} (h : HS R) : HS (aPay R p).2 := HS_same (HS_pyF 4 0 0 R h) (fun k j hk => up2_o (by omega))
theorem ahX_7 {h x : Nat} (hx : x / 6 ≠ h) : ∀ (l : List (Nat × Nat)) (i : Nat) (R : aY), i + l.length ≤ 6 → ahX h l i R 7 x = R 7 x
  | [], _, _, _ => rfl
  | e :: l, i, R, hl => by
    rw [List.length_cons] at hl
    unfold ahX
    rw [ahX_7 hx l (i + 1) _ (by omega), up2_o (by omega), up2_o (by omega)]
theorem HS_add {R : aY} {q : List Nat} {l : List (Nat × Nat)} (hw : WF R q) (h : HS R) (h1 : R 0 1 < 6) (hl : l.length ≤ 6) : HS (ahR R l) := by
  have w := hw.2.1 (R 0 1) h1
  have w3 := w.2.2.2 (Nat.le_refl _)
  unfold ahR
  refine HS_le h (fun j => ?_) (fun i => ?_) (fun x hx hq => ?_)
  · rw [up2_o (by omega), up2_o (by omega), ahX_o (by omega) (by omega)]
    exact Nat.le_refl _
  · rw [up2_o (by omega), up2_o (by omega), ahX_o (by omega) (by omega)]
  · have hne : x / 6 ≠ R 0 1 := fun z => by
      rw [z] at hq
      omega
    rw [up2_o (by omega), up2_o (by omega), ahX_7 hne l 0 R (by omega)]
theorem HS_wnd {R : aY} {l : List (Nat × Nat)} (h : HS R) : HS (swR R l) := HS_same h (fun k j hk => by
  unfold swR
  rw [up2_o (by omega), swX_o (by omega)])
