/-! the queue moved -/
def foX (N : Nat → Nat → Nat) (s y p : Nat) : Nat → Nat → Nat
  | 0, e => e
  | k + 1, e => if sOpen N s y p e = true then e else foX N s y p k (e + 1)
theorem foX_ge {N : Nat → Nat → Nat} {s y p : Nat} : ∀ (k e : Nat), e ≤ foX N s y p k e
  | 0, e => Nat.le_refl _
  | k + 1, e => by
    unfold foX
    split
    · exact Nat.le_refl _
    · exact Nat.le_trans (Nat.le_succ e) (foX_ge k (e + 1))
theorem foX_no {N : Nat → Nat → Nat} {s y p : Nat} : ∀ (k e x : Nat), e ≤ x → x < foX N s y p k e → ¬ sOpen N s y p x = true
  | 0, e, x, h1, h2 => by unfold foX at h2; omega
  | k + 1, e, x, h1, h2 => by
    unfold foX at h2
    split at h2
    · omega
    · by_cases q : x = e
      · rw [q]; assumption
      · exact foX_no k (e + 1) x (by omega) h2
def foD (N : Nat → Nat → Nat) (s y p : Nat) : Nat := foX N s y p (1400 - max (N (y + 8) p) (N y 0)) (max (N (y + 8) p) (N y 0))
def mvS (N : Nat → Nat → Nat) (s y p : Nat) : Nat → Nat → Nat := sPut (if foD N s y p = N (y + 8) p then N else up2 (up2 N (y + 8) p (foD N s y p)) (y + 11) p (N (y + 11) p + 1)) s (foD N s y p) (N (y + 6) p)
def mvX (s y : Nat) : List Nat → (Nat → Nat → Nat) → Nat → Nat → Nat
  | [], N => N
  | p :: rs, N => mvX s y rs (mvS N s y p)
def mvOK (s y : Nat) : List Nat → (Nat → Nat → Nat) → Prop
  | [], _ => True
  | p :: rs, N => (foD N s y p < 1400 ∧ sOpen N s y p (foD N s y p) = true) ∧ mvOK s y rs (mvS N s y p)
section Ym
variable {Z : aZ} {N : Nat → Nat → Nat} {L : Nat → Nat → Int64} {c : Nat × Nat} {y s : Nat}
theorem mvS_o {p a j : Nat} (h : a < s ∨ s + 3 < a) (h8 : a ≠ y + 8) (h11 : a ≠ y + 11) : mvS N s y p a j = N a j := by
  unfold mvS
  rw [sPut_o h]
  split
  · rfl
  · rw [up2_o (by omega), up2_o (by omega)]
theorem mvS_n {p : Nat} (hd : s + 4 < y ∨ y + 15 < s) : mvS N s y p s 3 = N s 3 + 1 := by
  unfold mvS
  rw [sPut_n]
  split
  · rfl
  · rw [up2_o (by omega), up2_o (by omega)]
theorem sPut_1 {N : Nat → Nat → Nat} {s d w e : Nat} : sPut N s d w (s + 1) e = if e = d then N (s + 1) d + 1 else N (s + 1) e := by
  unfold sPut
  rw [up2_o (by omega), up2_o (by omega), up2_o (by omega)]
  unfold up2
  simp
theorem sPut_2 {N : Nat → Nat → Nat} {s d w e : Nat} : sPut N s d w (s + 2) e = if e = d then N (s + 2) d + w else N (s + 2) e := by
  have o : ∀ v, up2 N (s + 1) d v (s + 2) e = N (s + 2) e := fun v => up2_o (by omega)
  have o2 : up2 (up2 N (s + 1) d (N (s + 1) d + 1)) (s + 2) d (N (s + 2) d + w) (s + 2) e = if e = d then N (s + 2) d + w else up2 N (s + 1) d (N (s + 1) d + 1) (s + 2) e := by
    show (if s + 2 = s + 2 ∧ e = d then _ else _) = _
    simp
  unfold sPut
  rw [up2_o (by omega), up2_o (by omega), o2, o]
theorem mvS_i {p k : Nat} (hd : s + 4 < y ∨ y + 15 < s) (hw : N (y + 6) p ≤ 3) (hk : ∀ e, e < 1400 → N (s + 1) e ≤ k ∧ N (s + 2) e ≤ 3 * k) (hf : foD N s y p < 1400) (e : Nat) (he : e < 1400) : mvS N s y p (s + 1) e ≤ k + 1 ∧ mvS N s y p (s + 2) e ≤ 3 * (k + 1) := by
  obtain ⟨k1, k2⟩ := hk e he
  obtain ⟨k3, k4⟩ := hk _ hf
  unfold mvS
  rw [sPut_1, sPut_2]
  have o : ∀ a e, a = s + 1 ∨ a = s + 2 → (if foD N s y p = N (y + 8) p then N else up2 (up2 N (y + 8) p (foD N s y p)) (y + 11) p (N (y + 11) p + 1)) a e = N a e := fun a e h => by
    split
    · rfl
    · rw [up2_o (by omega), up2_o (by omega)]
  rw [o _ _ (Or.inl rfl), o _ _ (Or.inl rfl), o _ _ (Or.inr rfl), o _ _ (Or.inr rfl)]
  constructor
  · split <;> omega
  · split <;> omega
end Ym
