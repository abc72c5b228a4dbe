/-! at the start all holds -/
def yfr (i : Nat) : Nat := [2, 5, 10, 20, 5].getD i 0
def y0N (k i : Nat) : Nat := if k = 0 ∧ i = 2 then 1 else if k = 1 ∧ i = 0 then 3 else if k = 2 ∧ i < 5 then yfr i else if k = 8 ∧ i < 36 then 4294967295 else 0
theorem y00_N {k i : Nat} : y00 k i = nI (y0N k i) ∧ y0N k i < 4294967296 := by
  unfold y00 y0N
  split
  · exact ⟨rfl, by omega⟩
  · split
    · exact ⟨rfl, by omega⟩
    · split
      · rename_i h
        rcases (show i = 0 ∨ i = 1 ∨ i = 2 ∨ i = 3 ∨ i = 4 by omega) with rfl | rfl | rfl | rfl | rfl
        all_goals exact ⟨by decide, by decide⟩
      · split
        · exact ⟨rfl, by omega⟩
        · exact ⟨by decide, by omega⟩
theorem WF_st {R : aY} (hR : ∀ k i, i < yW k → R k i = y0N k i) : WF R [] := by
  have z : ∀ k i, 3 ≤ k → k ≠ 8 → i < yW k → R k i = 0 := fun k i h1 h2 h3 => by
    rw [hR k i h3]
    unfold y0N
    rw [if_neg (by omega), if_neg (by omega), if_neg (by omega), if_neg (by omega)]
  have r01 : R 0 1 = 0 := hR 0 1 (by decide)
  have r02 : R 0 2 = 1 := hR 0 2 (by decide)
  have r20 : R 2 0 = 2 := hR 2 0 (by decide)
  have r21 : R 2 1 = 5 := hR 2 1 (by decide)
  have r22 : R 2 2 = 10 := hR 2 2 (by decide)
  have r23 : R 2 3 = 20 := hR 2 3 (by decide)
  have r24 : R 2 4 = 5 := hR 2 4 (by decide)
  have z3 : ∀ h, h < 6 → R 3 h = 0 := fun h hh => z 3 h (by omega) (by omega) hh
  have z4 : ∀ h, h < 6 → R 4 h = 0 := fun h hh => z 4 h (by omega) (by omega) hh
  have z5 : ∀ h, h < 6 → R 5 h = 0 := fun h hh => z 5 h (by omega) (by omega) hh
  refine ⟨⟨⟨by omega, by omega, by omega⟩, fun i hi => ?_, by omega⟩, fun h hh => ?_, fun p hp => ?_, fun p hp t ht => ?_, fun p hp => ⟨fun _ => ?_, fun w => ?_, fun w => ?_⟩, List.nodup_nil, fun x => ⟨fun w => by simp at w, fun w => ?_⟩, ?_, List.Pairwise.nil, fun t w => ?_⟩
  · rw [hR 1 i hi]
    unfold y0N
    rw [if_neg (by omega)]
    split
    · omega
    · rw [if_neg (by omega), if_neg (by omega)]
      omega
  · rw [z3 h hh, z4 h hh, z5 h hh]
    exact ⟨Nat.le_refl _, Nat.le_refl _, Nat.zero_le _, fun _ => rfl⟩
  · have a6 := z 6 p (by omega) (by omega) hp
    have a7 := z 7 p (by omega) (by omega) hp
    exact ⟨by omega, by omega, fun _ => ⟨a6, a7, z 9 p (by omega) (by omega) hp, z 10 p (by omega) (by omega) hp, z 11 p (by omega) (by omega) hp⟩⟩
  · have a1 := z 12 (p * 4 + t) (by omega) (by omega) (show p * 4 + t < 144 by omega)
    have a2 := z 13 (p * 4 + t) (by omega) (by omega) (show p * 4 + t < 144 by omega)
    exact ⟨by omega, by omega, fun _ => ⟨a1, a2⟩⟩
  · rw [hR 8 p hp]
    unfold y0N
    rw [if_neg (by omega), if_neg (by omega), if_neg (by omega), if_pos ⟨rfl, hp⟩]
  · rw [z4 (p / 6) (by omega)] at w
    omega
  · rw [z5 (p / 6) (by omega)] at w
    omega
  · have := z4 (x / 6) (by omega)
    omega
  · show 0 + sumN (R 5) 0 6 = sumN (R 4) 0 6
    rw [Nat.zero_add]
    exact sumN_congr (fun i hi => by rw [z5 _ (by omega), z4 _ (by omega)])
  · have : cg R [] t = 0 := rfl
    omega
