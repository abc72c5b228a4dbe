/-! at the start all holds -/
def yfr (i : Nat) : Nat := [2, 5, 10, 20, 5].getD i 0
def y0N (k i : Nat) : Nat := if k = 0 ∧ i = 2 then 1 else if k = 1 ∧ i = 0 then 3 else if k = 2 ∧ i < 5 then yfr i else if k = 8 ∧ i < 36 then 4294967295 else 0
def m0N (i : Nat) : Nat := if i = 3 then 1 else if i = 4 then 3 else if i = 64 then 2 else if i = 65 then 5 else if i = 66 then 10 else if i = 67 then 20 else if i = 68 then 5 else 0
theorem y00_N {k i : Nat} : y00 k i = nI (y0N k i) ∧ y0N k i < 4294967296 := by
  unfold y00 y0N
  split
  · exact ⟨rfl, by omega⟩
  · split
    · exact ⟨rfl, by omega⟩
    · split
      · rename_i h
        rcases (show i = 0 ∨ i = 1 ∨ i = 2 ∨ i = 3 ∨ i = 4 by omega) with rfl | rfl | rfl | rfl | rfl
        all_goals exact ⟨by decide, by decide⟩
      · split
        · exact ⟨rfl, by omega⟩
        · exact ⟨by decide, by omega⟩
theorem m00_N {i : Nat} : m00 i = nI (m0N i) ∧ m0N i < 4294967296 := by
  unfold m00 m0N
  repeat' split
  all_goals exact ⟨by first | rfl | decide, by omega⟩
theorem WF_st {R : aY} (hR : ∀ k i, i < yW k → R k i = y0N k i) : WF R [] := by
  have z : ∀ k i, 3 ≤ k → k ≠ 8 → i < yW k → R k i = 0 := fun k i h1 h2 h3 => by
    rw [hR k i h3]
    unfold y0N
    rw [if_neg (by omega), if_neg (by omega), if_neg (by omega), if_neg (by omega)]
  have r01 : R 0 1 = 0 := hR 0 1 (by decide)
  have r02 : R 0 2 = 1 := hR 0 2 (by decide)
  have r20 : R 2 0 = 2 := hR 2 0 (by decide)
  have r21 : R 2 1 = 5 := hR 2 1 (by decide)
  have r22 : R 2 2 = 10 := hR 2 2 (by decide)
  have r23 : R 2 3 = 20 := hR 2 3 (by decide)
  have r24 : R 2 4 = 5 := hR 2 4 (by decide)
  have z3 : ∀ h, h < 6 → R 3 h = 0 := fun h hh => z 3 h (by omega) (by omega) hh
  have z4 : ∀ h, h < 6 → R 4 h = 0 := fun h hh => z 4 h (by omega) (by omega) hh
  have z5 : ∀ h, h < 6 → R 5 h = 0 := fun h hh => z 5 h (by omega) (by omega) hh
  refine ⟨⟨⟨by omega, by omega, by omega⟩, fun i hi => ?_, by omega⟩, fun h hh => ?_, fun p hp => ?_, fun p hp t ht => ?_, fun p hp => ⟨fun _ => ?_, fun w => ?_, fun w => ?_⟩, List.nodup_nil, fun x => ⟨fun w => by simp at w, fun w => ?_⟩, ?_, List.Pairwise.nil, fun t w => ?_⟩
  · rw [hR 1 i hi]
    unfold y0N
    rw [if_neg (by omega)]
    split
    · omega
    · rw [if_neg (by omega), if_neg (by omega)]
      omega
  · rw [z3 h hh, z4 h hh, z5 h hh]
    exact ⟨Nat.le_refl _, Nat.le_refl _, Nat.zero_le _, fun _ => rfl⟩
  · have a6 := z 6 p (by omega) (by omega) hp
    have a7 := z 7 p (by omega) (by omega) hp
    exact ⟨by omega, by omega, fun _ => ⟨a6, a7, z 9 p (by omega) (by omega) hp, z 10 p (by omega) (by omega) hp, z 11 p (by omega) (by omega) hp⟩⟩
  · have a1 := z 12 (p * 4 + t) (by omega) (by omega) (show p * 4 + t < 144 by omega)
    have a2 := z 13 (p * 4 + t) (by omega) (by omega) (show p * 4 + t < 144 by omega)
    exact ⟨by omega, by omega, fun _ => ⟨a1, a2⟩⟩
  · rw [hR 8 p hp]
    unfold y0N
    rw [if_neg (by omega), if_neg (by omega), if_neg (by omega), if_pos ⟨rfl, hp⟩]
  · rw [z4 (p / 6) (by omega)] at w
    omega
  · rw [z5 (p / 6) (by omega)] at w
    omega
  · have := z4 (x / 6) (by omega)
    omega
  · show 0 + sumN (R 5) 0 6 = sumN (R 4) 0 6
    rw [Nat.zero_add]
    exact sumN_congr (fun i hi => by rw [z5 _ (by omega), z4 _ (by omega)])
  · have : cg R [] t = 0 := rfl
    omega
theorem MS_st {z : Nat → Nat} {R : aY} (hR : ∀ k i, i < yW k → R k i = y0N k i) (hz : ∀ i, z i = m0N i) : MS z R [] 0 := by
  have zr : ∀ k i, 3 ≤ k → k ≠ 8 → i < yW k → R k i = 0 := fun k i h1 h2 h3 => by
    rw [hR k i h3]
    unfold y0N
    rw [if_neg (by omega), if_neg (by omega), if_neg (by omega), if_neg (by omega)]
  have zz : ∀ i, 69 ≤ i → z i = 0 := fun i hi => by
    rw [hz]
    unfold m0N
    rw [if_neg (by omega), if_neg (by omega), if_neg (by omega), if_neg (by omega), if_neg (by omega), if_neg (by omega), if_neg (by omega)]
  refine ⟨fun _ => 0, 0, ⟨⟨?_, ?_, hz 2, ?_⟩, fun i hi => ?_, fun i hi => ?_, fun i hi => ?_, fun h hh => ?_, fun m hm => ?_, fun m hm t ht => ?_⟩, ⟨List.Pairwise.nil, fun m _ => Nat.le_refl _, fun x hx => by simp at hx, by omega⟩, Nat.le_refl _⟩
  · rw [hz, hR 0 1 (by decide)]; rfl
  · rw [hz, hR 0 0 (by decide)]; rfl
  · rw [hz, hR 0 2 (by decide)]; rfl
  · rw [hz, hR 1 i hi]
    unfold m0N y0N
    by_cases q : i = 0
    · subst q; rfl
    · rw [if_neg (by omega), if_neg (by omega), if_neg (by omega), if_neg (by omega), if_neg (by omega), if_neg (by omega), if_neg (by omega), if_neg (by omega), if_neg (by omega), if_neg (by omega), if_neg (by omega)]
  · rw [hz, hR 2 i hi]
    rcases (show i = 0 ∨ i = 1 ∨ i = 2 ∨ i = 3 ∨ i = 4 by omega) with rfl | rfl | rfl | rfl | rfl
    all_goals rfl
  · rw [zz _ (by omega), zr 14 i (by omega) (by omega) hi]
  · rw [zz _ (by omega), zr 3 h (by omega) (by omega) hh]
  · have a4 := zr 4 (m / 6) (by omega) (by omega) (show m / 6 < 6 by omega)
    have a5 := zr 5 (m / 6) (by omega) (by omega) (show m / 6 < 6 by omega)
    have st : stg R m = 0 := by
      unfold stg
      rw [if_neg (by omega), if_neg (by omega)]
    have on : zOn R m = 0 := by
      unfold zOn
      rw [if_pos (by omega)]
    rw [st, on, zr 6 m (by omega) (by omega) hm, zr 7 m (by omega) (by omega) hm, zr 9 m (by omega) (by omega) hm, zr 10 m (by omega) (by omega) hm, zr 11 m (by omega) (by omega) hm]
    have w : ∀ k, zo z m k = 0 := fun k => zz _ (by omega)
    exact ⟨w _, w _, w _, w _, w _, w _, w _, w _⟩
  · have w : ∀ k, zo z m k = 0 := fun k => zz _ (by omega)
    rw [w, w, zr 12 (m * 4 + t) (by omega) (by omega) (show m * 4 + t < 144 by omega), zr 13 (m * 4 + t) (by omega) (by omega) (show m * 4 + t < 144 by omega)]
    exact ⟨rfl, rfl⟩
theorem HS_st {R : aY} (hR : ∀ k i, i < yW k → R k i = y0N k i) : HS R := fun p hp => by
  have z : sumN (R 12) (p * 4) 4 = sumN (fun _ => 0) (p * 4) 4 := sumN_congr (fun i hi => by
    rw [hR 12 (p * 4 + i) (show p * 4 + i < 144 by omega)]
    unfold y0N
    rw [if_neg (by omega), if_neg (by omega), if_neg (by omega), if_neg (by omega)])
  rw [z, sumN_0]
  exact Nat.zero_le _
theorem n_start {I : Nat → Nat → Int32} (h1 : ∀ k i, k < 16 → I (1 + k) i = y00 k i) (h33 : ∀ i, I 33 i = 0) (h131 : ∀ k i, k < 5 → I (131 + k) i = 0) (h136 : ∀ i, I 136 i = 0) (h144 : ∀ i, I 144 i = 0) (h145 : ∀ i, I 145 i = m00 i) (hl : I 100001 = fLow) (hh : I 100002 = fHigh) :
    ∃ N S, I = iN N ∧ (∀ a j, N a j < 4294967296) ∧ CI N S ∧ MO N S 0 ∧ SOK S ∧ HSK S := by
  obtain ⟨N, n1, n2⟩ : ∃ N : Nat → Nat → Nat, I = iN N ∧ ∀ a j, N a j < 4294967296 := ⟨fun a j => Classical.choose (i_ex (I a j)), by
    funext a j
    exact (Classical.choose_spec (i_ex (I a j))).2, fun a j => (Classical.choose_spec (i_ex (I a j))).1⟩
  have hv : ∀ a j v, v < 4294967296 → I a j = nI v → N a j = v := fun a j v hv e => by
    rw [n1] at e
    have e : nI (N a j) = nI v := e
    rw [i_eqU (n2 a j) hv] at e
    exact e
  have hz : ∀ a j, I a j = 0 → N a j = 0 := fun a j e => hv a j 0 (by omega) (by rw [e]; rfl)
  have hR : ∀ k i, i < yW k → rg N 1 k i = y0N k i := fun k i hi => by
    have hk : k < 16 := by
      rcases Nat.lt_or_ge k 15 with q | q
      · omega
      · rw [yW_hi q] at hi
        omega
    rw [rg_at rfl hi]
    exact hv _ _ _ y00_N.2 ((h1 k i hk).trans y00_N.1)
  have hw := WF_st hR
  refine ⟨N, ((rg N 1, []), [], []), n1, n2, ⟨⟨rfl, ?_, fun i hi => ?_⟩, ⟨?_, ?_, fun k s hk => by simp at hk⟩, ⟨?_, fun i x hi => by simp at hi⟩, ⟨?_, ?_, fun e => Or.inl ⟨?_, ?_⟩⟩, fun i hi => ?_⟩, ⟨⟨MS_st hR (fun i => hv _ _ _ m00_N.2 ((h145 i).trans m00_N.1)), ?_, fun k s hk => by simp at hk, ?_, fun i x hi => by simp at hi⟩, hw, ?_, Nat.zero_le _, Nat.zero_le _⟩, ⟨⟨hw, ?_⟩, Nat.zero_le _, fun s hs => by simp at hs, Nat.zero_le _, fun x hx => by simp at hx⟩, ⟨HS_st hR, fun s hs => by simp at hs⟩⟩
  · exact hz _ _ (h1 0 3 (by omega))
  · simp at hi
  · rw [hz _ _ (h33 1)]; omega
  · exact hz _ _ (h33 2)
  · exact hz _ _ (h136 1)
  · rw [hz _ _ (h131 0 3 (by omega))]; omega
  · intro j hj
    rw [hz _ _ (h131 0 3 (by omega))] at hj
    omega
  · exact hz _ _ (h131 1 e (by omega))
  · exact hz _ _ (h131 2 e (by omega))
  · rcases (show i = 0 ∨ i = 1 ∨ i = 2 ∨ i = 3 ∨ i = 4 by omega) with rfl | rfl | rfl | rfl | rfl
    all_goals exact ⟨hv _ _ _ (by decide) ((congrFun hl _).trans (by decide)), hv _ _ _ (by decide) ((congrFun hh _).trans (by decide))⟩
  · exact hz _ _ (h144 9)
  · exact hz _ _ (h144 10)
  · show rg N 1 0 0 ≤ 1000
    rw [hR 0 0 (by decide)]
    decide
  · show rg N 1 0 0 ≤ 1000
    rw [hR 0 0 (by decide)]
    decide
