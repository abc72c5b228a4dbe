/-! what the law writes beside the class -/
def MT (N : Nat → Nat → Nat) (R : aY) (B : Nat → Nat) (o : Nat) : Prop := LM N 144 145 146 151 R (stg R) B o ∧ LT N R
def LS1 (R : aY) : Prop := ∀ h, h < R 0 1 → 1 ≤ R 3 h
theorem stg_cg {R R' : aY} (h4 : ∀ i, R' 4 i = R 4 i) (h5 : ∀ i, R' 5 i = R 5 i) (x : Nat) : stg R' x = stg R x := by
  unfold stg
  rw [h4, h5]
theorem LM_R {N : Nat → Nat → Nat} {mo mi sh cc : Nat} {R R' : aY} {B : Nat → Nat} {o : Nat} (h : LM N mo mi sh cc R (stg R) B o) (e : ∀ k j, k ≠ 13 → k ≠ 14 → R' k j = R k j) : LM N mo mi sh cc R' (stg R') B o := by
  obtain ⟨⟨c0, c1, c2, c4, c5⟩, b', c', f, g, s⟩ := h
  have hs : ∀ x, stg R' x = stg R x := stg_cg (fun i => e 4 i (by omega) (by omega)) (fun i => e 5 i (by omega) (by omega))
  refine ⟨⟨by rw [e 0 _ (by omega) (by omega)]; exact c0, by rw [e 0 _ (by omega) (by omega)]; exact c1, c2, by rw [e 0 _ (by omega) (by omega)]; exact c4, fun x hx => by rw [e 3 _ (by omega) (by omega)]; exact c5 x hx⟩, fun i hi => ?_, fun i hi => by rw [e 2 _ (by omega) (by omega)]; exact c' i hi, fun m hm => ?_, fun m hm => ?_, fun m hm t ht => ?_⟩
  · rw [e 0 _ (by omega) (by omega)] at hi
    rw [e 1 _ (by omega) (by omega)]
    exact b' i hi
  · rw [e 6 _ (by omega) (by omega), e 7 _ (by omega) (by omega), e 9 _ (by omega) (by omega), e 10 _ (by omega) (by omega), e 11 _ (by omega) (by omega), hs]
    exact f m hm
  · rw [e 4 _ (by omega) (by omega), e 8 _ (by omega) (by omega)]
    exact g m hm
  · rw [e 12 _ (by omega) (by omega)]
    exact s m hm t ht
theorem MT_13 {N : Nat → Nat → Nat} {R : aY} {B : Nat → Nat} {o m t v : Nat} (h : MT N R B o) (ht : t < 4) : MT (up2 N 147 (4 * m + t) v) (up2 R 13 (pl m * 4 + t) v) B o := by
  refine ⟨LM_R (LM_cg h.1 (fun a ha => up2_ne (by omega))) (fun k j h1 _ => up2_o (by omega)), fun x hx s hs => ?_, fun i hi => ?_⟩
  · by_cases z : x = m ∧ s = t
    · rw [z.1, z.2, up2_e ⟨rfl, rfl⟩, up2_e ⟨rfl, rfl⟩]
    · rw [up2_o (by omega), up2_o (by unfold pl; omega)]
      exact h.2.1 x hx s hs
  · rw [up2_o (by omega), up2_o (by omega)]
    exact h.2.2 i hi
theorem MT_14 {N : Nat → Nat → Nat} {R : aY} {B : Nat → Nat} {o i v : Nat} (h : MT N R B o) : MT (up2 N 148 i v) (up2 R 14 i v) B o := by
  refine ⟨LM_R (LM_cg h.1 (fun a ha => up2_ne (by omega))) (fun k j _ h2 => up2_o (by omega)), fun x hx s hs => ?_, fun j hj => ?_⟩
  · rw [up2_o (by omega), up2_o (by omega)]
    exact h.2.1 x hx s hs
  · by_cases z : j = i
    · rw [z, up2_e ⟨rfl, rfl⟩, up2_e ⟨rfl, rfl⟩]
    · rw [up2_o (by omega), up2_o (by omega)]
      exact h.2.2 j hj
theorem MT_tal {N : Nat → Nat → Nat} {R : aY} {B : Nat → Nat} {o t k v : Nat} (h : MT N R B o) (hi : 4 * t + k < 16) : MT (up2 N 148 (4 * t + k) (N 148 (4 * t + k) + v)) (aTal R t k v) B o := by
  unfold aTal
  rw [h.2.2 _ hi, Nat.mul_comm t 4]
  exact MT_14 h
theorem LT_o {N N' : Nat → Nat → Nat} {R R' : aY} (h : LT N R) (h7 : N' 147 = N 147) (h8 : N' 148 = N 148) (r3 : ∀ i, R' 13 i = R 13 i) (r4 : ∀ i, R' 14 i = R 14 i) : LT N' R' := by
  refine ⟨fun x hx s hs => ?_, fun j hj => ?_⟩
  · rw [h7, r3]
    exact h.1 x hx s hs
  · rw [h8, r4]
    exact h.2 j hj
theorem MT_12 {N : Nat → Nat → Nat} {R : aY} {B : Nat → Nat} {o m t v : Nat} (h : MT N R B o) (ht : t < 4) : MT (up2 N 146 (4 * m + t) v) (up2 R 12 (pl m * 4 + t) v) B o := by
  refine ⟨?_, LT_o h.2 (up2_ne (by omega)) (up2_ne (by omega)) (fun i => up2_o (by omega)) (fun i => up2_o (by omega))⟩
  obtain ⟨⟨c0, c1, c2, c4, c5⟩, b', c', f, g, s⟩ := h.1
  have o1 : ∀ a, a ≠ 146 → up2 N 146 (4 * m + t) v a = N a := fun a ha => up2_ne ha
  have r : ∀ a j, a ≠ 12 → up2 R 12 (pl m * 4 + t) v a j = R a j := fun a j ha => up2_o (fun z => ha z.1)
  have hs : ∀ x, stg (up2 R 12 (pl m * 4 + t) v) x = stg R x := stg_cg (fun i => r 4 i (by omega)) (fun i => r 5 i (by omega))
  refine ⟨?_, ?_, ?_, fun x hx => ?_, fun x hx => ?_, fun x hx z hz => ?_⟩
  · rw [o1 151 (by omega), r 0 _ (by omega), r 0 _ (by omega), r 0 _ (by omega)]
    exact ⟨c0, c1, c2, c4, fun x hx => by rw [r 3 _ (by omega)]; exact c5 x hx⟩
  · rw [o1 150 (by omega)]
    intro i hi
    rw [r 0 _ (by omega)] at hi
    rw [r 1 _ (by omega)]
    exact b' i hi
  · rw [o1 149 (by omega)]
    intro i hi
    rw [r 2 _ (by omega)]
    exact c' i hi
  · rw [o1 144 (by omega), o1 145 (by omega), hs, r 6 _ (by omega), r 7 _ (by omega), r 9 _ (by omega), r 10 _ (by omega), r 11 _ (by omega)]
    exact f x hx
  · rw [o1 144 (by omega), r 4 _ (by omega), r 8 _ (by omega)]
    exact g x hx
  · by_cases w : x = m ∧ z = t
    · rw [w.1, w.2, up2_e ⟨rfl, rfl⟩, up2_e ⟨rfl, rfl⟩]
    · rw [up2_o (by omega), up2_o (by unfold pl; omega)]
      exact s x hx z hz
theorem MT_mi {N : Nat → Nat → Nat} {R : aY} {B : Nat → Nat} {o m k d v : Nat} (h : MT N R B o) (hk : (k = 9 ∧ d = 0) ∨ (k = 10 ∧ d = 2)) : MT (up2 N 145 (3 * m + d) v) (up2 R k (pl m) v) B o := by
  refine ⟨?_, LT_o h.2 (up2_ne (by omega)) (up2_ne (by omega)) (fun i => up2_o (by omega)) (fun i => up2_o (by omega))⟩
  obtain ⟨⟨c0, c1, c2, c4, c5⟩, b', c', f, g, s⟩ := h.1
  have o1 : ∀ a, a ≠ 145 → up2 N 145 (3 * m + d) v a = N a := fun a ha => up2_ne ha
  have r : ∀ a j, a ≠ k → up2 R k (pl m) v a j = R a j := fun a j ha => up2_o (fun z => ha z.1)
  have hs : ∀ x, stg (up2 R k (pl m) v) x = stg R x := stg_cg (fun i => r 4 i (by omega)) (fun i => r 5 i (by omega))
  refine ⟨?_, ?_, ?_, fun x hx => ?_, fun x hx => ?_, fun x hx z hz => ?_⟩
  · rw [o1 151 (by omega), r 0 _ (by omega), r 0 _ (by omega), r 0 _ (by omega)]
    exact ⟨c0, c1, c2, c4, fun x hx => by rw [r 3 _ (by omega)]; exact c5 x hx⟩
  · rw [o1 150 (by omega)]
    intro i hi
    rw [r 0 _ (by omega)] at hi
    rw [r 1 _ (by omega)]
    exact b' i hi
  · rw [o1 149 (by omega)]
    intro i hi
    rw [r 2 _ (by omega)]
    exact c' i hi
  · obtain ⟨f0, f1, f2, f3, f4, f5, f6⟩ := f x hx
    rw [o1 144 (by omega), hs, r 6 _ (by omega), r 7 _ (by omega), r 11 _ (by omega)]
    refine ⟨f0, f1, f2, f3, ?_, ?_, ?_⟩
    · rcases hk with ⟨rfl, rfl⟩ | ⟨rfl, rfl⟩
      · by_cases w : x = m
        · rw [w, up2_e ⟨rfl, by omega⟩, up2_e ⟨rfl, rfl⟩]
        · rw [up2_o (by omega), up2_o (fun z => w (pl_in z.2))]
          exact f4
      · rw [up2_o (by omega), up2_o (by omega)]
        exact f4
    · rw [up2_o (by omega)]
      exact f5
    · rcases hk with ⟨rfl, rfl⟩ | ⟨rfl, rfl⟩
      · rw [up2_o (by omega), up2_o (by omega)]
        exact f6
      · by_cases w : x = m
        · rw [w, up2_e ⟨rfl, by omega⟩, up2_e ⟨rfl, rfl⟩]
        · rw [up2_o (by omega), up2_o (fun z => w (pl_in z.2))]
          exact f6
  · rw [o1 144 (by omega), r 4 _ (by omega), r 8 _ (by omega)]
    exact g x hx
  · rw [o1 146 (by omega), r 12 _ (by omega)]
    exact s x hx z hz
theorem MT_2 {N : Nat → Nat → Nat} {R : aY} {B : Nat → Nat} {o i v : Nat} (h : MT N R B o) : MT (up2 N 149 i v) (up2 R 2 i v) B o := by
  refine ⟨?_, LT_o h.2 (up2_ne (by omega)) (up2_ne (by omega)) (fun i => up2_o (by omega)) (fun i => up2_o (by omega))⟩
  obtain ⟨⟨c0, c1, c2, c4, c5⟩, b', c', f, g, s⟩ := h.1
  have o1 : ∀ a, a ≠ 149 → up2 N 149 i v a = N a := fun a ha => up2_ne ha
  have r : ∀ a j, a ≠ 2 → up2 R 2 i v a j = R a j := fun a j ha => up2_o (fun z => ha z.1)
  have hs : ∀ x, stg (up2 R 2 i v) x = stg R x := stg_cg (fun i => r 4 i (by omega)) (fun i => r 5 i (by omega))
  refine ⟨?_, ?_, ?_, fun x hx => ?_, fun x hx => ?_, fun x hx z hz => ?_⟩
  · rw [o1 151 (by omega), r 0 _ (by omega), r 0 _ (by omega), r 0 _ (by omega)]
    exact ⟨c0, c1, c2, c4, fun x hx => by rw [r 3 _ (by omega)]; exact c5 x hx⟩
  · rw [o1 150 (by omega)]
    intro i hi
    rw [r 0 _ (by omega)] at hi
    rw [r 1 _ (by omega)]
    exact b' i hi
  · intro j hj
    by_cases w : j = i
    · rw [w, up2_e ⟨rfl, rfl⟩, up2_e ⟨rfl, rfl⟩]
    · rw [up2_o (by omega), up2_o (by omega)]
      exact c' j hj
  · rw [o1 144 (by omega), o1 145 (by omega), hs, r 6 _ (by omega), r 7 _ (by omega), r 9 _ (by omega), r 10 _ (by omega), r 11 _ (by omega)]
    exact f x hx
  · rw [o1 144 (by omega), r 4 _ (by omega), r 8 _ (by omega)]
    exact g x hx
  · rw [o1 146 (by omega), r 12 _ (by omega)]
    exact s x hx z hz
/-- an action of the law: it answers true, and the two yards still agree -/
def AR (Z : aZ) (L : Nat → Nat → Int64) (u : Nat × Nat) (S : aSt) (o : Nat) (e : Option (aR × aH)) : Prop :=
  ∃ N' S' B' o', e = some (.inl (some (.int (nI 1))), (Z, iN N', L, u)) ∧ LW N' S' B' o' ∧ LS1 S'.1.1 ∧ o' ≤ o + 1 ∧ S'.1.1 0 0 ≤ S.1.1 0 0 + 25 ∧ (0 < S.2.1.length → 0 < S'.2.1.length)
theorem AR_rf {Z : aZ} {N : Nat → Nat → Nat} {L : Nat → Nat → Int64} {u : Nat × Nat} {S : aSt} {B : Nat → Nat} {o : Nat} (H : LW N S B o) (h1 : LS1 S.1.1) : AR Z L u S o (some (.inl (some (.int (nI 1))), (Z, iN N, L, u))) :=
  ⟨N, S, B, o, rfl, H, h1, by omega, by omega, fun h => h⟩
theorem push_pos {sv : List (aY × List Nat)} {s : aY × List Nat} : 0 < (push sv s).length := by
  unfold push
  rw [List.length_append]
  show 0 < _ + 1
  omega
theorem LW_mk {N1 N2 : Nat → Nat → Nat} {S2 : aSt} {B : Nat → Nat} {o : Nat} (hm : MT N1 S2.1.1 B o) (hI : CI N2 S2) (he : ∀ a, 144 ≤ a → N2 a = N1 a) (hS : SOK S2) (h3 : LS3 S2.1.1) (hb : BK S2.1.2 B o) : LW N2 S2 B o := by
  refine ⟨LM_cg hm.1 (fun a _ => he a (by omega)), ?_, hI, hS, h3, hb⟩
  unfold LT
  rw [he 147 (by omega), he 148 (by omega)]
  exact hm.2
