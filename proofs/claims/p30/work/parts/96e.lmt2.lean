/-! what the law writes: houses and winds -/
theorem LM_c {N N' : Nat → Nat → Nat} {R R' : aY} {B : Nat → Nat} {o : Nat} (h : LM N 144 145 146 151 R (stg R) B o) (e : ∀ a, a ≠ 151 → N' a = N a) (r : ∀ k j, k ≠ 0 → k ≠ 3 → R' k j = R k j) (h2 : R' 0 2 ≤ R 0 2) (hc : N' 151 0 = R' 0 1 ∧ N' 151 1 = R' 0 0 ∧ N' 151 2 = o ∧ N' 151 3 = R' 0 2 ∧ ∀ h, h < 3 → N' 151 (4 + h) = R' 3 h) : LM N' 144 145 146 151 R' (stg R') B o := by
  obtain ⟨-, b', c', f, g, s⟩ := h
  have hs : ∀ x, stg R' x = stg R x := stg_cg (fun i => r 4 i (by omega) (by omega)) (fun i => r 5 i (by omega) (by omega))
  refine ⟨hc, ?_, ?_, fun x hx => ?_, fun x hx => ?_, fun x hx z hz => ?_⟩
  · rw [e 150 (by omega)]
    intro i hi
    rw [r 1 _ (by omega) (by omega)]
    exact b' i (by omega)
  · rw [e 149 (by omega)]
    intro i hi
    rw [r 2 _ (by omega) (by omega)]
    exact c' i hi
  · rw [e 144 (by omega), e 145 (by omega), hs, r 6 _ (by omega) (by omega), r 7 _ (by omega) (by omega), r 9 _ (by omega) (by omega), r 10 _ (by omega) (by omega), r 11 _ (by omega) (by omega)]
    exact f x hx
  · rw [e 144 (by omega), r 4 _ (by omega) (by omega), r 8 _ (by omega) (by omega)]
    exact g x hx
  · rw [e 146 (by omega), r 12 _ (by omega) (by omega)]
    exact s x hx z hz
theorem MT_c0 {N : Nat → Nat → Nat} {R : aY} {B : Nat → Nat} {o v : Nat} (h : MT N R B o) : MT (up2 N 151 0 v) (up2 R 0 1 v) B o := by
  obtain ⟨c0, c1, c2, c4, c5⟩ := h.1.1
  refine ⟨LM_c h.1 (fun a ha => up2_ne ha) (fun k j h0 _ => up2_o (by omega)) (by rw [up2_o (by omega)]; exact Nat.le_refl _) ⟨?_, ?_, ?_, ?_, fun x hx => ?_⟩, LT_o h.2 (up2_ne (by omega)) (up2_ne (by omega)) (fun i => up2_o (by omega)) (fun i => up2_o (by omega))⟩
  · rw [up2_e ⟨rfl, rfl⟩, up2_e ⟨rfl, rfl⟩]
  · rw [up2_o (by omega), up2_o (by omega)]; exact c1
  · rw [up2_o (by omega)]; exact c2
  · rw [up2_o (by omega), up2_o (by omega)]; exact c4
  · rw [up2_o (by omega), up2_o (by omega)]; exact c5 x hx
theorem MT_ch {N : Nat → Nat → Nat} {R : aY} {B : Nat → Nat} {o h v : Nat} (H : MT N R B o) : MT (up2 N 151 (4 + h) v) (up2 R 3 h v) B o := by
  obtain ⟨c0, c1, c2, c4, c5⟩ := H.1.1
  refine ⟨LM_c H.1 (fun a ha => up2_ne ha) (fun k j _ h0 => up2_o (by omega)) (by rw [up2_o (by omega)]; exact Nat.le_refl _) ⟨?_, ?_, ?_, ?_, fun x hx => ?_⟩, LT_o H.2 (up2_ne (by omega)) (up2_ne (by omega)) (fun i => up2_o (by omega)) (fun i => up2_o (by omega))⟩
  · rw [up2_o (by omega), up2_o (by omega)]; exact c0
  · rw [up2_o (by omega), up2_o (by omega)]; exact c1
  · rw [up2_o (by omega)]; exact c2
  · rw [up2_o (by omega), up2_o (by omega)]; exact c4
  · by_cases z : x = h
    · rw [z, up2_e ⟨rfl, rfl⟩, up2_e ⟨rfl, rfl⟩]
    · rw [up2_o (by omega), up2_o (by omega)]; exact c5 x hx
theorem MT_w0 {N : Nat → Nat → Nat} {R : aY} {B : Nat → Nat} {o : Nat} (h : MT N R B o) : MT (up2 N 151 3 0) (up2 R 0 2 0) B o := by
  obtain ⟨c0, c1, c2, c4, c5⟩ := h.1.1
  refine ⟨LM_c h.1 (fun a ha => up2_ne ha) (fun k j h0 _ => up2_o (by omega)) (by rw [up2_e ⟨rfl, rfl⟩]; exact Nat.zero_le _) ⟨?_, ?_, ?_, ?_, fun x hx => ?_⟩, LT_o h.2 (up2_ne (by omega)) (up2_ne (by omega)) (fun i => up2_o (by omega)) (fun i => up2_o (by omega))⟩
  · rw [up2_o (by omega), up2_o (by omega)]; exact c0
  · rw [up2_o (by omega), up2_o (by omega)]; exact c1
  · rw [up2_o (by omega)]; exact c2
  · rw [up2_e ⟨rfl, rfl⟩, up2_e ⟨rfl, rfl⟩]
  · rw [up2_o (by omega), up2_o (by omega)]; exact c5 x hx
theorem MT_wi {N : Nat → Nat → Nat} {X : aY} {B : Nat → Nat} {o k v : Nat} (h : MT N (up2 X 0 2 k) B o) : MT (up2 (up2 N 150 k v) 151 3 (k + 1)) (up2 (up2 X 1 k v) 0 2 (k + 1)) B o := by
  obtain ⟨⟨c0, c1, c2, c4, c5⟩, b', c', f, g, s⟩ := h.1
  have o1 : ∀ a, a ≠ 150 → a ≠ 151 → up2 (up2 N 150 k v) 151 3 (k + 1) a = N a := fun a h1 h2 => by rw [up2_ne h2, up2_ne h1]
  have o2 : ∀ i, i ≠ 3 → up2 (up2 N 150 k v) 151 3 (k + 1) 151 i = N 151 i := fun i h1 => by rw [up2_o (by omega), up2_o (by omega)]
  have r : ∀ a j, a ≠ 1 → (a ≠ 0 ∨ j ≠ 2) → up2 (up2 X 1 k v) 0 2 (k + 1) a j = up2 X 0 2 k a j := fun a j h1 h2 => by rw [up2_o (by omega), up2_o (by omega), up2_o (by omega)]
  have hs : ∀ x, stg (up2 (up2 X 1 k v) 0 2 (k + 1)) x = stg (up2 X 0 2 k) x := stg_cg (fun i => r 4 i (by omega) (by omega)) (fun i => r 5 i (by omega) (by omega))
  refine ⟨⟨⟨?_, ?_, ?_, ?_, fun x hx => ?_⟩, ?_, ?_, fun x hx => ?_, fun x hx => ?_, fun x hx z hz => ?_⟩, LT_o h.2 (o1 _ (by omega) (by omega)) (o1 _ (by omega) (by omega)) (fun i => r _ _ (by omega) (by omega)) (fun i => r _ _ (by omega) (by omega))⟩
  · rw [o2 _ (by omega), r _ _ (by omega) (by omega)]; exact c0
  · rw [o2 _ (by omega), r _ _ (by omega) (by omega)]; exact c1
  · rw [o2 _ (by omega)]; exact c2
  · rw [up2_e ⟨rfl, rfl⟩, up2_e ⟨rfl, rfl⟩]
  · rw [o2 _ (by omega), r _ _ (by omega) (by omega)]; exact c5 x hx
  · intro i hi
    rw [up2_e ⟨rfl, rfl⟩] at hi
    rw [show up2 (up2 N 150 k v) 151 3 (k + 1) 150 i = up2 N 150 k v 150 i from up2_o (by omega), show up2 (up2 X 1 k v) 0 2 (k + 1) 1 i = up2 X 1 k v 1 i from up2_o (by omega)]
    by_cases z : i = k
    · rw [up2_e ⟨rfl, z⟩, up2_e ⟨rfl, z⟩]
    · have hb := b' i (by rw [up2_e ⟨rfl, rfl⟩]; omega)
      rw [up2_o (by omega)] at hb
      rw [up2_o (by omega), up2_o (by omega)]
      exact hb
  · rw [o1 149 (by omega) (by omega)]
    intro i hi
    rw [r 2 _ (by omega) (by omega)]
    exact c' i hi
  · rw [o1 144 (by omega) (by omega), o1 145 (by omega) (by omega), hs, r 6 _ (by omega) (by omega), r 7 _ (by omega) (by omega), r 9 _ (by omega) (by omega), r 10 _ (by omega) (by omega), r 11 _ (by omega) (by omega)]
    exact f x hx
  · rw [o1 144 (by omega) (by omega), r 4 _ (by omega) (by omega), r 8 _ (by omega) (by omega)]
    exact g x hx
  · rw [o1 146 (by omega) (by omega), r 12 _ (by omega) (by omega)]
    exact s x hx z hz
theorem MT_67 {N : Nat → Nat → Nat} {R : aY} {B : Nat → Nat} {o m k d v : Nat} (h : MT N R B o) (hk : (k = 6 ∧ d = 0) ∨ (k = 7 ∧ d = 1)) : MT (up2 N 144 (5 * m + d) v) (up2 R k (pl m) v) B o := by
  refine ⟨?_, LT_o h.2 (up2_ne (by omega)) (up2_ne (by omega)) (fun i => up2_o (by omega)) (fun i => up2_o (by omega))⟩
  obtain ⟨⟨c0, c1, c2, c4, c5⟩, b', c', f, g, s⟩ := h.1
  have o1 : ∀ a, a ≠ 144 → up2 N 144 (5 * m + d) v a = N a := fun a ha => up2_ne ha
  have r : ∀ a j, a ≠ k → up2 R k (pl m) v a j = R a j := fun a j ha => up2_o (fun z => ha z.1)
  have hs : ∀ x, stg (up2 R k (pl m) v) x = stg R x := stg_cg (fun i => r 4 i (by omega)) (fun i => r 5 i (by omega))
  refine ⟨?_, ?_, ?_, fun x hx => ?_, fun x hx => ?_, fun x hx z hz => ?_⟩
  · rw [o1 151 (by omega), r 0 _ (by omega), r 0 _ (by omega), r 0 _ (by omega)]
    exact ⟨c0, c1, c2, c4, fun x hx => by rw [r 3 _ (by omega)]; exact c5 x hx⟩
  · rw [o1 150 (by omega)]
    intro i hi
    rw [r 0 _ (by omega)] at hi
    rw [r 1 _ (by omega)]
    exact b' i hi
  · rw [o1 149 (by omega)]
    intro i hi
    rw [r 2 _ (by omega)]
    exact c' i hi
  · obtain ⟨f0, f1, f2, f3, f4⟩ := f x hx
    rw [o1 145 (by omega), hs, r 9 _ (by omega), r 10 _ (by omega), r 11 _ (by omega), up2_o (j := 5 * x + 2) (by omega), up2_o (j := 5 * x + 4) (by omega)]
    refine ⟨?_, ?_, f2, f3, f4⟩
    · rcases hk with ⟨rfl, rfl⟩ | ⟨rfl, rfl⟩
      · by_cases w : x = m
        · rw [w, up2_e ⟨rfl, by omega⟩, up2_e ⟨rfl, rfl⟩]
        · rw [up2_o (by omega), up2_o (fun z => w (pl_in z.2))]
          exact f0
      · rw [up2_o (by omega), up2_o (by omega)]
        exact f0
    · rcases hk with ⟨rfl, rfl⟩ | ⟨rfl, rfl⟩
      · rw [up2_o (by omega), up2_o (by omega)]
        exact f1
      · by_cases w : x = m
        · rw [w, up2_e ⟨rfl, by omega⟩, up2_e ⟨rfl, rfl⟩]
        · rw [up2_o (by omega), up2_o (fun z => w (pl_in z.2))]
          exact f1
  · rw [up2_o (by omega), r 4 _ (by omega), r 8 _ (by omega)]
    exact g x hx
  · rw [o1 146 (by omega), r 12 _ (by omega)]
    exact s x hx z hz
theorem ahX_snoc {h : Nat} {e : Nat × Nat} : ∀ (l : List (Nat × Nat)) (i : Nat) (R : aY), ahX h (l ++ [e]) i R = up2 (up2 (ahX h l i R) 6 (h * 6 + (i + l.length)) e.1) 7 (h * 6 + (i + l.length)) e.2
  | [], i, R => rfl
  | a :: l, i, R => by
    rw [List.cons_append]
    unfold ahX
    rw [ahX_snoc l, List.length_cons, show i + 1 + l.length = i + (l.length + 1) by omega]
theorem swX_snoc {e : Nat × Nat} : ∀ (l : List (Nat × Nat)) (p : Nat) (R : aY), swX (l ++ [e]) p R = skX e.1 e.2 (p + tot l) (swX l p R)
  | [], p, R => rfl
  | a :: l, p, R => by
    rw [List.cons_append]
    unfold swX
    rw [swX_snoc l, tot_cons, Nat.add_assoc]
