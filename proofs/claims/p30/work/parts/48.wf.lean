/-! what holds of a yard at all times -/
def WFa (R : aY) : Prop := (R 0 1 ≤ 6 ∧ 1 ≤ R 0 2 ∧ R 0 2 ≤ 60) ∧ (∀ i, i < 60 → R 1 i ≤ 9) ∧ (1 ≤ R 2 0 ∧ R 2 0 ≤ 3 ∧ 3 ≤ R 2 1 ∧ R 2 1 ≤ 9 ∧ R 2 2 ≤ 30 ∧ 1 ≤ R 2 3 ∧ R 2 3 ≤ 100 ∧ R 2 4 ≤ 30)
def WFh (R : aY) : Prop := ∀ h, h < 6 → R 5 h ≤ R 4 h ∧ R 4 h ≤ R 3 h ∧ R 3 h ≤ 6 ∧ (R 0 1 ≤ h → R 3 h = 0)
def WFp (R : aY) : Prop := ∀ p, p < 36 → R 6 p ≤ 3 ∧ R 7 p ≤ 9999 ∧ (R 3 (p / 6) ≤ p % 6 → R 6 p = 0 ∧ R 7 p = 0 ∧ R 9 p = 0 ∧ R 10 p = 0 ∧ R 11 p = 0)
def WFs (R : aY) : Prop := ∀ p, p < 36 → ∀ t, t < 4 → R 12 (p * 4 + t) ≤ 9999 ∧ R 13 (p * 4 + t) ≤ 99 ∧ (R 3 (p / 6) ≤ p % 6 → R 12 (p * 4 + t) = 0 ∧ R 13 (p * 4 + t) = 0)
def WFd (R : aY) : Prop := ∀ p, p < 36 → (R 4 (p / 6) ≤ p % 6 → R 8 p = 4294967295) ∧ (p % 6 < R 4 (p / 6) → R 8 p < 1400 ∧ (1 ≤ p % 6 → R 8 (p - 1) ≤ R 8 p)) ∧ (p % 6 < R 5 (p / 6) → R 8 p ≤ max 999 (R 0 0))
def WFq (R : aY) (q : List Nat) : Prop := q.Nodup ∧ (∀ x, x ∈ q ↔ x < 36 ∧ R 5 (x / 6) ≤ x % 6 ∧ x % 6 < R 4 (x / 6)) ∧ q.length + sumN (R 5) 0 6 = sumN (R 4) 0 6 ∧ q.Pairwise (fun a b => a / 6 = b / 6 → a < b) ∧ ∀ t, 1 ≤ cg R q t → cg R q t + t ≤ 37 + max 999 (R 0 0)
def WF (R : aY) (q : List Nat) : Prop := WFa R ∧ WFh R ∧ WFp R ∧ WFs R ∧ WFd R ∧ WFq R q
theorem sumN_congr {f g : Nat → Nat} {a : Nat} : ∀ {n : Nat}, (∀ i, i < n → f (a + i) = g (a + i)) → sumN f a n = sumN g a n
  | 0, _ => rfl
  | n + 1, h => by rw [sumN_succ, sumN_succ, sumN_congr (n := n) (fun i hi => h i (by omega)), h n (by omega)]
theorem sumN_up {f g : Nat → Nat} {a v : Nat} : ∀ {n : Nat} (k : Nat), k < n → f (a + k) + v = g (a + k) → (∀ i, i < n → i ≠ k → f (a + i) = g (a + i)) → sumN f a n + v = sumN g a n
  | n + 1, k, hk, h, ho => by
    rw [sumN_succ, sumN_succ]
    by_cases e : k = n
    · subst e
      rw [sumN_congr (n := k) (fun i hi => ho i (by omega) (by omega))]
      omega
    · have := sumN_up (f := f) (g := g) (a := a) (v := v) (n := n) k (by omega) h (fun i hi hn => ho i (by omega) hn)
      have := ho n (by omega) (by omega)
      omega
theorem WF_len {R : aY} {q : List Nat} (h : WF R q) : q.length ≤ 36 := by
  have h1 := h.2.2.2.2.2.2.2.1
  have h2 := sumN_bd (f := R 4) (a := 0) (b := 6) (n := 6) (fun i hi => by
    have := h.2.1 (0 + i) (by omega)
    omega)
  omega
theorem aQ_sub : ∀ (q : List Nat) (R : aY), (aQ q R).Sublist q
  | [], R => List.Sublist.slnil
  | p :: l, R => by
    unfold aQ
    split
    · exact List.Sublist.cons _ (aQ_sub l _)
    · exact List.Sublist.cons_cons _ (aQ_sub l _)
theorem aDo_no : ∀ (q : List Nat) (R : aY) (x : Nat), x ∉ q → R 5 (x / 6) ≤ x % 6 → aDo q R 5 (x / 6) ≤ x % 6
  | [], R, x, _, h => h
  | p :: l, R, x, hx, h => by
    unfold aDo
    refine aDo_no l _ x (fun z => hx (List.mem_cons_of_mem _ z)) ?_
    split
    · rename_i hc
      have h5 := (aCan_iff.mp hc).2.1
      rw [aSet_5]
      split
      · rename_i e
        have : x ≠ p := fun z => hx (z ▸ List.mem_cons_self)
        rw [e] at h ⊢
        omega
      · exact h
    · exact h
theorem aDo_ge : ∀ (q : List Nat) (R : aY) (h : Nat), R 5 h ≤ aDo q R 5 h
  | [], R, h => Nat.le_refl _
  | p :: l, R, h => by
    unfold aDo
    refine Nat.le_trans ?_ (aDo_ge l _ h)
    split
    · rw [aSet_5]
      split <;> omega
    · exact Nat.le_refl _
theorem aDo_le4 : ∀ (q : List Nat) (R : aY), (∀ x ∈ q, x % 6 < R 4 (x / 6)) → ∀ h, R 5 h ≤ R 4 h → aDo q R 5 h ≤ R 4 h
  | [], R, _, h, h5 => h5
  | p :: l, R, hq, h, h5 => by
    unfold aDo
    split
    · rename_i hc
      have hp := (aCan_iff.mp hc).2.1
      have h4 := hq p List.mem_cons_self
      have e4 : ∀ i, aSet R p 4 i = R 4 i := fun i => aSet_o (by omega) (by omega) (by omega)
      rw [← e4 h]
      refine aDo_le4 l _ (fun x hx => by rw [e4]; exact hq x (List.mem_cons_of_mem _ hx)) h ?_
      rw [e4, aSet_5]
      split
      · rename_i e
        rw [e]
        omega
      · exact h5
    · exact aDo_le4 l R (fun x hx => hq x (List.mem_cons_of_mem _ hx)) h h5
theorem aQ_mem : ∀ (q : List Nat) (R : aY), q.Nodup → (∀ x ∈ q, R 5 (x / 6) ≤ x % 6) → ∀ x, x ∈ aQ q R ↔ x ∈ q ∧ aDo q R 5 (x / 6) ≤ x % 6
  | [], R, _, _, x => by simp [aQ]
  | p :: l, R, hn, hq, x => by
    obtain ⟨n1, n2⟩ := List.nodup_cons.mp hn
    have hp := hq p List.mem_cons_self
    unfold aQ aDo
    by_cases c : aCan R p = true
    · rw [if_pos c, if_pos c]
      have h5 := (aCan_iff.mp c).2.1
      have hq2 : ∀ x ∈ l, aSet R p 5 (x / 6) ≤ x % 6 := fun x hx => by
        rw [aSet_5]
        have t1 := hq x (List.mem_cons_of_mem _ hx)
        split
        · rename_i e
          have t2 : x ≠ p := fun z => n1 (z ▸ hx)
          rw [e] at t1 ⊢
          omega
        · exact t1
      rw [aQ_mem l _ n2 hq2 x, List.mem_cons]
      refine ⟨fun h => ⟨Or.inr h.1, h.2⟩, fun h => ⟨h.1.elim (fun e => ?_) id, h.2⟩⟩
      subst e
      have := aDo_ge l (aSet R x) (x / 6)
      rw [aSet_5, if_pos rfl] at this
      have := h.2
      omega
    · rw [if_neg c, if_neg c, List.mem_cons, List.mem_cons, aQ_mem l R n2 (fun x hx => hq x (List.mem_cons_of_mem _ hx)) x]
      refine ⟨fun h => h.elim (fun e => ⟨Or.inl e, ?_⟩) (fun h => ⟨Or.inr h.1, h.2⟩), fun h => h.1.elim Or.inl (fun e => Or.inr ⟨e, h.2⟩)⟩
      subst e
      exact aDo_no l R x n1 hp
theorem aQ_len : ∀ (q : List Nat) (R : aY), (∀ x ∈ q, x < 36) → (aQ q R).length + sumN (aDo q R 5) 0 6 = q.length + sumN (R 5) 0 6
  | [], R, _ => rfl
  | p :: l, R, hx => by
    have hp := hx p List.mem_cons_self
    have hl : ∀ x ∈ l, x < 36 := fun x h => hx x (List.mem_cons_of_mem _ h)
    unfold aQ aDo
    split
    · rw [aQ_len l _ hl]
      have := sumN_up (f := R 5) (g := aSet R p 5) (a := 0) (v := 1) (n := 6) (p / 6) (by omega) (by rw [aSet_5, if_pos (by omega)]) (fun i _ hi => by rw [aSet_5, if_neg (by omega)])
      rw [List.length_cons]
      omega
    · rw [List.length_cons, List.length_cons]
      have := aQ_len l R hl
      omega
theorem aDo_set : ∀ (q : List Nat) (R : aY) (x : Nat), x % 6 < aDo q R 5 (x / 6) → x % 6 < R 5 (x / 6) ∨ (x ∈ q ∧ R 8 x = R 0 0)
  | [], R, x, h => Or.inl h
  | p :: l, R, x, h => by
    unfold aDo at h
    by_cases c : aCan R p = true
    · rw [if_pos c] at h
      obtain ⟨c1, c2, -⟩ := aCan_iff.mp c
      rcases aDo_set l _ x h with w | w
      · rw [aSet_5] at w
        split at w
        · rename_i e
          by_cases z : x = p
          · rw [z]
            exact Or.inr ⟨List.mem_cons_self, c1⟩
          · rw [e] at w ⊢
            exact Or.inl (by omega)
        · exact Or.inl w
      · rw [aSet_o (by omega) (by omega) (by omega), aSet_o (by omega) (by omega) (by omega)] at w
        exact Or.inr ⟨List.mem_cons_of_mem _ w.1, w.2⟩
    · rw [if_neg c] at h
      exact (aDo_set l _ x h).imp id (fun w => ⟨List.mem_cons_of_mem _ w.1, w.2⟩)
theorem aDo_9 : ∀ (q : List Nat) (R : aY) (x : Nat), x ∉ q → aDo q R 9 x = R 9 x
  | [], R, x, _ => rfl
  | p :: l, R, x, hx => by
    unfold aDo
    rw [aDo_9 l _ x (fun z => hx (List.mem_cons_of_mem _ z))]
    split
    · rw [aSet_9, if_neg (fun z : x = p => hx (z ▸ List.mem_cons_self))]
    · rfl
theorem aDo_12 {t : Nat} (ht : t < 4) : ∀ (q : List Nat) (R : aY) (x : Nat), x ∉ q → aDo q R 12 (x * 4 + t) = R 12 (x * 4 + t)
  | [], R, x, _ => rfl
  | p :: l, R, x, hx => by
    unfold aDo
    rw [aDo_12 ht l _ x (fun z => hx (List.mem_cons_of_mem _ z))]
    split
    · rw [aSet_12 ht, if_neg (fun z : x = p => hx (z ▸ List.mem_cons_self))]
    · rfl
theorem aHeld_le {R : aY} {p : Nat} (h7 : R 7 p ≤ 9999) (h2 : R 2 2 ≤ 30) : aHeld R p ≤ 2999 := by
  have : R 7 p * R 2 2 ≤ 9999 * 30 := Nat.mul_le_mul h7 h2
  unfold aHeld
  omega
theorem aDo_12b {t : Nat} (ht : t < 4) : ∀ (q : List Nat) (R : aY) (x : Nat), (∀ p ∈ q, R 7 p ≤ 9999) → R 2 2 ≤ 30 → R 12 (x * 4 + t) ≤ 9999 → aDo q R 12 (x * 4 + t) ≤ 9999
  | [], R, x, _, _, h => h
  | p :: l, R, x, h7, h2, h => by
    unfold aDo
    split
    · refine aDo_12b ht l _ x (fun y hy => by rw [aSet_o (by omega) (by omega) (by omega)]; exact h7 y (List.mem_cons_of_mem _ hy)) (by rw [aSet_o (by omega) (by omega) (by omega)]; exact h2) ?_
      rw [aSet_12 ht]
      have := aHeld_le (h7 p List.mem_cons_self) h2
      split
      · split <;> omega
      · exact h
    · exact aDo_12b ht l _ x (fun y hy => h7 y (List.mem_cons_of_mem _ hy)) h2 h
theorem cg_sub {R R' : aY} {q q' : List Nat} {t : Nat} (hs : q'.Sublist q) (h8 : ∀ x, R' 8 x = R 8 x) : cg R' q' t ≤ cg R q t := by
  unfold cg
  induction hs with
  | slnil => exact Nat.le_refl _
  | cons a _ ih => simp only [sumL]; omega
  | cons_cons a _ ih => simp only [sumL, h8] at ih ⊢; omega
theorem WF_do {R : aY} {q : List Nat} (h : WF R q) : WF (up2 (aDo q R) 0 0 (R 0 0 + 1)) (aQ q R) := by
  obtain ⟨⟨a1, a2, a3⟩, hh, hp, hs, hd, ⟨q1, q2, q3, q4, q5⟩⟩ := h
  have o : ∀ k i, k ≠ 12 → k ≠ 5 → k ≠ 9 → (k ≠ 0 ∨ i ≠ 0) → up2 (aDo q R) 0 0 (R 0 0 + 1) k i = R k i := fun k i h1 h2 h3 h4 => by
    rw [up2_o (by omega), aDo_o h1 h2 h3]
  have o2 : ∀ k i, k ≠ 0 → up2 (aDo q R) 0 0 (R 0 0 + 1) k i = aDo q R k i := fun k i h1 => up2_o (by omega)
  have o00 : up2 (aDo q R) 0 0 (R 0 0 + 1) 0 0 = R 0 0 + 1 := up2_e ⟨rfl, rfl⟩
  have hx36 : ∀ x ∈ q, x < 36 := fun x hx => ((q2 x).mp hx).1
  have hx5 : ∀ x ∈ q, R 5 (x / 6) ≤ x % 6 := fun x hx => ((q2 x).mp hx).2.1
  have hx4 : ∀ x ∈ q, x % 6 < R 4 (x / 6) := fun x hx => ((q2 x).mp hx).2.2
  refine ⟨⟨?_, ?_, ?_⟩, ?_, ?_, ?_, ?_, ?_, ?_, ?_, ?_, ?_⟩
  · rw [o 0 1 (by omega) (by omega) (by omega) (by omega), o 0 2 (by omega) (by omega) (by omega) (by omega)]
    exact a1
  · intro i hi
    rw [o 1 i (by omega) (by omega) (by omega) (by omega)]
    exact a2 i hi
  · have o22 : ∀ i, up2 (aDo q R) 0 0 (R 0 0 + 1) 2 i = R 2 i := fun i => o 2 i (by omega) (by omega) (by omega) (by omega)
    rw [o22, o22, o22, o22, o22]
    exact a3
  · intro i hi
    obtain ⟨b1, b2, b3, b4⟩ := hh i hi
    rw [o2 5 i (by omega), o 4 i (by omega) (by omega) (by omega) (by omega), o 3 i (by omega) (by omega) (by omega) (by omega), o 0 1 (by omega) (by omega) (by omega) (by omega)]
    exact ⟨aDo_le4 q R hx4 i b1, b2, b3, b4⟩
  · intro p hp1
    obtain ⟨b1, b2, b3⟩ := hp p hp1
    have hc := hh (p / 6) (by omega)
    rw [o 6 p (by omega) (by omega) (by omega) (by omega), o 7 p (by omega) (by omega) (by omega) (by omega), o 3 _ (by omega) (by omega) (by omega) (by omega), o2 9 p (by omega), o 10 p (by omega) (by omega) (by omega) (by omega), o 11 p (by omega) (by omega) (by omega) (by omega)]
    refine ⟨b1, b2, fun h3 => ?_⟩
    rw [aDo_9 q R p (fun z => by have := hx4 p z; omega)]
    exact b3 h3
  · intro p hp1 t ht
    obtain ⟨b1, b2, b3⟩ := hs p hp1 t ht
    have hc := hh (p / 6) (by omega)
    rw [o2 12 _ (by omega), o 13 _ (by omega) (by omega) (by omega) (by omega), o 3 _ (by omega) (by omega) (by omega) (by omega)]
    refine ⟨aDo_12b ht q R p (fun x hx => (hp x (hx36 x hx)).2.1) a3.2.2.2.2.1 b1, b2, fun h3 => ?_⟩
    rw [aDo_12 ht q R p (fun z => by have := hx4 p z; omega)]
    exact b3 h3
  · intro p hp1
    obtain ⟨b1, b2, b3⟩ := hd p hp1
    rw [o 4 _ (by omega) (by omega) (by omega) (by omega), o 8 _ (by omega) (by omega) (by omega) (by omega), o 8 _ (by omega) (by omega) (by omega) (by omega), o2 5 _ (by omega), o00]
    refine ⟨b1, b2, fun h5 => ?_⟩
    rcases aDo_set q R p h5 with w | w
    · have := b3 w
      omega
    · rw [w.2]
      omega
  · exact (aQ_sub q R).nodup q1
  · intro x
    rw [aQ_mem q R q1 hx5, o2 5 _ (by omega), o 4 _ (by omega) (by omega) (by omega) (by omega), q2]
    have := aDo_ge q R (x / 6)
    omega
  · have e := aQ_len q R hx36
    rw [sumN_congr (f := up2 (aDo q R) 0 0 (R 0 0 + 1) 5) (g := aDo q R 5) (fun i _ => o2 5 _ (by omega)), sumN_congr (f := up2 (aDo q R) 0 0 (R 0 0 + 1) 4) (g := R 4) (fun i _ => o 4 _ (by omega) (by omega) (by omega) (by omega)), e]
    exact q3
  · exact q4.sublist (aQ_sub q R)
  · intro t ht
    have hle := cg_sub (R := R) (R' := up2 (aDo q R) 0 0 (R 0 0 + 1)) (t := t) (aQ_sub q R) (fun x => o 8 x (by omega) (by omega) (by omega) (by omega))
    have := q5 t (by omega)
    rw [o00]
    omega
theorem aMvL_11 {x : Nat} : ∀ (rs l : List Nat) (R : aY), x ∉ rs → aMvL rs l R 11 x = R 11 x
  | [], l, R, _ => rfl
  | p :: rs, l, R, h => by
    unfold aMvL
    rw [aMvL_11 rs _ _ (fun z => h (List.mem_cons_of_mem _ z))]
    unfold aMv
    split
    · rfl
    · rw [up2_o (fun z : 11 = 11 ∧ x = p => h (z.2 ▸ List.mem_cons_self)), up2_o (by omega)]
theorem WF_mono {R : aY} {q : List Nat} (h : WF R q) {a b : Nat} (hb : b < 36) (hk : b % 6 < R 4 (b / 6)) : ∀ n, a + n = b → a / 6 = b / 6 → R 8 a ≤ R 8 b
  | 0, e, _ => by
    have : a = b := by omega
    rw [this]
    exact Nat.le_refl _
  | n + 1, e, e6 => by
    have h1 := WF_mono (a := a + 1) h hb hk n (by omega) (by omega)
    have e7 : (a + 1) / 6 = b / 6 := by omega
    have h2 := ((h.2.2.2.2.1 (a + 1) (by omega)).2.1 (by rw [e7]; omega)).2 (by omega)
    rw [Nat.add_sub_cancel] at h2
    omega
theorem WF_mv {R : aY} {q : List Nat} (h : WF R q) (ht : R 0 0 ≤ 1300) : aOK (aT (R 8) q) [] R ∧ WF (aMvL (aT (R 8) q) [] R) q := by
  have hlen := WF_len h
  have h0 := h
  obtain ⟨⟨a1, a2, a3⟩, hh, hp, hs, hd, ⟨q1, q2, q3, q4, q5⟩⟩ := h
  have hI : MI R q (max 999 (R 0 0)) [] (aT (R 8) q) R := by
    refine ⟨fun _ _ _ _ => rfl, fun _ _ => rfl, fun x hx => (by simp at hx), fun t _ hx => ?_, fun x hx => (by simp at hx), fun x => ?_, ?_, aT_nd q1, fun x hx => (by simp at hx)⟩
    · obtain ⟨x, hx, -⟩ := hx
      simp at hx
    · rw [aT_mem]
      simp
    · refine aT_hs (List.Pairwise.imp_of_mem ?_ q4)
      intro a b ha hb hab e
      have hlt := hab e
      have hb2 := (q2 b).mp hb
      exact ⟨hlt, WF_mono h0 hb2.1 hb2.2.2 (b - a) (by omega) e⟩
  obtain ⟨r1, l', r2⟩ := mv_all (q := q) (M := max 999 (R 0 0)) hlen (by omega) (by omega) q5 ⟨a3.1, a3.2.2.1⟩ (fun p hpq => (hp p ((q2 p).mp hpq).1).1) (fun p hpq h1 => by
    obtain ⟨u1, u2, u3⟩ := (q2 p).mp hpq
    have e6 : (p - 1) / 6 = p / 6 := by omega
    by_cases z : R 5 ((p - 1) / 6) ≤ (p - 1) % 6
    · exact Or.inl ((q2 (p - 1)).mpr ⟨by omega, z, by rw [e6]; omega⟩)
    · exact Or.inr ((hd (p - 1) (by omega)).2.2 (by omega))) (fun p hpq h1 => by
    obtain ⟨u1, u2, u3⟩ := (q2 p).mp hpq
    exact ((hd p u1).2.1 u3).2 h1) (aT (R 8) q) [] R hI
  refine ⟨r1, ?_⟩
  obtain ⟨i1, i2, i3, i4, i5, i6, -⟩ := r2
  have i6 : ∀ x, x ∈ q ↔ x ∈ l' := fun x => by rw [i6 x]; simp
  have hcg := MI_cg i2 i4 (fun x hx => (i6 x).mpr hx) hlen q5
  have e8 : ∀ x, x ∉ q → aMvL (aT (R 8) q) [] R 8 x = R 8 x := fun x hx => i2 x (fun z => hx ((i6 x).mpr z))
  have lt8 : ∀ x, x ∈ q → aMvL (aT (R 8) q) [] R 8 x < 1400 := fun x hx => by
    have h1 : 1 ≤ cg (aMvL (aT (R 8) q) [] R) q (aMvL (aT (R 8) q) [] R 8 x) := by
      have : sumL (fun _ => 0) q + 1 ≤ cg (aMvL (aT (R 8) q) [] R) q (aMvL (aT (R 8) q) [] R 8 x) := by
        refine sumL_lt q (fun x _ => Nat.zero_le _) ⟨x, hx, ?_⟩
        rw [if_neg (by omega)]
        omega
      omega
    have := hcg _ h1
    omega
  have o : ∀ k i, k ≠ 8 → k ≠ 11 → aMvL (aT (R 8) q) [] R k i = R k i := i1
  refine ⟨⟨?_, ?_, ?_⟩, ?_, ?_, ?_, ?_, q1, ?_, ?_, q4, ?_⟩
  · rw [o 0 1 (by omega) (by omega), o 0 2 (by omega) (by omega)]
    exact a1
  · intro i hi
    rw [o 1 i (by omega) (by omega)]
    exact a2 i hi
  · rw [o 2 _ (by omega) (by omega), o 2 _ (by omega) (by omega), o 2 _ (by omega) (by omega), o 2 _ (by omega) (by omega), o 2 _ (by omega) (by omega)]
    exact a3
  · intro i hi
    rw [o 5 i (by omega) (by omega), o 4 i (by omega) (by omega), o 3 i (by omega) (by omega), o 0 1 (by omega) (by omega)]
    exact hh i hi
  · intro p hp1
    obtain ⟨b1, b2, b3⟩ := hp p hp1
    have hc := hh (p / 6) (by omega)
    rw [o 6 p (by omega) (by omega), o 7 p (by omega) (by omega), o 3 _ (by omega) (by omega), o 9 p (by omega) (by omega), o 10 p (by omega) (by omega)]
    refine ⟨b1, b2, fun h3 => ?_⟩
    rw [aMvL_11 _ _ _ (fun z => by have := ((q2 p).mp (aT_mem.mp z)).2.2; omega)]
    exact b3 h3
  · intro p hp1 t ht
    rw [o 12 _ (by omega) (by omega), o 13 _ (by omega) (by omega), o 3 _ (by omega) (by omega)]
    exact hs p hp1 t ht
  · intro p hp1
    obtain ⟨b1, b2, b3⟩ := hd p hp1
    rw [o 4 _ (by omega) (by omega), o 5 _ (by omega) (by omega), o 0 0 (by omega) (by omega)]
    refine ⟨fun h4 => ?_, fun h4 => ?_, fun h5 => ?_⟩
    · rw [e8 p (fun z => by have := ((q2 p).mp z).2.2; omega)]
      exact b1 h4
    · obtain ⟨c1, c2⟩ := b2 h4
      by_cases hpq : p ∈ q
      · exact ⟨lt8 p hpq, fun h1 => i5 p ((i6 p).mp hpq) h1⟩
      · rw [e8 p hpq]
        refine ⟨c1, fun h1 => ?_⟩
        rw [e8 (p - 1) (fun z => hpq ((q2 p).mpr ⟨hp1, ?_, h4⟩))]
        · exact c2 h1
        · have := ((q2 (p - 1)).mp z).2.1
          rw [show (p - 1) / 6 = p / 6 by omega] at this
          omega
    · rw [e8 p (fun z => by have := ((q2 p).mp z).2.1; omega)]
      exact b3 h5
  · intro x
    rw [o 5 _ (by omega) (by omega), o 4 _ (by omega) (by omega)]
    exact q2 x
  · rw [sumN_congr (f := aMvL (aT (R 8) q) [] R 5) (g := R 5) (fun i _ => o 5 _ (by omega) (by omega)), sumN_congr (f := aMvL (aT (R 8) q) [] R 4) (g := R 4) (fun i _ => o 4 _ (by omega) (by omega))]
    exact q3
  · intro t ht
    rw [o 0 0 (by omega) (by omega)]
    exact hcg t ht
/-- a day passes -/
def aN (R : aY) (q : List Nat) : aY := up2 (aDo q R) 0 0 (R 0 0 + 1)
def aP (s : aY × List Nat) : aY × List Nat := if aLf s.2 s.1 = true then (aMvL (aT (aN s.1 s.2 8) (aQ s.2 s.1)) [] (aN s.1 s.2), aQ s.2 s.1) else (aN s.1 s.2, aQ s.2 s.1)
theorem WF_P {s : aY × List Nat} (h : WF s.1 s.2) (ht : s.1 0 0 + 1 ≤ 1300) : WF (aP s).1 (aP s).2 ∧ (aP s).1 0 0 = s.1 0 0 + 1 ∧ (aLf s.2 s.1 = true → aOK (aT (aN s.1 s.2 8) (aQ s.2 s.1)) [] (aN s.1 s.2)) := by
  have h1 := WF_do h
  have e0 : aN s.1 s.2 0 0 = s.1 0 0 + 1 := up2_e ⟨rfl, rfl⟩
  have h2 := WF_mv (R := aN s.1 s.2) h1 (by rw [e0]; exact ht)
  unfold aP
  split
  · exact ⟨h2.2, (aMvL_o (by omega) (by omega) _ _ _).trans e0, fun _ => h2.1⟩
  · rename_i hf
    exact ⟨h1, e0, fun z => absurd z hf⟩
