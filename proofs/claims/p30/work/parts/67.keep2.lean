/-! what holds is kept by the texts -/
theorem ahX_6 {h : Nat} : ∀ (l : List (Nat × Nat)) (i : Nat) (R : aY) (x : Nat), (x < h * 6 + i ∨ h * 6 + i + l.length ≤ x → ahX h l i R 6 x = R 6 x ∧ ahX h l i R 7 x = R 7 x) ∧ ((∀ e ∈ l, e.1 ≤ 3 ∧ e.2 ≤ 9999) → R 6 x ≤ 3 ∧ R 7 x ≤ 9999 → ahX h l i R 6 x ≤ 3 ∧ ahX h l i R 7 x ≤ 9999)
  | [], i, R, x => ⟨fun _ => ⟨rfl, rfl⟩, fun _ h => h⟩
  | e :: l, i, R, x => by
    obtain ⟨a, b⟩ := ahX_6 (h := h) l (i + 1) (up2 (up2 R 6 (h * 6 + i) e.1) 7 (h * 6 + i) e.2) x
    unfold ahX
    refine ⟨fun hx => ?_, fun he hR => ?_⟩
    · rw [List.length_cons] at hx
      obtain ⟨u, v⟩ := a (by omega)
      rw [u, v, up2_o (by omega), up2_o (by omega), up2_o (by omega), up2_o (by omega)]
      exact ⟨rfl, rfl⟩
    · have h1 := he e List.mem_cons_self
      refine b (fun e' he' => he e' (List.mem_cons_of_mem _ he')) ?_
      by_cases z : x = h * 6 + i
      · rw [up2_o (by omega), up2_e ⟨rfl, z⟩, up2_e ⟨rfl, z⟩]
        exact h1
      · rw [up2_o (by omega), up2_o (by omega), up2_o (by omega), up2_o (by omega)]
        exact hR
theorem WF_add {R : aY} {q : List Nat} {l : List (Nat × Nat)} (hw : WF R q) (hh : R 0 1 < 6) (hl : l.length ≤ 6) (he : ∀ e ∈ l, e.1 ≤ 3 ∧ e.2 ≤ 9999) : WF (ahR R l) q := by
  obtain ⟨⟨a1, a2, a3⟩, wh, wp, ws, wd, ⟨q1, q2, q3, q4, q5⟩⟩ := hw
  have o : ∀ k i, k ≠ 6 → k ≠ 7 → k ≠ 3 → (k ≠ 0 ∨ i ≠ 1) → ahR R l k i = R k i := fun k i h1 h2 h3 h4 => by
    unfold ahR
    rw [up2_o (by omega), up2_o (by omega), ahX_o h1 h2]
  have o3 : ∀ i, ahR R l 3 i = if i = R 0 1 then l.length else R 3 i := fun i => by
    unfold ahR
    rw [up2_o (by omega)]
    by_cases z : i = R 0 1
    · rw [if_pos z, up2_e ⟨rfl, z⟩]
    · rw [if_neg z, up2_o (by omega), ahX_o (by omega) (by omega)]
  have o01 : ahR R l 0 1 = R 0 1 + 1 := up2_e ⟨rfl, rfl⟩
  have o67 : ∀ x, (x < R 0 1 * 6 ∨ R 0 1 * 6 + l.length ≤ x → ahR R l 6 x = R 6 x ∧ ahR R l 7 x = R 7 x) ∧ (R 6 x ≤ 3 ∧ R 7 x ≤ 9999 → ahR R l 6 x ≤ 3 ∧ ahR R l 7 x ≤ 9999) := fun x => by
    obtain ⟨a, b⟩ := ahX_6 (h := R 0 1) l 0 R x
    unfold ahR
    rw [up2_o (by omega), up2_o (by omega), up2_o (by omega), up2_o (by omega)]
    exact ⟨fun h => a (by omega), b he⟩
  refine ⟨⟨?_, fun i hi => ?_, ?_⟩, fun i hi => ?_, fun x hx => ?_, fun x hx t ht => ?_, fun x hx => ?_, q1, fun x => ?_, ?_, q4, fun t ht => ?_⟩
  · rw [o01, o 0 2 (by omega) (by omega) (by omega) (by omega)]
    omega
  · rw [o 1 _ (by omega) (by omega) (by omega) (by omega)]; exact a2 i hi
  · have o2 : ∀ i, ahR R l 2 i = R 2 i := fun i => o 2 i (by omega) (by omega) (by omega) (by omega)
    rw [o2, o2, o2, o2, o2]; exact a3
  · obtain ⟨b1, b2, b3, b4⟩ := wh i hi
    rw [o 5 _ (by omega) (by omega) (by omega) (by omega), o 4 _ (by omega) (by omega) (by omega) (by omega), o3, o01]
    split
    · rename_i e
      have := b4 (by omega)
      exact ⟨b1, by omega, hl, fun z => by omega⟩
    · exact ⟨b1, b2, b3, fun z => b4 (by omega)⟩
  · obtain ⟨b1, b2, b3⟩ := wp x hx
    obtain ⟨c1, c2⟩ := o67 x
    rw [o 9 _ (by omega) (by omega) (by omega) (by omega), o 10 _ (by omega) (by omega) (by omega) (by omega), o 11 _ (by omega) (by omega) (by omega) (by omega), o3]
    refine ⟨(c2 ⟨b1, b2⟩).1, (c2 ⟨b1, b2⟩).2, fun h3 => ?_⟩
    by_cases z : x / 6 = R 0 1
    · rw [if_pos z] at h3
      have h0 := (wh (R 0 1) hh).2.2.2 (Nat.le_refl _)
      have := c1 (by omega)
      rw [this.1, this.2]
      exact b3 (by rw [z, h0]; omega)
    · rw [if_neg z] at h3
      have := c1 (by omega)
      rw [this.1, this.2]
      exact b3 h3
  · obtain ⟨b1, b2, b3⟩ := ws x hx t ht
    rw [o 12 _ (by omega) (by omega) (by omega) (by omega), o 13 _ (by omega) (by omega) (by omega) (by omega), o3]
    refine ⟨b1, b2, fun h3 => b3 ?_⟩
    by_cases z : x / 6 = R 0 1
    · have h0 := (wh (R 0 1) hh).2.2.2 (Nat.le_refl _)
      rw [z, h0]
      omega
    · rw [if_neg z] at h3
      exact h3
  · rw [o 4 _ (by omega) (by omega) (by omega) (by omega), o 8 _ (by omega) (by omega) (by omega) (by omega), o 8 _ (by omega) (by omega) (by omega) (by omega), o 5 _ (by omega) (by omega) (by omega) (by omega), o 0 0 (by omega) (by omega) (by omega) (by omega)]; exact wd x hx
  · rw [o 5 _ (by omega) (by omega) (by omega) (by omega), o 4 _ (by omega) (by omega) (by omega) (by omega)]; exact q2 x
  · rw [sumN_congr (f := ahR R l 5) (g := R 5) (fun i _ => o 5 _ (by omega) (by omega) (by omega) (by omega)), sumN_congr (f := ahR R l 4) (g := R 4) (fun i _ => o 4 _ (by omega) (by omega) (by omega) (by omega))]; exact q3
  · have e : cg (ahR R l) q t = cg R q t := sumL_congr _ (fun x _ => by rw [o 8 _ (by omega) (by omega) (by omega) (by omega)])
    rw [e] at ht ⊢
    rw [o 0 0 (by omega) (by omega) (by omega) (by omega)]
    exact q5 t ht
theorem skX_1 {v : Nat} : ∀ (n p : Nat) (R : aY) (x : Nat), v ≤ 9 → R 1 x ≤ 9 → skX v n p R 1 x ≤ 9
  | 0, _, _, _, _, h => h
  | n + 1, p, R, x, hv, h => by
    unfold skX
    refine skX_1 n (p + 1) _ x hv ?_
    by_cases z : x = p
    · rw [up2_e ⟨rfl, z⟩]; exact hv
    · rw [up2_o (by omega)]; exact h
theorem swX_1 : ∀ (l : List (Nat × Nat)) (p : Nat) (R : aY) (x : Nat), (∀ e ∈ l, e.1 ≤ 9) → R 1 x ≤ 9 → swX l p R 1 x ≤ 9
  | [], _, _, _, _, h => h
  | e :: l, p, R, x, he, h => by
    unfold swX
    exact swX_1 l _ _ x (fun e' h' => he e' (List.mem_cons_of_mem _ h')) (skX_1 _ _ _ _ (he e List.mem_cons_self) h)
theorem WF_wnd {R : aY} {q : List Nat} {l : List (Nat × Nat)} (hw : WF R q) (h1 : 1 ≤ tot l) (h6 : tot l ≤ 60) (he : ∀ e ∈ l, e.1 ≤ 9) : WF (swR R l) q := by
  obtain ⟨⟨a1, a2, a3⟩, wh, wp, ws, wd, ⟨q1, q2, q3, q4, q5⟩⟩ := hw
  have o : ∀ k i, k ≠ 1 → (k ≠ 0 ∨ i ≠ 2) → swR R l k i = R k i := fun k i h1 h4 => by
    unfold swR
    rw [up2_o (by omega), swX_o h1]
  refine ⟨⟨?_, fun i hi => ?_, ?_⟩, fun i hi => ?_, fun x hx => ?_, fun x hx t ht => ?_, fun x hx => ?_, q1, fun x => ?_, ?_, q4, fun t ht => ?_⟩
  · rw [o 0 1 (by omega) (by omega), show swR R l 0 2 = tot l from up2_e ⟨rfl, rfl⟩]
    exact ⟨a1.1, h1, h6⟩
  · unfold swR
    rw [up2_o (by omega)]
    exact swX_1 l 0 R i he (a2 i hi)
  · rw [o 2 _ (by omega) (by omega), o 2 _ (by omega) (by omega), o 2 _ (by omega) (by omega), o 2 _ (by omega) (by omega), o 2 _ (by omega) (by omega)]; exact a3
  · rw [o 5 _ (by omega) (by omega), o 4 _ (by omega) (by omega), o 3 _ (by omega) (by omega), o 0 1 (by omega) (by omega)]; exact wh i hi
  · rw [o 6 _ (by omega) (by omega), o 7 _ (by omega) (by omega), o 3 _ (by omega) (by omega), o 9 _ (by omega) (by omega), o 10 _ (by omega) (by omega), o 11 _ (by omega) (by omega)]; exact wp x hx
  · rw [o 12 _ (by omega) (by omega), o 13 _ (by omega) (by omega), o 3 _ (by omega) (by omega)]; exact ws x hx t ht
  · rw [o 4 _ (by omega) (by omega), o 8 _ (by omega) (by omega), o 8 _ (by omega) (by omega), o 5 _ (by omega) (by omega), o 0 0 (by omega) (by omega)]; exact wd x hx
  · rw [o 5 _ (by omega) (by omega), o 4 _ (by omega) (by omega)]; exact q2 x
  · rw [sumN_congr (f := swR R l 5) (g := R 5) (fun i _ => o 5 _ (by omega) (by omega)), sumN_congr (f := swR R l 4) (g := R 4) (fun i _ => o 4 _ (by omega) (by omega))]; exact q3
  · have e : cg (swR R l) q t = cg R q t := sumL_congr _ (fun x _ => by rw [o 8 _ (by omega) (by omega)])
    rw [e] at ht ⊢
    rw [o 0 0 (by omega) (by omega)]
    exact q5 t ht
theorem SOK_app {S : aSt} {x : Nat} (hS : SOK S) : SOK (oApp S x).2.2 := by
  unfold oApp
  split
  · exact hS
  · split
    · exact hS
    · rename_i h1 h2
      refine ⟨hS.1, hS.2.1, hS.2.2.1, ?_, fun y hy => ?_⟩
      · have := hS.2.2.2.1
        show (S.2.2 ++ [x]).length ≤ 60
        rw [List.length_append, List.length_singleton]
        omega
      · rcases List.mem_append.mp hy with z | z
        · exact hS.2.2.2.2 y z
        · rw [List.mem_singleton.mp z]
          omega
theorem SOK_clr {S : aSt} (hS : SOK S) : SOK (oClr S).2.2 := ⟨hS.1, hS.2.1, hS.2.2.1, by simp [oClr], fun x hx => by simp [oClr] at hx⟩
theorem SOK_add {S : aSt} (hS : SOK S) : SOK (oAdd S).2.2 := by
  unfold oAdd
  cases hp : (pH S.2.2).2 with
  | none => exact hS
  | some s =>
    dsimp only
    split
    · rename_i he
      split
      · exact hS
      · rename_i h6
        obtain ⟨a1, a2, a3, a4⟩ := hEnd_all (pH_HB _ _ _ HB_0 hp) he
        have h0 := hS.1.1.1.1.1
        have hw := WF_add (l := s.2.reverse) hS.1.1 (by omega) (by rw [List.length_reverse]; exact a3) (fun e he => (a4 e (List.mem_reverse.mp he)).2)
        refine ⟨⟨hw, ?_⟩, (SOK_push hS).1, (SOK_push hS).2, by simp, fun x hx => by simp at hx⟩
        show ahR S.1.1 s.2.reverse 0 0 ≤ 1000
        unfold ahR
        rw [up2_o (by omega), up2_o (by omega), ahX_o (by omega) (by omega)]
        exact hS.1.2
    · exact hS
theorem SOK_wnd {S : aSt} (hS : SOK S) : SOK (oWnd S).2.2 := by
  unfold oWnd
  cases hp : (pW S.2.2).2 with
  | none => exact hS
  | some s =>
    dsimp only
    split
    · rename_i he
      split
      · exact hS
      · rename_i h6
        obtain ⟨a1, a2, a3, a4⟩ := wEnd_all (pW_WB _ _ _ 0 WB_0 hp) he
        have ht : 1 ≤ tot s.2.reverse := by
          obtain ⟨e, l, hl⟩ := List.exists_cons_of_length_pos (l := s.2.reverse) (by rw [List.length_reverse]; omega)
          have he1 := a4 e (List.mem_reverse.mp (by rw [hl]; exact List.mem_cons_self))
          rw [hl]
          show 1 ≤ e.2 + tot l
          omega
        have hw := WF_wnd (l := s.2.reverse) hS.1.1 ht (by omega) (fun e he => (a4 e (List.mem_reverse.mp he)).2.1)
        refine ⟨⟨hw, ?_⟩, (SOK_push hS).1, (SOK_push hS).2, by simp, fun x hx => by simp at hx⟩
        show swR S.1.1 s.2.reverse 0 0 ≤ 1000
        unfold swR
        rw [up2_o (by omega), swX_o (by omega)]
        exact hS.1.2
    · exact hS
