/-! the reference: the buffer, houses and winds taken from it -/
def pH (tx : List Nat) : Nat × Option aP2 := pF hS tx (0, [])
def pW (tx : List Nat) : Nat × Option aP2 := pF wS tx (0, [])
def hEnd (s : aP2) : Bool := match s with | (2, (_, p) :: _) => Nat.ble 1 p | _ => false
def wEnd (s : aP2) : Bool := match s with | (1, _) => true | (2, (_, t) :: _) => Nat.ble 2 t | _ => false
def ahX (h : Nat) : List (Nat × Nat) → Nat → aY → aY
  | [], _, R => R
  | e :: l, i, R => ahX h l (i + 1) (up2 (up2 R 6 (h * 6 + i) e.1) 7 (h * 6 + i) e.2)
def skX (v : Nat) : Nat → Nat → aY → aY
  | 0, _, R => R
  | k + 1, l, R => skX v k (l + 1) (up2 R 1 l v)
def swX : List (Nat × Nat) → Nat → aY → aY
  | [], _, R => R
  | e :: l, p, R => swX l (p + e.2) (skX e.1 e.2 p R)
def tot (l : List (Nat × Nat)) : Nat := sumL id (l.map Prod.snd)
def ahR (R : aY) (l : List (Nat × Nat)) : aY := up2 (up2 (ahX (R 0 1) l 0 R) 3 (R 0 1) l.length) 0 1 (R 0 1 + 1)
def swR (R : aY) (l : List (Nat × Nat)) : aY := up2 (swX l 0 R) 0 2 (tot l)
def oApp (S : aSt) (x : Nat) : Nat × Nat × aSt := if x < 33 ∨ 126 < x then (1, 0, S) else if S.2.2.length = 60 then (2, 0, S) else (0, S.2.2.length + 1, S.1, S.2.1, S.2.2 ++ [x])
def oClr (S : aSt) : Nat × Nat × aSt := (0, S.2.2.length, S.1, S.2.1, [])
def oFst (S : aSt) (h : Nat) : Nat × Nat × aSt := (0, (if h = 0 then (pW S.2.2).1 else (pH S.2.2).1), S)
def oAdd (S : aSt) : Nat × Nat × aSt :=
  match (pH S.2.2).2 with
  | none => (1, 0, S)
  | some s => if hEnd s = true then (if S.1.1 0 1 = 6 then (2, 0, S) else (0, S.1.1 0 1, (ahR S.1.1 s.2.reverse, S.1.2), push S.2.1 S.1, [])) else (1, 0, S)
def oWnd (S : aSt) : Nat × Nat × aSt :=
  match (pW S.2.2).2 with
  | none => (1, 0, S)
  | some s => if wEnd s = true then (if 60 < tot s.2.reverse then (2, 0, S) else (0, tot s.2.reverse, (swR S.1.1 s.2.reverse, S.1.2), push S.2.1 S.1, [])) else (1, 0, S)
theorem pF_le {f : Nat → aP2 → Option aP2} : ∀ (l : List Nat) (s : aP2), (pF f l s).1 ≤ l.length ∧ ((pF f l s).1 = l.length ↔ (pF f l s).2.isSome = true)
  | [], s => ⟨Nat.le_refl _, ⟨fun _ => rfl, fun _ => rfl⟩⟩
  | x :: l, s => by
    unfold pF
    cases h : f x s with
    | none => exact ⟨Nat.zero_le _, ⟨fun w => by simp at w, fun w => by simp at w⟩⟩
    | some s' =>
      obtain ⟨a, b⟩ := pF_le (f := f) l s'
      dsimp only
      rw [List.length_cons]
      exact ⟨by omega, ⟨fun w => b.mp (by omega), fun w => by have := b.mpr w; omega⟩⟩
theorem pH_HB : ∀ (l : List Nat) (s s' : aP2), HB s → (pF hS l s).2 = some s' → HB s'
  | [], s, s', h, e => by cases e; exact h
  | x :: l, s, s', h, e => by
    unfold pF at e
    cases h1 : hS x s with
    | none => rw [h1] at e; cases e
    | some s1 =>
      rw [h1] at e
      exact pH_HB l s1 s' (HB_step h h1) e
theorem pW_WB : ∀ (l : List Nat) (s s' : aP2) (k : Nat), WB s k → (pF wS l s).2 = some s' → WB s' (k + l.length)
  | [], s, s', k, h, e => by cases e; exact h
  | x :: l, s, s', k, h, e => by
    unfold pF at e
    cases h1 : wS x s with
    | none => rw [h1] at e; cases e
    | some s1 =>
      rw [h1] at e
      have := pW_WB l s1 s' (k + 1) (WB_step h h1) e
      rw [List.length_cons, show k + (l.length + 1) = k + 1 + l.length by omega]
      exact this
theorem HB_0 : HB (0, []) := ⟨by simp, by simp, by simp, fun _ => ⟨by simp, by simp⟩, fun z => absurd rfl z⟩
theorem WB_0 : WB (0, []) 0 := ⟨by simp, by simp, fun _ => ⟨by simp, by simp⟩, fun z => absurd rfl z⟩
theorem TF_tr {N N1 N2 : Nat → Nat → Nat} (h1 : TF N N1) (h2 : TF N1 N2) : TF N N2 := ⟨fun a x y z => (h2.1 a x y z).trans (h1.1 a x y z), fun j x y => (h2.2 j x y).trans (h1.2 j x y)⟩
theorem TF_MV {N N' : Nat → Nat → Nat} {R : aY} {q : List Nat} {sv : List (aY × List Nat)} {tx : List Nat} {g : Nat} (h : MV N R q sv tx g) (ht : TF N N') : MV N' R q sv tx g :=
  MV_up h (by rw [ht.1 145 (by omega) (by omega) (by omega)]; exact h.1) (Nat.le_refl _) (ht.2 9 (by omega) (by omega)) (ht.2 10 (by omega) (by omega)) (ht.1 147 (by omega) (by omega) (by omega)) (ht.1 148 (by omega) (by omega) (by omega))
theorem MV_tx {N N' : Nat → Nat → Nat} {R : aY} {q : List Nat} {sv : List (aY × List Nat)} {tx tx' : List Nat} {g : Nat} (h : MV N R q sv tx g) (h145 : N' 145 = N 145) (h9 : N' 144 9 = N 144 9) (h147 : N' 147 = N 147) (h10 : N' 144 10 = tx'.length) (h148 : AtL (N' 148) tx') : MV N' R q sv tx' g :=
  ⟨by rw [h145]; exact h.1, by rw [h9]; exact h.2.1, fun k s hk => by rw [h147]; exact h.2.2.1 k s hk, h10, h148⟩
section Mx
variable {Z : aZ} {N : Nat → Nat → Nat} {L : Nat → Nat → Int64} {c : Nat × Nat}
theorem s_mReadH {n : Nat} (hM : MAt Z) (hn : n ≤ 60) : ∀ (rs : List Nat) (k : Nat) (s : aP2) (N : Nat → Nat → Nat), k + rs.length = n → N 144 10 = n → (∀ i x, rs[i]? = some x → N 148 (k + i) = x) → (∀ x ∈ rs, x < 1000) → HM N s → HB s →
    ∃ N', ex 149 12 [some (.ref 144), some (.int (nI 1)), some (.int (nI k))] [] (Z, iN N, L, c) = some (.inl (some (.int (nI (k + (pF hS rs s).1)))), (Z, iN N', L, c)) ∧ (∀ s', (pF hS rs s).2 = some s' → HM N' s') ∧ TF N N'
  | [], k, s, N, h1, h10, _, _, hm, _ => by
    have e : k = n := by simpa using h1
    subst e
    refine ⟨N, ?_, fun s' hs => by cases hs; exact hm, fun _ _ _ _ => rfl, fun _ _ _ => rfl⟩
    simp (disch := omega) only [r_X8_read_0, r_X8_read_1, r_X8_read_2, r_X8_read_5, r_X8_read_6, r_X8_read_7, r_X8_read_10, r_X8_read_11, r_X8_read_12, r_X8_read_13, r_X8_read_14, r_X8_read_17, r_X8_read_20, r_X8_read_21, r_X8_read_24, r_X8_read_25, r_X8_read_26, r_X8_read_29, r_X8_read_30, r_X8_read_31, r_X8_read_34, r_X8_read_37, r_X8_read_40, r_X8_read_41, r_X8_read_42, r_X8_read_45, r_X8_read_46, r_X8_read_47, r_X8_read_50, r_X8_read_53, r_X8_read_56, r_X8_read_59, r_X8_read_60, hM.1.1, @id (Z.2.2.1 144 0 = .ref 145) hM.1.2.1, @id (Z.2.2.1 144 1 = .ref 146) hM.1.2.2.1, @id (Z.2.2.1 144 2 = .ref 147) hM.1.2.2.2.1, @id (Z.2.2.1 144 3 = .ref 148) hM.1.2.2.2.2.1, @id (Z.2.2.1 144 4 = .ref 149) hM.1.2.2.2.2.2.1, @id (Z.2.2.1 144 5 = .ref 150) hM.1.2.2.2.2.2.2.1, @id (Z.2.2.1 144 6 = .ref 151) hM.1.2.2.2.2.2.2.2, @id (Z.1 145 = 0) hM.2.1.1, @id (Z.1 146 = 0) hM.2.1.2.1, @id (Z.1 147 = 0) hM.2.1.2.2.1, @id (Z.1 148 = 0) hM.2.1.2.2.2.1, @id (Z.1 149 = 0) hM.2.1.2.2.2.2.1, @id (Z.1 150 = 0) hM.2.1.2.2.2.2.2.1, @id (Z.1 151 = 0) hM.2.1.2.2.2.2.2.2, @id (Z.2.1 145 = 667) hM.2.2.1, @id (Z.2.1 146 = 667) hM.2.2.2.1, @id (Z.2.1 147 = 4002) hM.2.2.2.2.1, @id (Z.2.1 148 = 60) hM.2.2.2.2.2.1, @id (Z.2.1 149 = 32) hM.2.2.2.2.2.2.1, @id (Z.2.1 150 = 32) hM.2.2.2.2.2.2.2.1, @id (Z.2.1 151 = 36) hM.2.2.2.2.2.2.2.2, up2_o, up2_e, iN_ap, iN_up, i_ix, i_inb, i_lt, i_lt0, i_0lt, i_eq, i_ne0, i_00, i_11, i_01, i_10, i_b, i_rem2, n_rem, i_add, i_mul, i_sub, i_div, i_max, i_min, rdk_0, rdk_3, kp_none, kp_int, kp_ref, kp_long, kp_double, aK_v, aK_0, aK_ite, if_true, if_false, and_self, and_true, true_and, or_false, false_or, not_true_eq_false, not_false_eq_true, ite_self, ↓reduceIte, h10, Nat.lt_irrefl]
    rfl
  | x :: rs, k, s, N, h1, h10, ha, hx, hm, hb => by
    have e : k < n := by simp at h1; omega
    have hx1 := hx x List.mem_cons_self
    have e0 : N 148 k = x := ha 0 x rfl
    obtain ⟨N1, t1, t2, t3⟩ := s_mTH (L := L) (c := c) hM hx1 hm hb
    unfold pF
    cases hs : hS x s with
    | none =>
      rw [hs] at t1
      refine ⟨N1, ?_, fun s' z => (by cases z), t3⟩
      have t1 : ex 147 0 [some (.ref 144), some (.int (nI x)), none, none] [] (Z, iN N, L, c) = some (.inl (some (.int (nI 0))), (Z, iN N1, L, c)) := t1
      rw [r_X8_read_12]
      simp (disch := omega) only [r_X8_read_0, r_X8_read_1, r_X8_read_2, r_X8_read_5, r_X8_read_6, r_X8_read_7, r_X8_read_10, r_X8_read_11, r_X8_read_13, r_X8_read_14, r_X8_read_17, r_X8_read_20, r_X8_read_21, r_X8_read_24, r_X8_read_25, r_X8_read_26, r_X8_read_29, r_X8_read_30, r_X8_read_31, r_X8_read_34, r_X8_read_37, r_X8_read_40, r_X8_read_41, r_X8_read_42, r_X8_read_45, r_X8_read_46, r_X8_read_47, r_X8_read_50, r_X8_read_53, r_X8_read_56, r_X8_read_59, r_X8_read_60, hM.1.1, @id (Z.2.2.1 144 0 = .ref 145) hM.1.2.1, @id (Z.2.2.1 144 1 = .ref 146) hM.1.2.2.1, @id (Z.2.2.1 144 2 = .ref 147) hM.1.2.2.2.1, @id (Z.2.2.1 144 3 = .ref 148) hM.1.2.2.2.2.1, @id (Z.2.2.1 144 4 = .ref 149) hM.1.2.2.2.2.2.1, @id (Z.2.2.1 144 5 = .ref 150) hM.1.2.2.2.2.2.2.1, @id (Z.2.2.1 144 6 = .ref 151) hM.1.2.2.2.2.2.2.2, @id (Z.1 145 = 0) hM.2.1.1, @id (Z.1 146 = 0) hM.2.1.2.1, @id (Z.1 147 = 0) hM.2.1.2.2.1, @id (Z.1 148 = 0) hM.2.1.2.2.2.1, @id (Z.1 149 = 0) hM.2.1.2.2.2.2.1, @id (Z.1 150 = 0) hM.2.1.2.2.2.2.2.1, @id (Z.1 151 = 0) hM.2.1.2.2.2.2.2.2, @id (Z.2.1 145 = 667) hM.2.2.1, @id (Z.2.1 146 = 667) hM.2.2.2.1, @id (Z.2.1 147 = 4002) hM.2.2.2.2.1, @id (Z.2.1 148 = 60) hM.2.2.2.2.2.1, @id (Z.2.1 149 = 32) hM.2.2.2.2.2.2.1, @id (Z.2.1 150 = 32) hM.2.2.2.2.2.2.2.1, @id (Z.2.1 151 = 36) hM.2.2.2.2.2.2.2.2, up2_o, up2_e, iN_ap, iN_up, i_ix, i_inb, i_lt, i_lt0, i_0lt, i_eq, i_ne0, i_00, i_11, i_01, i_10, i_b, i_rem2, n_rem, i_add, i_mul, i_sub, i_div, i_max, i_min, rdk_0, rdk_3, kp_none, kp_int, kp_ref, kp_long, kp_double, aK_v, aK_0, aK_ite, if_true, if_false, and_self, and_true, true_and, or_false, false_or, not_true_eq_false, not_false_eq_true, ite_self, ↓reduceIte, h10, e, e0, t1, Nat.add_zero]
    | some s1 =>
      rw [hs] at t1
      have t1 : ex 147 0 [some (.ref 144), some (.int (nI x)), none, none] [] (Z, iN N, L, c) = some (.inl (some (.int (nI 1))), (Z, iN N1, L, c)) := t1
      obtain ⟨N', ih, h2, h3⟩ := s_mReadH hM hn rs (k + 1) s1 N1 (by simp at h1; omega) (by rw [t3.2 10 (by omega) (by omega)]; exact h10) (fun i y hy => by
        rw [t3.1 148 (by omega) (by omega) (by omega), show k + 1 + i = k + (i + 1) by omega]
        exact ha (i + 1) y hy) (fun y hy => hx y (List.mem_cons_of_mem _ hy)) (t2 s1 hs) (HB_step hb hs)
      refine ⟨N', ?_, h2, TF_tr t3 h3⟩
      rw [show k + 1 + (pF hS rs s1).1 = k + ((pF hS rs s1).1 + 1) by omega] at ih
      rw [r_X8_read_12]
      simp (disch := omega) only [r_X8_read_0, r_X8_read_1, r_X8_read_2, r_X8_read_5, r_X8_read_6, r_X8_read_7, r_X8_read_10, r_X8_read_11, r_X8_read_13, r_X8_read_14, r_X8_read_17, r_X8_read_20, r_X8_read_21, r_X8_read_24, r_X8_read_25, r_X8_read_26, r_X8_read_29, r_X8_read_30, r_X8_read_31, r_X8_read_34, r_X8_read_37, r_X8_read_40, r_X8_read_41, r_X8_read_42, r_X8_read_45, r_X8_read_46, r_X8_read_47, r_X8_read_50, r_X8_read_53, r_X8_read_56, r_X8_read_59, r_X8_read_60, hM.1.1, @id (Z.2.2.1 144 0 = .ref 145) hM.1.2.1, @id (Z.2.2.1 144 1 = .ref 146) hM.1.2.2.1, @id (Z.2.2.1 144 2 = .ref 147) hM.1.2.2.2.1, @id (Z.2.2.1 144 3 = .ref 148) hM.1.2.2.2.2.1, @id (Z.2.2.1 144 4 = .ref 149) hM.1.2.2.2.2.2.1, @id (Z.2.2.1 144 5 = .ref 150) hM.1.2.2.2.2.2.2.1, @id (Z.2.2.1 144 6 = .ref 151) hM.1.2.2.2.2.2.2.2, @id (Z.1 145 = 0) hM.2.1.1, @id (Z.1 146 = 0) hM.2.1.2.1, @id (Z.1 147 = 0) hM.2.1.2.2.1, @id (Z.1 148 = 0) hM.2.1.2.2.2.1, @id (Z.1 149 = 0) hM.2.1.2.2.2.2.1, @id (Z.1 150 = 0) hM.2.1.2.2.2.2.2.1, @id (Z.1 151 = 0) hM.2.1.2.2.2.2.2.2, @id (Z.2.1 145 = 667) hM.2.2.1, @id (Z.2.1 146 = 667) hM.2.2.2.1, @id (Z.2.1 147 = 4002) hM.2.2.2.2.1, @id (Z.2.1 148 = 60) hM.2.2.2.2.2.1, @id (Z.2.1 149 = 32) hM.2.2.2.2.2.2.1, @id (Z.2.1 150 = 32) hM.2.2.2.2.2.2.2.1, @id (Z.2.1 151 = 36) hM.2.2.2.2.2.2.2.2, up2_o, up2_e, iN_ap, iN_up, i_ix, i_inb, i_lt, i_lt0, i_0lt, i_eq, i_ne0, i_00, i_11, i_01, i_10, i_b, i_rem2, n_rem, i_add, i_mul, i_sub, i_div, i_max, i_min, rdk_0, rdk_3, kp_none, kp_int, kp_ref, kp_long, kp_double, aK_v, aK_0, aK_ite, if_true, if_false, and_self, and_true, true_and, or_false, false_or, not_true_eq_false, not_false_eq_true, ite_self, ↓reduceIte, h10, e, e0, t1, ih]
theorem s_mReadW {n : Nat} (hM : MAt Z) (hn : n ≤ 60) : ∀ (rs : List Nat) (k : Nat) (s : aP2) (N : Nat → Nat → Nat), k + rs.length = n → N 144 10 = n → (∀ i x, rs[i]? = some x → N 148 (k + i) = x) → (∀ x ∈ rs, x < 1000) → WM N s → WB s k →
    ∃ N', ex 149 12 [some (.ref 144), some (.int (nI 0)), some (.int (nI k))] [] (Z, iN N, L, c) = some (.inl (some (.int (nI (k + (pF wS rs s).1)))), (Z, iN N', L, c)) ∧ (∀ s', (pF wS rs s).2 = some s' → WM N' s') ∧ TF N N'
  | [], k, s, N, h1, h10, _, _, hm, _ => by
    have e : k = n := by simpa using h1
    subst e
    refine ⟨N, ?_, fun s' hs => by cases hs; exact hm, fun _ _ _ _ => rfl, fun _ _ _ => rfl⟩
    simp (disch := omega) only [r_X8_read_0, r_X8_read_1, r_X8_read_2, r_X8_read_5, r_X8_read_6, r_X8_read_7, r_X8_read_10, r_X8_read_11, r_X8_read_12, r_X8_read_13, r_X8_read_14, r_X8_read_17, r_X8_read_20, r_X8_read_21, r_X8_read_24, r_X8_read_25, r_X8_read_26, r_X8_read_29, r_X8_read_30, r_X8_read_31, r_X8_read_34, r_X8_read_37, r_X8_read_40, r_X8_read_41, r_X8_read_42, r_X8_read_45, r_X8_read_46, r_X8_read_47, r_X8_read_50, r_X8_read_53, r_X8_read_56, r_X8_read_59, r_X8_read_60, hM.1.1, @id (Z.2.2.1 144 0 = .ref 145) hM.1.2.1, @id (Z.2.2.1 144 1 = .ref 146) hM.1.2.2.1, @id (Z.2.2.1 144 2 = .ref 147) hM.1.2.2.2.1, @id (Z.2.2.1 144 3 = .ref 148) hM.1.2.2.2.2.1, @id (Z.2.2.1 144 4 = .ref 149) hM.1.2.2.2.2.2.1, @id (Z.2.2.1 144 5 = .ref 150) hM.1.2.2.2.2.2.2.1, @id (Z.2.2.1 144 6 = .ref 151) hM.1.2.2.2.2.2.2.2, @id (Z.1 145 = 0) hM.2.1.1, @id (Z.1 146 = 0) hM.2.1.2.1, @id (Z.1 147 = 0) hM.2.1.2.2.1, @id (Z.1 148 = 0) hM.2.1.2.2.2.1, @id (Z.1 149 = 0) hM.2.1.2.2.2.2.1, @id (Z.1 150 = 0) hM.2.1.2.2.2.2.2.1, @id (Z.1 151 = 0) hM.2.1.2.2.2.2.2.2, @id (Z.2.1 145 = 667) hM.2.2.1, @id (Z.2.1 146 = 667) hM.2.2.2.1, @id (Z.2.1 147 = 4002) hM.2.2.2.2.1, @id (Z.2.1 148 = 60) hM.2.2.2.2.2.1, @id (Z.2.1 149 = 32) hM.2.2.2.2.2.2.1, @id (Z.2.1 150 = 32) hM.2.2.2.2.2.2.2.1, @id (Z.2.1 151 = 36) hM.2.2.2.2.2.2.2.2, up2_o, up2_e, iN_ap, iN_up, i_ix, i_inb, i_lt, i_lt0, i_0lt, i_eq, i_ne0, i_00, i_11, i_01, i_10, i_b, i_rem2, n_rem, i_add, i_mul, i_sub, i_div, i_max, i_min, rdk_0, rdk_3, kp_none, kp_int, kp_ref, kp_long, kp_double, aK_v, aK_0, aK_ite, if_true, if_false, and_self, and_true, true_and, or_false, false_or, not_true_eq_false, not_false_eq_true, ite_self, ↓reduceIte, h10, Nat.lt_irrefl]
    rfl
  | x :: rs, k, s, N, h1, h10, ha, hx, hm, hb => by
    have e : k < n := by simp at h1; omega
    have hx1 := hx x List.mem_cons_self
    have e0 : N 148 k = x := ha 0 x rfl
    obtain ⟨N1, t1, t2, t3⟩ := s_mTW (L := L) (c := c) hM hx1 hm hb (by omega)
    unfold pF
    cases hs : wS x s with
    | none =>
      rw [hs] at t1
      refine ⟨N1, ?_, fun s' z => (by cases z), t3⟩
      have t1 : ex 148 0 [some (.ref 144), some (.int (nI x)), none, none] [] (Z, iN N, L, c) = some (.inl (some (.int (nI 0))), (Z, iN N1, L, c)) := t1
      rw [r_X8_read_12]
      simp (disch := omega) only [r_X8_read_0, r_X8_read_1, r_X8_read_2, r_X8_read_5, r_X8_read_6, r_X8_read_7, r_X8_read_10, r_X8_read_11, r_X8_read_13, r_X8_read_14, r_X8_read_17, r_X8_read_20, r_X8_read_21, r_X8_read_24, r_X8_read_25, r_X8_read_26, r_X8_read_29, r_X8_read_30, r_X8_read_31, r_X8_read_34, r_X8_read_37, r_X8_read_40, r_X8_read_41, r_X8_read_42, r_X8_read_45, r_X8_read_46, r_X8_read_47, r_X8_read_50, r_X8_read_53, r_X8_read_56, r_X8_read_59, r_X8_read_60, hM.1.1, @id (Z.2.2.1 144 0 = .ref 145) hM.1.2.1, @id (Z.2.2.1 144 1 = .ref 146) hM.1.2.2.1, @id (Z.2.2.1 144 2 = .ref 147) hM.1.2.2.2.1, @id (Z.2.2.1 144 3 = .ref 148) hM.1.2.2.2.2.1, @id (Z.2.2.1 144 4 = .ref 149) hM.1.2.2.2.2.2.1, @id (Z.2.2.1 144 5 = .ref 150) hM.1.2.2.2.2.2.2.1, @id (Z.2.2.1 144 6 = .ref 151) hM.1.2.2.2.2.2.2.2, @id (Z.1 145 = 0) hM.2.1.1, @id (Z.1 146 = 0) hM.2.1.2.1, @id (Z.1 147 = 0) hM.2.1.2.2.1, @id (Z.1 148 = 0) hM.2.1.2.2.2.1, @id (Z.1 149 = 0) hM.2.1.2.2.2.2.1, @id (Z.1 150 = 0) hM.2.1.2.2.2.2.2.1, @id (Z.1 151 = 0) hM.2.1.2.2.2.2.2.2, @id (Z.2.1 145 = 667) hM.2.2.1, @id (Z.2.1 146 = 667) hM.2.2.2.1, @id (Z.2.1 147 = 4002) hM.2.2.2.2.1, @id (Z.2.1 148 = 60) hM.2.2.2.2.2.1, @id (Z.2.1 149 = 32) hM.2.2.2.2.2.2.1, @id (Z.2.1 150 = 32) hM.2.2.2.2.2.2.2.1, @id (Z.2.1 151 = 36) hM.2.2.2.2.2.2.2.2, up2_o, up2_e, iN_ap, iN_up, i_ix, i_inb, i_lt, i_lt0, i_0lt, i_eq, i_ne0, i_00, i_11, i_01, i_10, i_b, i_rem2, n_rem, i_add, i_mul, i_sub, i_div, i_max, i_min, rdk_0, rdk_3, kp_none, kp_int, kp_ref, kp_long, kp_double, aK_v, aK_0, aK_ite, if_true, if_false, and_self, and_true, true_and, or_false, false_or, not_true_eq_false, not_false_eq_true, ite_self, ↓reduceIte, h10, e, e0, t1, Nat.add_zero]
    | some s1 =>
      rw [hs] at t1
      have t1 : ex 148 0 [some (.ref 144), some (.int (nI x)), none, none] [] (Z, iN N, L, c) = some (.inl (some (.int (nI 1))), (Z, iN N1, L, c)) := t1
      obtain ⟨N', ih, h2, h3⟩ := s_mReadW hM hn rs (k + 1) s1 N1 (by simp at h1; omega) (by rw [t3.2 10 (by omega) (by omega)]; exact h10) (fun i y hy => by
        rw [t3.1 148 (by omega) (by omega) (by omega), show k + 1 + i = k + (i + 1) by omega]
        exact ha (i + 1) y hy) (fun y hy => hx y (List.mem_cons_of_mem _ hy)) (t2 s1 hs) (WB_step hb hs)
      refine ⟨N', ?_, h2, TF_tr t3 h3⟩
      rw [show k + 1 + (pF wS rs s1).1 = k + ((pF wS rs s1).1 + 1) by omega] at ih
      rw [r_X8_read_12]
      simp (disch := omega) only [r_X8_read_0, r_X8_read_1, r_X8_read_2, r_X8_read_5, r_X8_read_6, r_X8_read_7, r_X8_read_10, r_X8_read_11, r_X8_read_13, r_X8_read_14, r_X8_read_17, r_X8_read_20, r_X8_read_21, r_X8_read_24, r_X8_read_25, r_X8_read_26, r_X8_read_29, r_X8_read_30, r_X8_read_31, r_X8_read_34, r_X8_read_37, r_X8_read_40, r_X8_read_41, r_X8_read_42, r_X8_read_45, r_X8_read_46, r_X8_read_47, r_X8_read_50, r_X8_read_53, r_X8_read_56, r_X8_read_59, r_X8_read_60, hM.1.1, @id (Z.2.2.1 144 0 = .ref 145) hM.1.2.1, @id (Z.2.2.1 144 1 = .ref 146) hM.1.2.2.1, @id (Z.2.2.1 144 2 = .ref 147) hM.1.2.2.2.1, @id (Z.2.2.1 144 3 = .ref 148) hM.1.2.2.2.2.1, @id (Z.2.2.1 144 4 = .ref 149) hM.1.2.2.2.2.2.1, @id (Z.2.2.1 144 5 = .ref 150) hM.1.2.2.2.2.2.2.1, @id (Z.2.2.1 144 6 = .ref 151) hM.1.2.2.2.2.2.2.2, @id (Z.1 145 = 0) hM.2.1.1, @id (Z.1 146 = 0) hM.2.1.2.1, @id (Z.1 147 = 0) hM.2.1.2.2.1, @id (Z.1 148 = 0) hM.2.1.2.2.2.1, @id (Z.1 149 = 0) hM.2.1.2.2.2.2.1, @id (Z.1 150 = 0) hM.2.1.2.2.2.2.2.1, @id (Z.1 151 = 0) hM.2.1.2.2.2.2.2.2, @id (Z.2.1 145 = 667) hM.2.2.1, @id (Z.2.1 146 = 667) hM.2.2.2.1, @id (Z.2.1 147 = 4002) hM.2.2.2.2.1, @id (Z.2.1 148 = 60) hM.2.2.2.2.2.1, @id (Z.2.1 149 = 32) hM.2.2.2.2.2.2.1, @id (Z.2.1 150 = 32) hM.2.2.2.2.2.2.2.1, @id (Z.2.1 151 = 36) hM.2.2.2.2.2.2.2.2, up2_o, up2_e, iN_ap, iN_up, i_ix, i_inb, i_lt, i_lt0, i_0lt, i_eq, i_ne0, i_00, i_11, i_01, i_10, i_b, i_rem2, n_rem, i_add, i_mul, i_sub, i_div, i_max, i_min, rdk_0, rdk_3, kp_none, kp_int, kp_ref, kp_long, kp_double, aK_v, aK_0, aK_ite, if_true, if_false, and_self, and_true, true_and, or_false, false_or, not_true_eq_false, not_false_eq_true, ite_self, ↓reduceIte, h10, e, e0, t1, ih]
theorem TF_00 {N : Nat → Nat → Nat} : TF N (up2 (up2 N 144 8 0) 144 7 0) := ⟨fun a h _ _ => by rw [up144 h, up144 h], fun j h1 h2 => by rw [up2_o (by omega), up2_o (by omega)]⟩
theorem s_mReadHouse {tx : List Nat} (hM : MAt Z) (hl : tx.length ≤ 60) (h10 : N 144 10 = tx.length) (ha : AtL (N 148) tx) (hx : ∀ x ∈ tx, x < 1000) :
    ∃ N', ex 149 0 [some (.ref 144), some (.int (nI 1)), none] [] (Z, iN N, L, c) = some (.inl (some (.int (nI (pH tx).1))), (Z, iN N', L, c)) ∧ (∀ s', (pH tx).2 = some s' → HM N' s') ∧ TF N N' := by
  obtain ⟨N', h1, h2, h3⟩ := s_mReadH (L := L) (c := c) hM hl tx 0 (0, []) (up2 (up2 N 144 8 0) 144 7 0) (by omega) (by rw [up2_o (by omega), up2_o (by omega)]; exact h10) (fun i x hi => by rw [Nat.zero_add, up144 (by omega), up144 (by omega)]; exact ha i x hi) hx ⟨fun i e he => by simp at he, fun _ => ⟨by rw [up2_o (by omega), up2_e ⟨rfl, rfl⟩], up2_e ⟨rfl, rfl⟩⟩, fun z => absurd rfl z, fun z => by simp at z, fun z => by simp at z⟩ HB_0
  refine ⟨N', ?_, h2, TF_tr TF_00 h3⟩
  rw [Nat.zero_add] at h1
  simp (disch := omega) only [r_X8_read_0, r_X8_read_1, r_X8_read_2, r_X8_read_5, r_X8_read_6, r_X8_read_7, r_X8_read_10, r_X8_read_11, hM.1.1, @id (Z.2.2.1 144 0 = .ref 145) hM.1.2.1, @id (Z.2.2.1 144 1 = .ref 146) hM.1.2.2.1, @id (Z.2.2.1 144 2 = .ref 147) hM.1.2.2.2.1, @id (Z.2.2.1 144 3 = .ref 148) hM.1.2.2.2.2.1, @id (Z.2.2.1 144 4 = .ref 149) hM.1.2.2.2.2.2.1, @id (Z.2.2.1 144 5 = .ref 150) hM.1.2.2.2.2.2.2.1, @id (Z.2.2.1 144 6 = .ref 151) hM.1.2.2.2.2.2.2.2, @id (Z.1 145 = 0) hM.2.1.1, @id (Z.1 146 = 0) hM.2.1.2.1, @id (Z.1 147 = 0) hM.2.1.2.2.1, @id (Z.1 148 = 0) hM.2.1.2.2.2.1, @id (Z.1 149 = 0) hM.2.1.2.2.2.2.1, @id (Z.1 150 = 0) hM.2.1.2.2.2.2.2.1, @id (Z.1 151 = 0) hM.2.1.2.2.2.2.2.2, @id (Z.2.1 145 = 667) hM.2.2.1, @id (Z.2.1 146 = 667) hM.2.2.2.1, @id (Z.2.1 147 = 4002) hM.2.2.2.2.1, @id (Z.2.1 148 = 60) hM.2.2.2.2.2.1, @id (Z.2.1 149 = 32) hM.2.2.2.2.2.2.1, @id (Z.2.1 150 = 32) hM.2.2.2.2.2.2.2.1, @id (Z.2.1 151 = 36) hM.2.2.2.2.2.2.2.2, up2_o, up2_e, iN_ap, iN_up, i_ix, i_inb, i_lt, i_lt0, i_0lt, i_eq, i_ne0, i_00, i_11, i_01, i_10, i_b, i_rem2, n_rem, i_add, i_mul, i_sub, i_div, i_max, i_min, rdk_0, rdk_3, kp_none, kp_int, kp_ref, kp_long, kp_double, aK_v, aK_0, aK_ite, if_true, if_false, and_self, and_true, true_and, or_false, false_or, not_true_eq_false, not_false_eq_true, ite_self, ↓reduceIte, h1]
  rfl
theorem s_mReadWinds {tx : List Nat} (hM : MAt Z) (hl : tx.length ≤ 60) (h10 : N 144 10 = tx.length) (ha : AtL (N 148) tx) (hx : ∀ x ∈ tx, x < 1000) :
    ∃ N', ex 149 0 [some (.ref 144), some (.int (nI 0)), none] [] (Z, iN N, L, c) = some (.inl (some (.int (nI (pW tx).1))), (Z, iN N', L, c)) ∧ (∀ s', (pW tx).2 = some s' → WM N' s') ∧ TF N N' := by
  obtain ⟨N', h1, h2, h3⟩ := s_mReadW (L := L) (c := c) hM hl tx 0 (0, []) (up2 (up2 N 144 8 0) 144 7 0) (by omega) (by rw [up2_o (by omega), up2_o (by omega)]; exact h10) (fun i x hi => by rw [Nat.zero_add, up144 (by omega), up144 (by omega)]; exact ha i x hi) hx ⟨fun i e he => by simp at he, fun _ => ⟨by rw [up2_o (by omega), up2_e ⟨rfl, rfl⟩], up2_e ⟨rfl, rfl⟩⟩, fun z => absurd rfl z, fun z => by simp at z, fun z => by simp at z⟩ WB_0
  refine ⟨N', ?_, h2, TF_tr TF_00 h3⟩
  rw [Nat.zero_add] at h1
  simp (disch := omega) only [r_X8_read_0, r_X8_read_1, r_X8_read_2, r_X8_read_5, r_X8_read_6, r_X8_read_7, r_X8_read_10, r_X8_read_11, hM.1.1, @id (Z.2.2.1 144 0 = .ref 145) hM.1.2.1, @id (Z.2.2.1 144 1 = .ref 146) hM.1.2.2.1, @id (Z.2.2.1 144 2 = .ref 147) hM.1.2.2.2.1, @id (Z.2.2.1 144 3 = .ref 148) hM.1.2.2.2.2.1, @id (Z.2.2.1 144 4 = .ref 149) hM.1.2.2.2.2.2.1, @id (Z.2.2.1 144 5 = .ref 150) hM.1.2.2.2.2.2.2.1, @id (Z.2.2.1 144 6 = .ref 151) hM.1.2.2.2.2.2.2.2, @id (Z.1 145 = 0) hM.2.1.1, @id (Z.1 146 = 0) hM.2.1.2.1, @id (Z.1 147 = 0) hM.2.1.2.2.1, @id (Z.1 148 = 0) hM.2.1.2.2.2.1, @id (Z.1 149 = 0) hM.2.1.2.2.2.2.1, @id (Z.1 150 = 0) hM.2.1.2.2.2.2.2.1, @id (Z.1 151 = 0) hM.2.1.2.2.2.2.2.2, @id (Z.2.1 145 = 667) hM.2.2.1, @id (Z.2.1 146 = 667) hM.2.2.2.1, @id (Z.2.1 147 = 4002) hM.2.2.2.2.1, @id (Z.2.1 148 = 60) hM.2.2.2.2.2.1, @id (Z.2.1 149 = 32) hM.2.2.2.2.2.2.1, @id (Z.2.1 150 = 32) hM.2.2.2.2.2.2.2.1, @id (Z.2.1 151 = 36) hM.2.2.2.2.2.2.2.2, up2_o, up2_e, iN_ap, iN_up, i_ix, i_inb, i_lt, i_lt0, i_0lt, i_eq, i_ne0, i_00, i_11, i_01, i_10, i_b, i_rem2, n_rem, i_add, i_mul, i_sub, i_div, i_max, i_min, rdk_0, rdk_3, kp_none, kp_int, kp_ref, kp_long, kp_double, aK_v, aK_0, aK_ite, if_true, if_false, and_self, and_true, true_and, or_false, false_or, not_true_eq_false, not_false_eq_true, ite_self, ↓reduceIte, h1]
  rfl
theorem s_mAppend {S : aSt} {g x : Nat} (hM : MAt Z) (hO : MO N S g) (hl : S.2.2.length ≤ 60) (hx : x < 4294967296) :
    MR Z L c N g (ex 143 0 [some (.ref 144), some (.int (nI x))] [] (Z, iN N, L, c)) (oApp S x) := by
  obtain ⟨⟨R, q⟩, sv, tx⟩ := S
  obtain ⟨N0, hN0⟩ : ∃ N0, N0 = up2 N 144 11 0 := ⟨_, rfl⟩
  have hO0 := MO_thr (j := 11) (v := 0) hO (by omega)
  have hF := fun k => MR_fail (Z := Z) (L := L) (c := c) (k := k) hO
  rw [← hN0] at hO0 hF
  dsimp only at hl
  have h10 : N0 144 10 = tx.length := hO0.1.2.2.2.1
  unfold oApp
  dsimp only
  rw [r_X8_append_0, r_X8_append_1, r_X8_append_2, if_pos hM.1.1, iN_up, ← hN0]
  have hw := w_v (v := x) (lo := 33) (hi := 126) (h := (Z, iN N0, L, c)) hx (by omega) (by omega)
  by_cases q1 : x < 33 ∨ 126 < x
  · rw [if_pos q1] at hw ⊢
    simp (disch := omega) only [r_X8_append_5, r_X8_append_6, r_X8_append_8, r_X8_append_10, r_X8_append_13, r_X8_append_16, r_X8_append_17, r_X8_append_18, r_X8_append_21, r_X8_append_22, r_X8_append_23, r_X8_append_26, r_X8_append_28, r_X8_append_31, r_X8_append_32, r_X8_append_33, r_X8_append_36, r_X8_append_37, r_X8_append_38, r_X8_append_41, r_X8_append_42, r_X8_append_45, r_X8_append_46, r_X8_append_47, r_X8_append_48, r_X8_append_49, r_X8_append_52, r_X8_append_53, r_X8_append_54, r_X8_append_57, r_X8_append_58, r_X8_append_61, hM.1.1, @id (Z.2.2.1 144 0 = .ref 145) hM.1.2.1, @id (Z.2.2.1 144 1 = .ref 146) hM.1.2.2.1, @id (Z.2.2.1 144 2 = .ref 147) hM.1.2.2.2.1, @id (Z.2.2.1 144 3 = .ref 148) hM.1.2.2.2.2.1, @id (Z.2.2.1 144 4 = .ref 149) hM.1.2.2.2.2.2.1, @id (Z.2.2.1 144 5 = .ref 150) hM.1.2.2.2.2.2.2.1, @id (Z.2.2.1 144 6 = .ref 151) hM.1.2.2.2.2.2.2.2, @id (Z.1 145 = 0) hM.2.1.1, @id (Z.1 146 = 0) hM.2.1.2.1, @id (Z.1 147 = 0) hM.2.1.2.2.1, @id (Z.1 148 = 0) hM.2.1.2.2.2.1, @id (Z.1 149 = 0) hM.2.1.2.2.2.2.1, @id (Z.1 150 = 0) hM.2.1.2.2.2.2.2.1, @id (Z.1 151 = 0) hM.2.1.2.2.2.2.2.2, @id (Z.2.1 145 = 667) hM.2.2.1, @id (Z.2.1 146 = 667) hM.2.2.2.1, @id (Z.2.1 147 = 4002) hM.2.2.2.2.1, @id (Z.2.1 148 = 60) hM.2.2.2.2.2.1, @id (Z.2.1 149 = 32) hM.2.2.2.2.2.2.1, @id (Z.2.1 150 = 32) hM.2.2.2.2.2.2.2.1, @id (Z.2.1 151 = 36) hM.2.2.2.2.2.2.2.2, up2_o, up2_e, iN_ap, iN_up, i_ix, i_inb, i_lt, i_lt0, i_0lt, i_eq, i_ne0, i_00, i_11, i_01, i_10, i_b, i_rem2, n_rem, i_add, i_mul, i_sub, i_div, i_max, i_min, rdk_0, rdk_3, kp_none, kp_int, kp_ref, kp_long, kp_double, aK_v, aK_0, aK_ite, if_true, if_false, and_self, and_true, true_and, or_false, false_or, not_true_eq_false, not_false_eq_true, ite_self, ↓reduceIte, hw, s_mFails hM]
    exact hF 1
  · rw [if_neg q1] at hw ⊢
    by_cases q2 : tx.length = 60
    · rw [if_pos q2]
      simp (disch := omega) only [r_X8_append_5, r_X8_append_6, r_X8_append_8, r_X8_append_10, r_X8_append_13, r_X8_append_16, r_X8_append_17, r_X8_append_18, r_X8_append_21, r_X8_append_22, r_X8_append_23, r_X8_append_26, r_X8_append_28, r_X8_append_31, r_X8_append_32, r_X8_append_33, r_X8_append_36, r_X8_append_37, r_X8_append_38, r_X8_append_41, r_X8_append_42, r_X8_append_45, r_X8_append_46, r_X8_append_47, r_X8_append_48, r_X8_append_49, r_X8_append_52, r_X8_append_53, r_X8_append_54, r_X8_append_57, r_X8_append_58, r_X8_append_61, hM.1.1, @id (Z.2.2.1 144 0 = .ref 145) hM.1.2.1, @id (Z.2.2.1 144 1 = .ref 146) hM.1.2.2.1, @id (Z.2.2.1 144 2 = .ref 147) hM.1.2.2.2.1, @id (Z.2.2.1 144 3 = .ref 148) hM.1.2.2.2.2.1, @id (Z.2.2.1 144 4 = .ref 149) hM.1.2.2.2.2.2.1, @id (Z.2.2.1 144 5 = .ref 150) hM.1.2.2.2.2.2.2.1, @id (Z.2.2.1 144 6 = .ref 151) hM.1.2.2.2.2.2.2.2, @id (Z.1 145 = 0) hM.2.1.1, @id (Z.1 146 = 0) hM.2.1.2.1, @id (Z.1 147 = 0) hM.2.1.2.2.1, @id (Z.1 148 = 0) hM.2.1.2.2.2.1, @id (Z.1 149 = 0) hM.2.1.2.2.2.2.1, @id (Z.1 150 = 0) hM.2.1.2.2.2.2.2.1, @id (Z.1 151 = 0) hM.2.1.2.2.2.2.2.2, @id (Z.2.1 145 = 667) hM.2.2.1, @id (Z.2.1 146 = 667) hM.2.2.2.1, @id (Z.2.1 147 = 4002) hM.2.2.2.2.1, @id (Z.2.1 148 = 60) hM.2.2.2.2.2.1, @id (Z.2.1 149 = 32) hM.2.2.2.2.2.2.1, @id (Z.2.1 150 = 32) hM.2.2.2.2.2.2.2.1, @id (Z.2.1 151 = 36) hM.2.2.2.2.2.2.2.2, up2_o, up2_e, iN_ap, iN_up, i_ix, i_inb, i_lt, i_lt0, i_0lt, i_eq, i_ne0, i_00, i_11, i_01, i_10, i_b, i_rem2, n_rem, i_add, i_mul, i_sub, i_div, i_max, i_min, rdk_0, rdk_3, kp_none, kp_int, kp_ref, kp_long, kp_double, aK_v, aK_0, aK_ite, if_true, if_false, and_self, and_true, true_and, or_false, false_or, not_true_eq_false, not_false_eq_true, ite_self, ↓reduceIte, hw, h10, q2, s_mFails hM]
      exact hF 2
    · rw [if_neg q2]
      refine ⟨up2 (up2 N0 148 tx.length x) 144 10 (tx.length + 1), ?_, ?_, ?_, fun a ha => ?_⟩
      · simp (disch := omega) only [r_X8_append_5, r_X8_append_6, r_X8_append_8, r_X8_append_10, r_X8_append_13, r_X8_append_16, r_X8_append_17, r_X8_append_18, r_X8_append_21, r_X8_append_22, r_X8_append_23, r_X8_append_26, r_X8_append_28, r_X8_append_31, r_X8_append_32, r_X8_append_33, r_X8_append_36, r_X8_append_37, r_X8_append_38, r_X8_append_41, r_X8_append_42, r_X8_append_45, r_X8_append_46, r_X8_append_47, r_X8_append_48, r_X8_append_49, r_X8_append_52, r_X8_append_53, r_X8_append_54, r_X8_append_57, r_X8_append_58, r_X8_append_61, hM.1.1, @id (Z.2.2.1 144 0 = .ref 145) hM.1.2.1, @id (Z.2.2.1 144 1 = .ref 146) hM.1.2.2.1, @id (Z.2.2.1 144 2 = .ref 147) hM.1.2.2.2.1, @id (Z.2.2.1 144 3 = .ref 148) hM.1.2.2.2.2.1, @id (Z.2.2.1 144 4 = .ref 149) hM.1.2.2.2.2.2.1, @id (Z.2.2.1 144 5 = .ref 150) hM.1.2.2.2.2.2.2.1, @id (Z.2.2.1 144 6 = .ref 151) hM.1.2.2.2.2.2.2.2, @id (Z.1 145 = 0) hM.2.1.1, @id (Z.1 146 = 0) hM.2.1.2.1, @id (Z.1 147 = 0) hM.2.1.2.2.1, @id (Z.1 148 = 0) hM.2.1.2.2.2.1, @id (Z.1 149 = 0) hM.2.1.2.2.2.2.1, @id (Z.1 150 = 0) hM.2.1.2.2.2.2.2.1, @id (Z.1 151 = 0) hM.2.1.2.2.2.2.2.2, @id (Z.2.1 145 = 667) hM.2.2.1, @id (Z.2.1 146 = 667) hM.2.2.2.1, @id (Z.2.1 147 = 4002) hM.2.2.2.2.1, @id (Z.2.1 148 = 60) hM.2.2.2.2.2.1, @id (Z.2.1 149 = 32) hM.2.2.2.2.2.2.1, @id (Z.2.1 150 = 32) hM.2.2.2.2.2.2.2.1, @id (Z.2.1 151 = 36) hM.2.2.2.2.2.2.2.2, up2_o, up2_e, iN_ap, iN_up, i_ix, i_inb, i_lt, i_lt0, i_0lt, i_eq, i_ne0, i_00, i_11, i_01, i_10, i_b, i_rem2, n_rem, i_add, i_mul, i_sub, i_div, i_max, i_min, rdk_0, rdk_3, kp_none, kp_int, kp_ref, kp_long, kp_double, aK_v, aK_0, aK_ite, if_true, if_false, and_self, and_true, true_and, or_false, false_or, not_true_eq_false, not_false_eq_true, ite_self, ↓reduceIte, hw, h10, i_eq, q2]
      · rw [up2_o (by omega), up2_o (by omega), hN0]
        exact up2_e ⟨rfl, rfl⟩
      · refine MV_le (MV_tx hO0.1 ?_ ?_ ?_ ?_ ?_)
        · funext i
          rw [up2_o (by omega), up2_o (by omega)]
        · rw [up2_o (by omega), up2_o (by omega)]
        · funext i
          rw [up2_o (by omega), up2_o (by omega)]
        · rw [up2_e ⟨rfl, rfl⟩]
          simp
        · refine AtL_app.mpr ⟨fun i y hy => ?_, ?_⟩
          · have := AtL_lt hy
            rw [up2_o (by omega), up2_o (by omega)]
            exact hO0.1.2.2.2.2 i y hy
          · rw [up2_o (by omega)]
            exact up2_e ⟨rfl, rfl⟩
      · funext i
        rw [up2_o (by omega), up2_o (by omega), hN0, up2_o (by omega)]
theorem s_mClear {S : aSt} {g : Nat} (hM : MAt Z) (hO : MO N S g) :
    MR Z L c N g (ex 144 0 [some (.ref 144), none] [] (Z, iN N, L, c)) (oClr S) := by
  obtain ⟨⟨R, q⟩, sv, tx⟩ := S
  have h10 : N 144 10 = tx.length := hO.1.2.2.2.1
  refine ⟨up2 (up2 N 144 11 0) 144 10 0, ?_, ?_, ?_, fun a ha => ?_⟩
  · simp (disch := omega) only [r_X8_clearBuffer_0, r_X8_clearBuffer_1, r_X8_clearBuffer_2, r_X8_clearBuffer_5, r_X8_clearBuffer_6, r_X8_clearBuffer_9, r_X8_clearBuffer_10, r_X8_clearBuffer_11, r_X8_clearBuffer_12, r_X8_clearBuffer_15, r_X8_clearBuffer_16, hM.1.1, @id (Z.2.2.1 144 0 = .ref 145) hM.1.2.1, @id (Z.2.2.1 144 1 = .ref 146) hM.1.2.2.1, @id (Z.2.2.1 144 2 = .ref 147) hM.1.2.2.2.1, @id (Z.2.2.1 144 3 = .ref 148) hM.1.2.2.2.2.1, @id (Z.2.2.1 144 4 = .ref 149) hM.1.2.2.2.2.2.1, @id (Z.2.2.1 144 5 = .ref 150) hM.1.2.2.2.2.2.2.1, @id (Z.2.2.1 144 6 = .ref 151) hM.1.2.2.2.2.2.2.2, @id (Z.1 145 = 0) hM.2.1.1, @id (Z.1 146 = 0) hM.2.1.2.1, @id (Z.1 147 = 0) hM.2.1.2.2.1, @id (Z.1 148 = 0) hM.2.1.2.2.2.1, @id (Z.1 149 = 0) hM.2.1.2.2.2.2.1, @id (Z.1 150 = 0) hM.2.1.2.2.2.2.2.1, @id (Z.1 151 = 0) hM.2.1.2.2.2.2.2.2, @id (Z.2.1 145 = 667) hM.2.2.1, @id (Z.2.1 146 = 667) hM.2.2.2.1, @id (Z.2.1 147 = 4002) hM.2.2.2.2.1, @id (Z.2.1 148 = 60) hM.2.2.2.2.2.1, @id (Z.2.1 149 = 32) hM.2.2.2.2.2.2.1, @id (Z.2.1 150 = 32) hM.2.2.2.2.2.2.2.1, @id (Z.2.1 151 = 36) hM.2.2.2.2.2.2.2.2, up2_o, up2_e, iN_ap, iN_up, i_ix, i_inb, i_lt, i_lt0, i_0lt, i_eq, i_ne0, i_00, i_11, i_01, i_10, i_b, i_rem2, n_rem, i_add, i_mul, i_sub, i_div, i_max, i_min, rdk_0, rdk_3, kp_none, kp_int, kp_ref, kp_long, kp_double, aK_v, aK_0, aK_ite, if_true, if_false, and_self, and_true, true_and, or_false, false_or, not_true_eq_false, not_false_eq_true, ite_self, ↓reduceIte, h10]
    rfl
  · rw [up2_o (by omega)]
    exact up2_e ⟨rfl, rfl⟩
  · refine MV_le (MV_tx hO.1 ?_ ?_ ?_ (up2_e ⟨rfl, rfl⟩) (fun i x h => by simp [oClr] at h))
    · rw [up144 (by omega), up144 (by omega)]
    · rw [up2_o (by omega), up2_o (by omega)]
    · rw [up144 (by omega), up144 (by omega)]
  · rw [up144 (by omega), up144 (by omega)]
theorem s_mFirst {S : aSt} {g b : Nat} (hM : MAt Z) (hO : MO N S g) (hl : S.2.2.length ≤ 60) (hx : ∀ x ∈ S.2.2, x < 1000) (hb : b ≤ 1) :
    MR Z L c N g (ex 150 0 [some (.ref 144), some (.int (nI b))] [] (Z, iN N, L, c)) (oFst S b) := by
  obtain ⟨⟨R, q⟩, sv, tx⟩ := S
  obtain ⟨N0, hN0⟩ : ∃ N0, N0 = up2 N 144 11 0 := ⟨_, rfl⟩
  have hO0 := MO_thr (j := 11) (v := 0) hO (by omega)
  rw [← hN0] at hO0
  have h10 : N0 144 10 = tx.length := hO0.1.2.2.2.1
  have h11 : N0 144 11 = 0 := by rw [hN0]; exact up2_e ⟨rfl, rfl⟩
  unfold oFst
  rw [r_X8_firstError_0, r_X8_firstError_1, r_X8_firstError_2, if_pos hM.1.1, iN_up, ← hN0]
  rcases (show b = 0 ∨ b = 1 by omega) with rfl | rfl
  · obtain ⟨N1, t1, t2, t3⟩ := s_mReadWinds (L := L) (c := c) hM hl h10 hO0.1.2.2.2.2 hx
    refine ⟨N1, ?_, ?_, MV_le (TF_MV hO0.1 t3), fun a ha => ?_⟩
    · simp (disch := omega) only [r_X8_firstError_5, r_X8_firstError_6, r_X8_firstError_7, r_X8_firstError_10, hM.1.1, @id (Z.2.2.1 144 0 = .ref 145) hM.1.2.1, @id (Z.2.2.1 144 1 = .ref 146) hM.1.2.2.1, @id (Z.2.2.1 144 2 = .ref 147) hM.1.2.2.2.1, @id (Z.2.2.1 144 3 = .ref 148) hM.1.2.2.2.2.1, @id (Z.2.2.1 144 4 = .ref 149) hM.1.2.2.2.2.2.1, @id (Z.2.2.1 144 5 = .ref 150) hM.1.2.2.2.2.2.2.1, @id (Z.2.2.1 144 6 = .ref 151) hM.1.2.2.2.2.2.2.2, @id (Z.1 145 = 0) hM.2.1.1, @id (Z.1 146 = 0) hM.2.1.2.1, @id (Z.1 147 = 0) hM.2.1.2.2.1, @id (Z.1 148 = 0) hM.2.1.2.2.2.1, @id (Z.1 149 = 0) hM.2.1.2.2.2.2.1, @id (Z.1 150 = 0) hM.2.1.2.2.2.2.2.1, @id (Z.1 151 = 0) hM.2.1.2.2.2.2.2.2, @id (Z.2.1 145 = 667) hM.2.2.1, @id (Z.2.1 146 = 667) hM.2.2.2.1, @id (Z.2.1 147 = 4002) hM.2.2.2.2.1, @id (Z.2.1 148 = 60) hM.2.2.2.2.2.1, @id (Z.2.1 149 = 32) hM.2.2.2.2.2.2.1, @id (Z.2.1 150 = 32) hM.2.2.2.2.2.2.2.1, @id (Z.2.1 151 = 36) hM.2.2.2.2.2.2.2.2, up2_o, up2_e, iN_ap, iN_up, i_ix, i_inb, i_lt, i_lt0, i_0lt, i_eq, i_ne0, i_00, i_11, i_01, i_10, i_b, i_rem2, n_rem, i_add, i_mul, i_sub, i_div, i_max, i_min, rdk_0, rdk_3, kp_none, kp_int, kp_ref, kp_long, kp_double, aK_v, aK_0, aK_ite, if_true, if_false, and_self, and_true, true_and, or_false, false_or, not_true_eq_false, not_false_eq_true, ite_self, ↓reduceIte, t1]
    · rw [t3.2 11 (by omega) (by omega), h11]
    · rw [t3.1 a (by omega) (by omega) (by omega), hN0, up144 (by omega)]
  · obtain ⟨N1, t1, t2, t3⟩ := s_mReadHouse (L := L) (c := c) hM hl h10 hO0.1.2.2.2.2 hx
    refine ⟨N1, ?_, ?_, MV_le (TF_MV hO0.1 t3), fun a ha => ?_⟩
    · simp (disch := omega) only [r_X8_firstError_5, r_X8_firstError_6, r_X8_firstError_7, r_X8_firstError_10, hM.1.1, @id (Z.2.2.1 144 0 = .ref 145) hM.1.2.1, @id (Z.2.2.1 144 1 = .ref 146) hM.1.2.2.1, @id (Z.2.2.1 144 2 = .ref 147) hM.1.2.2.2.1, @id (Z.2.2.1 144 3 = .ref 148) hM.1.2.2.2.2.1, @id (Z.2.2.1 144 4 = .ref 149) hM.1.2.2.2.2.2.1, @id (Z.2.2.1 144 5 = .ref 150) hM.1.2.2.2.2.2.2.1, @id (Z.2.2.1 144 6 = .ref 151) hM.1.2.2.2.2.2.2.2, @id (Z.1 145 = 0) hM.2.1.1, @id (Z.1 146 = 0) hM.2.1.2.1, @id (Z.1 147 = 0) hM.2.1.2.2.1, @id (Z.1 148 = 0) hM.2.1.2.2.2.1, @id (Z.1 149 = 0) hM.2.1.2.2.2.2.1, @id (Z.1 150 = 0) hM.2.1.2.2.2.2.2.1, @id (Z.1 151 = 0) hM.2.1.2.2.2.2.2.2, @id (Z.2.1 145 = 667) hM.2.2.1, @id (Z.2.1 146 = 667) hM.2.2.2.1, @id (Z.2.1 147 = 4002) hM.2.2.2.2.1, @id (Z.2.1 148 = 60) hM.2.2.2.2.2.1, @id (Z.2.1 149 = 32) hM.2.2.2.2.2.2.1, @id (Z.2.1 150 = 32) hM.2.2.2.2.2.2.2.1, @id (Z.2.1 151 = 36) hM.2.2.2.2.2.2.2.2, up2_o, up2_e, iN_ap, iN_up, i_ix, i_inb, i_lt, i_lt0, i_0lt, i_eq, i_ne0, i_00, i_11, i_01, i_10, i_b, i_rem2, n_rem, i_add, i_mul, i_sub, i_div, i_max, i_min, rdk_0, rdk_3, kp_none, kp_int, kp_ref, kp_long, kp_double, aK_v, aK_0, aK_ite, if_true, if_false, and_self, and_true, true_and, or_false, false_or, not_true_eq_false, not_false_eq_true, ite_self, ↓reduceIte, t1]
      rfl
    · rw [t3.2 11 (by omega) (by omega), h11]
    · rw [t3.1 a (by omega) (by omega) (by omega), hN0, up144 (by omega)]
end Mx
