/-! the class: its texts -/
theorem CI_tx {N N' : Nat → Nat → Nat} {S : aSt} {tx : List Nat} (h : CI N S) (he : ∀ a, (a < 136 ∨ 144 ≤ a) → N' a = N a) (h1 : N' 136 1 = tx.length) (h2 : AtL (N' 137) tx) : CI N' (S.1, S.2.1, tx) := by
  obtain ⟨a, b, -, d, e⟩ := h
  refine ⟨CY_congr a (fun x _ _ => he x (by omega)), VS_congr b (fun x _ _ => he x (by omega)), ⟨h1, h2⟩, SH_congr d (fun x j _ _ => by rw [he x (by omega)]), fun i hi => ?_⟩
  rw [he 100001 (by omega), he 100002 (by omega)]
  exact e i hi
theorem CI_o {N N' : Nat → Nat → Nat} {S : aSt} (h : CI N S) (he : ∀ a, (a < 138 ∨ 144 ≤ a) → N' a = N a) : CI N' S :=
  CI_tx h (fun a ha => he a (by omega)) (by rw [he 136 (by omega)]; exact h.2.2.1.1) (by rw [he 137 (by omega)]; exact h.2.2.1.2)
theorem RF_tr {r : Nat} {N N1 N2 : Nat → Nat → Nat} (h1 : RF r N N1) (h2 : RF r N1 N2) : RF r N N2 := fun a ha => (h2 a ha).trans (h1 a ha)
section Cf
variable {Z : aZ} {L : Nat → Nat → Int64} {c : Nat × Nat}
theorem q_errH {n : Nat} (hC : ZC Z) (hn : n ≤ 60) : ∀ (rs : List Nat) (k : Nat) (s : aP2) (N : Nat → Nat → Nat), k + rs.length = n → N 136 1 = n → (∀ i x, rs[i]? = some x → N 137 (k + i) = x) → (∀ x ∈ rs, x < 1000) → HC N 138 s → HB s →
    ∃ N', ex 11 8 [some (.ref 136), some (.ref 138), some (.int (nI k))] [] (Z, iN N, L, c) = some (.inl (some (.int (nI (k + (pF hS rs s).1)))), (Z, iN N', L, c)) ∧ (∀ s', (pF hS rs s).2 = some s' → HC N' 138 s') ∧ RF 138 N N'
  | [], k, s, N, h1, h2, _, _, hm, _ => by
    have e : k = n := by simpa using h1
    subst e
    refine ⟨N, ?_, fun s' hs => by cases hs; exact hm, fun _ _ => rfl⟩
    rw [r_X1_errorFor_8]
    simp (disch := omega) only [r_X1_errorFor_0, r_X1_errorFor_1_4, r_X1_errorFor_1_8, r_X1_errorFor_6, r_X1_errorFor_7, r_X1_errorFor_9, r_X1_errorFor_10, r_X1_errorFor_13, r_X1_errorFor_16, r_X1_errorFor_17, r_X1_errorFor_18, r_X1_errorFor_21, r_X1_errorFor_22, r_X1_errorFor_23_4, r_X1_errorFor_23_8, r_X1_errorFor_28, r_X1_errorFor_31, r_X1_errorFor_32, r_X1_errorFor_33, r_X1_errorFor_36, r_X1_errorFor_39, r_X1_errorFor_40, r_X1_errorFor_43, @id (Z.1 0 = 10) hC.1.1, @id (Z.2.2.1 0 0 = .ref 1) hC.1.2.1, @id (Z.2.2.1 0 1 = .ref 17) hC.1.2.2.1, @id (Z.2.2.1 0 2 = .ref 33) hC.1.2.2.2.1, @id (Z.2.2.1 0 3 = .ref 131) hC.1.2.2.2.2.1, @id (Z.2.2.1 0 4 = .ref 136) hC.1.2.2.2.2.2.1, @id (Z.2.2.1 0 5 = .ref 138) hC.1.2.2.2.2.2.2.1, @id (Z.2.2.1 0 6 = .ref 141) hC.1.2.2.2.2.2.2.2, @id (Z.1 1 = 9) hC.2.1.1, @id (Z.1 17 = 9) hC.2.2.1.1, @id (Z.1 33 = 6) hC.2.2.2.1.1, @id (Z.1 131 = 7) hC.2.2.2.2.1.1, @id (Z.1 136 = 5) hC.2.2.2.2.2.1.1, @id (Z.1 138 = 4) hC.2.2.2.2.2.2.1.1, @id (Z.1 141 = 8) hC.2.2.2.2.2.2.2.1.1, up2_o, up2_e, iN_ap, iN_up, i_ix, i_inb, i_lt, i_lt0, i_0lt, i_eq, i_ne0, i_00, i_11, i_01, i_10, i_b, i_rem2, n_rem, i_add, i_mul, i_sub, i_div, i_max, i_min, rdk_0, rdk_3, kp_none, kp_int, kp_ref, kp_long, kp_double, aK_v, aK_0, aK_ite, if_true, if_false, and_self, and_true, true_and, or_false, false_or, not_true_eq_false, not_false_eq_true, ite_self, ↓reduceIte, h2, Nat.lt_irrefl]
    rfl
  | x :: rs, k, s, N, h1, h2, ha, hx, hm, hb => by
    have e : k < n := by simp at h1; omega
    have hx1 := hx x List.mem_cons_self
    have e0 : N 137 k = x := ha 0 x rfl
    have hr : RAt Z 138 4 6 := hC.2.2.2.2.2.2.1
    have hr0 : Z.1 138 = 4 := hr.1
    have z1 : Z.1 137 = 0 := hC.2.2.2.2.2.1.2.1
    have z2 : Z.2.1 137 = 60 := hC.2.2.2.2.2.1.2.2.1
    have z3 : Z.2.2.1 136 0 = .ref 137 := hC.2.2.2.2.2.1.2.2.2
    obtain ⟨N1, t1, t2, t3⟩ := q_hAcc (L := L) (c := c) hr hx1 hm hb
    unfold pF
    cases hs : hS x s with
    | none =>
      rw [hs] at t1
      have t1 : ex 2 0 [some (.ref 138), some (.int (nI x))] [] (Z, iN N, L, c) = some (.inl (some (.int (nI 0))), (Z, iN N1, L, c)) := t1
      refine ⟨N1, ?_, fun s' z => (by cases z), t3⟩
      rw [r_X1_errorFor_8]
      simp (disch := omega) only [r_X1_errorFor_0, r_X1_errorFor_1_4, r_X1_errorFor_1_8, r_X1_errorFor_6, r_X1_errorFor_7, r_X1_errorFor_9, r_X1_errorFor_10, r_X1_errorFor_13, r_X1_errorFor_16, r_X1_errorFor_17, r_X1_errorFor_18, r_X1_errorFor_21, r_X1_errorFor_22, r_X1_errorFor_23_4, r_X1_errorFor_23_8, r_X1_errorFor_28, r_X1_errorFor_31, r_X1_errorFor_32, r_X1_errorFor_33, r_X1_errorFor_36, r_X1_errorFor_39, r_X1_errorFor_40, r_X1_errorFor_43, @id (Z.1 0 = 10) hC.1.1, @id (Z.2.2.1 0 0 = .ref 1) hC.1.2.1, @id (Z.2.2.1 0 1 = .ref 17) hC.1.2.2.1, @id (Z.2.2.1 0 2 = .ref 33) hC.1.2.2.2.1, @id (Z.2.2.1 0 3 = .ref 131) hC.1.2.2.2.2.1, @id (Z.2.2.1 0 4 = .ref 136) hC.1.2.2.2.2.2.1, @id (Z.2.2.1 0 5 = .ref 138) hC.1.2.2.2.2.2.2.1, @id (Z.2.2.1 0 6 = .ref 141) hC.1.2.2.2.2.2.2.2, @id (Z.1 1 = 9) hC.2.1.1, @id (Z.1 17 = 9) hC.2.2.1.1, @id (Z.1 33 = 6) hC.2.2.2.1.1, @id (Z.1 131 = 7) hC.2.2.2.2.1.1, @id (Z.1 136 = 5) hC.2.2.2.2.2.1.1, @id (Z.1 138 = 4) hC.2.2.2.2.2.2.1.1, @id (Z.1 141 = 8) hC.2.2.2.2.2.2.2.1.1, hr0, z1, z2, z3, up2_o, up2_e, iN_ap, iN_up, i_ix, i_inb, i_lt, i_lt0, i_0lt, i_eq, i_ne0, i_00, i_11, i_01, i_10, i_b, i_rem2, n_rem, i_add, i_mul, i_sub, i_div, i_max, i_min, rdk_0, rdk_3, kp_none, kp_int, kp_ref, kp_long, kp_double, aK_v, aK_0, aK_ite, if_true, if_false, and_self, and_true, true_and, or_false, false_or, not_true_eq_false, not_false_eq_true, ite_self, ↓reduceIte, h2, e, e0, t1, Nat.add_zero]
    | some s1 =>
      rw [hs] at t1
      have t1 : ex 2 0 [some (.ref 138), some (.int (nI x))] [] (Z, iN N, L, c) = some (.inl (some (.int (nI 1))), (Z, iN N1, L, c)) := t1
      obtain ⟨N', ih, i2, i3⟩ := q_errH hC hn rs (k + 1) s1 N1 (by simp at h1; omega) (by rw [t3 136 (by omega)]; exact h2) (fun i y hy => by
        rw [t3 137 (by omega), show k + 1 + i = k + (i + 1) by omega]
        exact ha (i + 1) y hy) (fun y hy => hx y (List.mem_cons_of_mem _ hy)) (t2 s1 hs) (HB_step hb hs)
      refine ⟨N', ?_, i2, RF_tr t3 i3⟩
      rw [show k + 1 + (pF hS rs s1).1 = k + ((pF hS rs s1).1 + 1) by omega] at ih
      rw [r_X1_errorFor_8]
      simp (disch := omega) only [r_X1_errorFor_0, r_X1_errorFor_1_4, r_X1_errorFor_1_8, r_X1_errorFor_6, r_X1_errorFor_7, r_X1_errorFor_9, r_X1_errorFor_10, r_X1_errorFor_13, r_X1_errorFor_16, r_X1_errorFor_17, r_X1_errorFor_18, r_X1_errorFor_21, r_X1_errorFor_22, r_X1_errorFor_23_4, r_X1_errorFor_23_8, r_X1_errorFor_28, r_X1_errorFor_31, r_X1_errorFor_32, r_X1_errorFor_33, r_X1_errorFor_36, r_X1_errorFor_39, r_X1_errorFor_40, r_X1_errorFor_43, @id (Z.1 0 = 10) hC.1.1, @id (Z.2.2.1 0 0 = .ref 1) hC.1.2.1, @id (Z.2.2.1 0 1 = .ref 17) hC.1.2.2.1, @id (Z.2.2.1 0 2 = .ref 33) hC.1.2.2.2.1, @id (Z.2.2.1 0 3 = .ref 131) hC.1.2.2.2.2.1, @id (Z.2.2.1 0 4 = .ref 136) hC.1.2.2.2.2.2.1, @id (Z.2.2.1 0 5 = .ref 138) hC.1.2.2.2.2.2.2.1, @id (Z.2.2.1 0 6 = .ref 141) hC.1.2.2.2.2.2.2.2, @id (Z.1 1 = 9) hC.2.1.1, @id (Z.1 17 = 9) hC.2.2.1.1, @id (Z.1 33 = 6) hC.2.2.2.1.1, @id (Z.1 131 = 7) hC.2.2.2.2.1.1, @id (Z.1 136 = 5) hC.2.2.2.2.2.1.1, @id (Z.1 138 = 4) hC.2.2.2.2.2.2.1.1, @id (Z.1 141 = 8) hC.2.2.2.2.2.2.2.1.1, hr0, z1, z2, z3, up2_o, up2_e, iN_ap, iN_up, i_ix, i_inb, i_lt, i_lt0, i_0lt, i_eq, i_ne0, i_00, i_11, i_01, i_10, i_b, i_rem2, n_rem, i_add, i_mul, i_sub, i_div, i_max, i_min, rdk_0, rdk_3, kp_none, kp_int, kp_ref, kp_long, kp_double, aK_v, aK_0, aK_ite, if_true, if_false, and_self, and_true, true_and, or_false, false_or, not_true_eq_false, not_false_eq_true, ite_self, ↓reduceIte, h2, e, e0, t1, ih]
theorem q_errW {n : Nat} (hC : ZC Z) (hn : n ≤ 60) : ∀ (rs : List Nat) (k : Nat) (s : aP2) (N : Nat → Nat → Nat), k + rs.length = n → N 136 1 = n → (∀ i x, rs[i]? = some x → N 137 (k + i) = x) → (∀ x ∈ rs, x < 1000) → HC N 141 s → WB s k →
    ∃ N', ex 11 8 [some (.ref 136), some (.ref 141), some (.int (nI k))] [] (Z, iN N, L, c) = some (.inl (some (.int (nI (k + (pF wS rs s).1)))), (Z, iN N', L, c)) ∧ (∀ s', (pF wS rs s).2 = some s' → HC N' 141 s') ∧ RF 141 N N'
  | [], k, s, N, h1, h2, _, _, hm, _ => by
    have e : k = n := by simpa using h1
    subst e
    refine ⟨N, ?_, fun s' hs => by cases hs; exact hm, fun _ _ => rfl⟩
    rw [r_X1_errorFor_8]
    simp (disch := omega) only [r_X1_errorFor_0, r_X1_errorFor_1_4, r_X1_errorFor_1_8, r_X1_errorFor_6, r_X1_errorFor_7, r_X1_errorFor_9, r_X1_errorFor_10, r_X1_errorFor_13, r_X1_errorFor_16, r_X1_errorFor_17, r_X1_errorFor_18, r_X1_errorFor_21, r_X1_errorFor_22, r_X1_errorFor_23_4, r_X1_errorFor_23_8, r_X1_errorFor_28, r_X1_errorFor_31, r_X1_errorFor_32, r_X1_errorFor_33, r_X1_errorFor_36, r_X1_errorFor_39, r_X1_errorFor_40, r_X1_errorFor_43, @id (Z.1 0 = 10) hC.1.1, @id (Z.2.2.1 0 0 = .ref 1) hC.1.2.1, @id (Z.2.2.1 0 1 = .ref 17) hC.1.2.2.1, @id (Z.2.2.1 0 2 = .ref 33) hC.1.2.2.2.1, @id (Z.2.2.1 0 3 = .ref 131) hC.1.2.2.2.2.1, @id (Z.2.2.1 0 4 = .ref 136) hC.1.2.2.2.2.2.1, @id (Z.2.2.1 0 5 = .ref 138) hC.1.2.2.2.2.2.2.1, @id (Z.2.2.1 0 6 = .ref 141) hC.1.2.2.2.2.2.2.2, @id (Z.1 1 = 9) hC.2.1.1, @id (Z.1 17 = 9) hC.2.2.1.1, @id (Z.1 33 = 6) hC.2.2.2.1.1, @id (Z.1 131 = 7) hC.2.2.2.2.1.1, @id (Z.1 136 = 5) hC.2.2.2.2.2.1.1, @id (Z.1 138 = 4) hC.2.2.2.2.2.2.1.1, @id (Z.1 141 = 8) hC.2.2.2.2.2.2.2.1.1, up2_o, up2_e, iN_ap, iN_up, i_ix, i_inb, i_lt, i_lt0, i_0lt, i_eq, i_ne0, i_00, i_11, i_01, i_10, i_b, i_rem2, n_rem, i_add, i_mul, i_sub, i_div, i_max, i_min, rdk_0, rdk_3, kp_none, kp_int, kp_ref, kp_long, kp_double, aK_v, aK_0, aK_ite, if_true, if_false, and_self, and_true, true_and, or_false, false_or, not_true_eq_false, not_false_eq_true, ite_self, ↓reduceIte, h2, Nat.lt_irrefl]
    rfl
  | x :: rs, k, s, N, h1, h2, ha, hx, hm, hb => by
    have e : k < n := by simp at h1; omega
    have hx1 := hx x List.mem_cons_self
    have e0 : N 137 k = x := ha 0 x rfl
    have hr : RAt Z 141 8 60 := hC.2.2.2.2.2.2.2.1
    have hr0 : Z.1 141 = 8 := hr.1
    have z1 : Z.1 137 = 0 := hC.2.2.2.2.2.1.2.1
    have z2 : Z.2.1 137 = 60 := hC.2.2.2.2.2.1.2.2.1
    have z3 : Z.2.2.1 136 0 = .ref 137 := hC.2.2.2.2.2.1.2.2.2
    obtain ⟨N1, t1, t2, t3⟩ := q_wAcc (L := L) (c := c) hr hx1 hm hb (by omega)
    unfold pF
    cases hs : wS x s with
    | none =>
      rw [hs] at t1
      have t1 : ex 27 0 [some (.ref 141), some (.int (nI x))] [] (Z, iN N, L, c) = some (.inl (some (.int (nI 0))), (Z, iN N1, L, c)) := t1
      refine ⟨N1, ?_, fun s' z => (by cases z), t3⟩
      rw [r_X1_errorFor_8]
      simp (disch := omega) only [r_X1_errorFor_0, r_X1_errorFor_1_4, r_X1_errorFor_1_8, r_X1_errorFor_6, r_X1_errorFor_7, r_X1_errorFor_9, r_X1_errorFor_10, r_X1_errorFor_13, r_X1_errorFor_16, r_X1_errorFor_17, r_X1_errorFor_18, r_X1_errorFor_21, r_X1_errorFor_22, r_X1_errorFor_23_4, r_X1_errorFor_23_8, r_X1_errorFor_28, r_X1_errorFor_31, r_X1_errorFor_32, r_X1_errorFor_33, r_X1_errorFor_36, r_X1_errorFor_39, r_X1_errorFor_40, r_X1_errorFor_43, @id (Z.1 0 = 10) hC.1.1, @id (Z.2.2.1 0 0 = .ref 1) hC.1.2.1, @id (Z.2.2.1 0 1 = .ref 17) hC.1.2.2.1, @id (Z.2.2.1 0 2 = .ref 33) hC.1.2.2.2.1, @id (Z.2.2.1 0 3 = .ref 131) hC.1.2.2.2.2.1, @id (Z.2.2.1 0 4 = .ref 136) hC.1.2.2.2.2.2.1, @id (Z.2.2.1 0 5 = .ref 138) hC.1.2.2.2.2.2.2.1, @id (Z.2.2.1 0 6 = .ref 141) hC.1.2.2.2.2.2.2.2, @id (Z.1 1 = 9) hC.2.1.1, @id (Z.1 17 = 9) hC.2.2.1.1, @id (Z.1 33 = 6) hC.2.2.2.1.1, @id (Z.1 131 = 7) hC.2.2.2.2.1.1, @id (Z.1 136 = 5) hC.2.2.2.2.2.1.1, @id (Z.1 138 = 4) hC.2.2.2.2.2.2.1.1, @id (Z.1 141 = 8) hC.2.2.2.2.2.2.2.1.1, hr0, z1, z2, z3, up2_o, up2_e, iN_ap, iN_up, i_ix, i_inb, i_lt, i_lt0, i_0lt, i_eq, i_ne0, i_00, i_11, i_01, i_10, i_b, i_rem2, n_rem, i_add, i_mul, i_sub, i_div, i_max, i_min, rdk_0, rdk_3, kp_none, kp_int, kp_ref, kp_long, kp_double, aK_v, aK_0, aK_ite, if_true, if_false, and_self, and_true, true_and, or_false, false_or, not_true_eq_false, not_false_eq_true, ite_self, ↓reduceIte, h2, e, e0, t1, Nat.add_zero]
    | some s1 =>
      rw [hs] at t1
      have t1 : ex 27 0 [some (.ref 141), some (.int (nI x))] [] (Z, iN N, L, c) = some (.inl (some (.int (nI 1))), (Z, iN N1, L, c)) := t1
      obtain ⟨N', ih, i2, i3⟩ := q_errW hC hn rs (k + 1) s1 N1 (by simp at h1; omega) (by rw [t3 136 (by omega)]; exact h2) (fun i y hy => by
        rw [t3 137 (by omega), show k + 1 + i = k + (i + 1) by omega]
        exact ha (i + 1) y hy) (fun y hy => hx y (List.mem_cons_of_mem _ hy)) (t2 s1 hs) (WB_step hb hs)
      refine ⟨N', ?_, i2, RF_tr t3 i3⟩
      rw [show k + 1 + (pF wS rs s1).1 = k + ((pF wS rs s1).1 + 1) by omega] at ih
      rw [r_X1_errorFor_8]
      simp (disch := omega) only [r_X1_errorFor_0, r_X1_errorFor_1_4, r_X1_errorFor_1_8, r_X1_errorFor_6, r_X1_errorFor_7, r_X1_errorFor_9, r_X1_errorFor_10, r_X1_errorFor_13, r_X1_errorFor_16, r_X1_errorFor_17, r_X1_errorFor_18, r_X1_errorFor_21, r_X1_errorFor_22, r_X1_errorFor_23_4, r_X1_errorFor_23_8, r_X1_errorFor_28, r_X1_errorFor_31, r_X1_errorFor_32, r_X1_errorFor_33, r_X1_errorFor_36, r_X1_errorFor_39, r_X1_errorFor_40, r_X1_errorFor_43, @id (Z.1 0 = 10) hC.1.1, @id (Z.2.2.1 0 0 = .ref 1) hC.1.2.1, @id (Z.2.2.1 0 1 = .ref 17) hC.1.2.2.1, @id (Z.2.2.1 0 2 = .ref 33) hC.1.2.2.2.1, @id (Z.2.2.1 0 3 = .ref 131) hC.1.2.2.2.2.1, @id (Z.2.2.1 0 4 = .ref 136) hC.1.2.2.2.2.2.1, @id (Z.2.2.1 0 5 = .ref 138) hC.1.2.2.2.2.2.2.1, @id (Z.2.2.1 0 6 = .ref 141) hC.1.2.2.2.2.2.2.2, @id (Z.1 1 = 9) hC.2.1.1, @id (Z.1 17 = 9) hC.2.2.1.1, @id (Z.1 33 = 6) hC.2.2.2.1.1, @id (Z.1 131 = 7) hC.2.2.2.2.1.1, @id (Z.1 136 = 5) hC.2.2.2.2.2.1.1, @id (Z.1 138 = 4) hC.2.2.2.2.2.2.1.1, @id (Z.1 141 = 8) hC.2.2.2.2.2.2.2.1.1, hr0, z1, z2, z3, up2_o, up2_e, iN_ap, iN_up, i_ix, i_inb, i_lt, i_lt0, i_0lt, i_eq, i_ne0, i_00, i_11, i_01, i_10, i_b, i_rem2, n_rem, i_add, i_mul, i_sub, i_div, i_max, i_min, rdk_0, rdk_3, kp_none, kp_int, kp_ref, kp_long, kp_double, aK_v, aK_0, aK_ite, if_true, if_false, and_self, and_true, true_and, or_false, false_or, not_true_eq_false, not_false_eq_true, ite_self, ↓reduceIte, h2, e, e0, t1, ih]
theorem RF_00 {N : Nat → Nat → Nat} {r : Nat} : RF r N (up2 (up2 N r 2 0) r 3 0) := fun a ha => by
  funext j
  rw [up2_o (by omega), up2_o (by omega)]
theorem HC_00 {N : Nat → Nat → Nat} {r : Nat} : HC (up2 (up2 N r 2 0) r 3 0) r (0, []) := ⟨by rw [up2_o (by omega)]; exact up2_e ⟨rfl, rfl⟩, up2_e ⟨rfl, rfl⟩, fun i e he => by simp at he⟩
variable {N : Nat → Nat → Nat}
theorem q_errHouse {tx : List Nat} (hC : ZC Z) (hl : tx.length ≤ 60) (h1 : N 136 1 = tx.length) (ha : AtL (N 137) tx) (hx : ∀ x ∈ tx, x < 1000) :
    ∃ N', ex 11 0 [some (.ref 136), some (.ref 138), none] [] (Z, iN N, L, c) = some (.inl (some (.int (nI (pH tx).1))), (Z, iN N', L, c)) ∧ (∀ s', (pH tx).2 = some s' → HC N' 138 s') ∧ RF 138 N N' := by
  have hr : RAt Z 138 4 6 := hC.2.2.2.2.2.2.1
  have hr0 : Z.1 138 = 4 := hr.1
  obtain ⟨N', t1, t2, t3⟩ := q_errH (L := L) (c := c) hC hl tx 0 (0, []) (up2 (up2 N 138 2 0) 138 3 0) (by omega) (by rw [up2_o (by omega), up2_o (by omega)]; exact h1) (fun i x hi => by rw [Nat.zero_add, up2_o (by omega), up2_o (by omega)]; exact ha i x hi) hx HC_00 HB_0
  refine ⟨N', ?_, t2, RF_tr RF_00 t3⟩
  rw [Nat.zero_add] at t1
  have hs := s_hRestart (N := N) (L := L) (c := c) hr
  simp (disch := omega) only [r_X1_errorFor_0, r_X1_errorFor_1_4, r_X1_errorFor_1_8, r_X1_errorFor_6, r_X1_errorFor_7, hr0, up2_o, up2_e, iN_ap, iN_up, i_ix, i_inb, i_lt, i_lt0, i_0lt, i_eq, i_ne0, i_00, i_11, i_01, i_10, i_b, i_rem2, n_rem, i_add, i_mul, i_sub, i_div, i_max, i_min, rdk_0, rdk_3, kp_none, kp_int, kp_ref, kp_long, kp_double, aK_v, aK_0, aK_ite, if_true, if_false, and_self, and_true, true_and, or_false, false_or, not_true_eq_false, not_false_eq_true, ite_self, ↓reduceIte, hs, t1]
  rfl
theorem q_errWinds {tx : List Nat} (hC : ZC Z) (hl : tx.length ≤ 60) (h1 : N 136 1 = tx.length) (ha : AtL (N 137) tx) (hx : ∀ x ∈ tx, x < 1000) :
    ∃ N', ex 11 0 [some (.ref 136), some (.ref 141), none] [] (Z, iN N, L, c) = some (.inl (some (.int (nI (pW tx).1))), (Z, iN N', L, c)) ∧ (∀ s', (pW tx).2 = some s' → HC N' 141 s') ∧ RF 141 N N' := by
  have hr : RAt Z 141 8 60 := hC.2.2.2.2.2.2.2.1
  have hr0 : Z.1 141 = 8 := hr.1
  obtain ⟨N', t1, t2, t3⟩ := q_errW (L := L) (c := c) hC hl tx 0 (0, []) (up2 (up2 N 141 2 0) 141 3 0) (by omega) (by rw [up2_o (by omega), up2_o (by omega)]; exact h1) (fun i x hi => by rw [Nat.zero_add, up2_o (by omega), up2_o (by omega)]; exact ha i x hi) hx HC_00 WB_0
  refine ⟨N', ?_, t2, RF_tr RF_00 t3⟩
  rw [Nat.zero_add] at t1
  have hs := s_wRestart (N := N) (L := L) (c := c) hr
  simp (disch := omega) only [r_X1_errorFor_0, r_X1_errorFor_1_4, r_X1_errorFor_1_8, r_X1_errorFor_6, r_X1_errorFor_7, hr0, up2_o, up2_e, iN_ap, iN_up, i_ix, i_inb, i_lt, i_lt0, i_0lt, i_eq, i_ne0, i_00, i_11, i_01, i_10, i_b, i_rem2, n_rem, i_add, i_mul, i_sub, i_div, i_max, i_min, rdk_0, rdk_3, kp_none, kp_int, kp_ref, kp_long, kp_double, aK_v, aK_0, aK_ite, if_true, if_false, and_self, and_true, true_and, or_false, false_or, not_true_eq_false, not_false_eq_true, ite_self, ↓reduceIte, hs, t1]
  rfl
theorem q_append {S : aSt} {x : Nat} (hC : ZC Z) (hI : CI N S) (hS : SOK S) (hx : x < 4294967296) :
    CR Z L c N (fun k => k) (ex 66 0 [some (.ref 0), some (.int (nI x))] [] (Z, iN N, L, c)) (oApp S x) := by
  obtain ⟨⟨R, q⟩, sv, tx⟩ := S
  have hl : tx.length ≤ 60 := hS.2.2.2.1
  have h1 : N 136 1 = tx.length := hI.2.2.1.1
  have ha : AtL (N 137) tx := hI.2.2.1.2
  unfold oApp
  dsimp only
  by_cases q1 : x < 33 ∨ 126 < x
  · rw [if_pos q1]
    by_cases q2 : nI x < nI 33
    · simp (disch := omega) only [r_X7_append_0, r_X7_append_1, r_X7_append_3, r_X7_append_6, r_X7_append_7, r_X7_append_9, r_X7_append_12, r_X7_append_22, r_X7_append_23, r_X7_append_26, r_X7_append_29, r_X7_append_31, r_X7_append_34, r_X7_append_44, r_X7_append_45, r_X7_append_48, r_X7_append_49, r_X7_append_52, @id (Z.1 0 = 10) hC.1.1, @id (Z.2.2.1 0 0 = .ref 1) hC.1.2.1, @id (Z.2.2.1 0 1 = .ref 17) hC.1.2.2.1, @id (Z.2.2.1 0 2 = .ref 33) hC.1.2.2.2.1, @id (Z.2.2.1 0 3 = .ref 131) hC.1.2.2.2.2.1, @id (Z.2.2.1 0 4 = .ref 136) hC.1.2.2.2.2.2.1, @id (Z.2.2.1 0 5 = .ref 138) hC.1.2.2.2.2.2.2.1, @id (Z.2.2.1 0 6 = .ref 141) hC.1.2.2.2.2.2.2.2, @id (Z.1 1 = 9) hC.2.1.1, @id (Z.1 17 = 9) hC.2.2.1.1, @id (Z.1 33 = 6) hC.2.2.2.1.1, @id (Z.1 131 = 7) hC.2.2.2.2.1.1, @id (Z.1 136 = 5) hC.2.2.2.2.2.1.1, @id (Z.1 138 = 4) hC.2.2.2.2.2.2.1.1, @id (Z.1 141 = 8) hC.2.2.2.2.2.2.2.1.1, up2_o, up2_e, iN_ap, iN_up, i_ix, i_inb, i_lt, i_lt0, i_0lt, i_eq, i_ne0, i_00, i_11, i_01, i_10, i_b, i_rem2, n_rem, i_add, i_mul, i_sub, i_div, i_max, i_min, rdk_0, rdk_3, kp_none, kp_int, kp_ref, kp_long, kp_double, aK_v, aK_0, aK_ite, if_true, if_false, and_self, and_true, true_and, or_false, false_or, not_true_eq_false, not_false_eq_true, ite_self, ↓reduceIte, q2, bmp_e]
      exact CR_fail hI (by omega) rfl
    · have q3 : nI 126 < nI x := by
        rw [i_ltU hx (by omega)] at q2
        rw [i_gtU hx (by omega)]
        omega
      simp (disch := omega) only [r_X7_append_0, r_X7_append_1, r_X7_append_3, r_X7_append_6, r_X7_append_7, r_X7_append_9, r_X7_append_12, r_X7_append_22, r_X7_append_23, r_X7_append_26, r_X7_append_29, r_X7_append_31, r_X7_append_34, r_X7_append_44, r_X7_append_45, r_X7_append_48, r_X7_append_49, r_X7_append_52, @id (Z.1 0 = 10) hC.1.1, @id (Z.2.2.1 0 0 = .ref 1) hC.1.2.1, @id (Z.2.2.1 0 1 = .ref 17) hC.1.2.2.1, @id (Z.2.2.1 0 2 = .ref 33) hC.1.2.2.2.1, @id (Z.2.2.1 0 3 = .ref 131) hC.1.2.2.2.2.1, @id (Z.2.2.1 0 4 = .ref 136) hC.1.2.2.2.2.2.1, @id (Z.2.2.1 0 5 = .ref 138) hC.1.2.2.2.2.2.2.1, @id (Z.2.2.1 0 6 = .ref 141) hC.1.2.2.2.2.2.2.2, @id (Z.1 1 = 9) hC.2.1.1, @id (Z.1 17 = 9) hC.2.2.1.1, @id (Z.1 33 = 6) hC.2.2.2.1.1, @id (Z.1 131 = 7) hC.2.2.2.2.1.1, @id (Z.1 136 = 5) hC.2.2.2.2.2.1.1, @id (Z.1 138 = 4) hC.2.2.2.2.2.2.1.1, @id (Z.1 141 = 8) hC.2.2.2.2.2.2.2.1.1, up2_o, up2_e, iN_ap, iN_up, i_ix, i_inb, i_lt, i_lt0, i_0lt, i_eq, i_ne0, i_00, i_11, i_01, i_10, i_b, i_rem2, n_rem, i_add, i_mul, i_sub, i_div, i_max, i_min, rdk_0, rdk_3, kp_none, kp_int, kp_ref, kp_long, kp_double, aK_v, aK_0, aK_ite, if_true, if_false, and_self, and_true, true_and, or_false, false_or, not_true_eq_false, not_false_eq_true, ite_self, ↓reduceIte, q2, q3, bmp_e]
      exact CR_fail hI (by omega) rfl
  · rw [if_neg q1]
    have q2 : ¬ x < 33 := by omega
    have q3 : ¬ 126 < x := by omega
    have hp := s_put (N := N) (L := L) (c := c) (x := x) hC.2.2.2.2.2.1 (by omega)
    by_cases q4 : tx.length = 60
    · rw [if_pos q4]
      have q5 : ¬ tx.length < 60 := by omega
      simp (disch := omega) only [r_X7_append_0, r_X7_append_1, r_X7_append_3, r_X7_append_6, r_X7_append_7, r_X7_append_9, r_X7_append_12, r_X7_append_22, r_X7_append_23, r_X7_append_26, r_X7_append_29, r_X7_append_31, r_X7_append_34, r_X7_append_44, r_X7_append_45, r_X7_append_48, r_X7_append_49, r_X7_append_52, @id (Z.1 0 = 10) hC.1.1, @id (Z.2.2.1 0 0 = .ref 1) hC.1.2.1, @id (Z.2.2.1 0 1 = .ref 17) hC.1.2.2.1, @id (Z.2.2.1 0 2 = .ref 33) hC.1.2.2.2.1, @id (Z.2.2.1 0 3 = .ref 131) hC.1.2.2.2.2.1, @id (Z.2.2.1 0 4 = .ref 136) hC.1.2.2.2.2.2.1, @id (Z.2.2.1 0 5 = .ref 138) hC.1.2.2.2.2.2.2.1, @id (Z.2.2.1 0 6 = .ref 141) hC.1.2.2.2.2.2.2.2, @id (Z.1 1 = 9) hC.2.1.1, @id (Z.1 17 = 9) hC.2.2.1.1, @id (Z.1 33 = 6) hC.2.2.2.1.1, @id (Z.1 131 = 7) hC.2.2.2.2.1.1, @id (Z.1 136 = 5) hC.2.2.2.2.2.1.1, @id (Z.1 138 = 4) hC.2.2.2.2.2.2.1.1, @id (Z.1 141 = 8) hC.2.2.2.2.2.2.2.1.1, up2_o, up2_e, iN_ap, iN_up, i_ix, i_inb, i_lt, i_lt0, i_0lt, i_eq, i_ne0, i_00, i_11, i_01, i_10, i_b, i_rem2, n_rem, i_add, i_mul, i_sub, i_div, i_max, i_min, rdk_0, rdk_3, kp_none, kp_int, kp_ref, kp_long, kp_double, aK_v, aK_0, aK_ite, if_true, if_false, and_self, and_true, true_and, or_false, false_or, not_true_eq_false, not_false_eq_true, ite_self, ↓reduceIte, q2, q3, h1, q5, bmp_e]
      exact CR_fail hI (by omega) rfl
    · rw [if_neg q4]
      have q5 : tx.length < 60 := by omega
      rw [h1, if_pos q5, if_pos q5] at hp
      refine ⟨up2 (up2 N (136 + 1) tx.length x) 136 1 (tx.length + 1), ?_, ?_, fun a ha => ?_⟩
      · simp (disch := omega) only [r_X7_append_0, r_X7_append_1, r_X7_append_3, r_X7_append_6, r_X7_append_7, r_X7_append_9, r_X7_append_12, r_X7_append_22, r_X7_append_23, r_X7_append_26, r_X7_append_29, r_X7_append_31, r_X7_append_34, r_X7_append_44, r_X7_append_45, r_X7_append_48, r_X7_append_49, r_X7_append_52, @id (Z.1 0 = 10) hC.1.1, @id (Z.2.2.1 0 0 = .ref 1) hC.1.2.1, @id (Z.2.2.1 0 1 = .ref 17) hC.1.2.2.1, @id (Z.2.2.1 0 2 = .ref 33) hC.1.2.2.2.1, @id (Z.2.2.1 0 3 = .ref 131) hC.1.2.2.2.2.1, @id (Z.2.2.1 0 4 = .ref 136) hC.1.2.2.2.2.2.1, @id (Z.2.2.1 0 5 = .ref 138) hC.1.2.2.2.2.2.2.1, @id (Z.2.2.1 0 6 = .ref 141) hC.1.2.2.2.2.2.2.2, @id (Z.1 1 = 9) hC.2.1.1, @id (Z.1 17 = 9) hC.2.2.1.1, @id (Z.1 33 = 6) hC.2.2.2.1.1, @id (Z.1 131 = 7) hC.2.2.2.2.1.1, @id (Z.1 136 = 5) hC.2.2.2.2.2.1.1, @id (Z.1 138 = 4) hC.2.2.2.2.2.2.1.1, @id (Z.1 141 = 8) hC.2.2.2.2.2.2.2.1.1, up2_o, up2_e, iN_ap, iN_up, i_ix, i_inb, i_lt, i_lt0, i_0lt, i_eq, i_ne0, i_00, i_11, i_01, i_10, i_b, i_rem2, n_rem, i_add, i_mul, i_sub, i_div, i_max, i_min, rdk_0, rdk_3, kp_none, kp_int, kp_ref, kp_long, kp_double, aK_v, aK_0, aK_ite, if_true, if_false, and_self, and_true, true_and, or_false, false_or, not_true_eq_false, not_false_eq_true, ite_self, ↓reduceIte, q2, q3, h1, q5, hp]
      · refine CI_tx hI (fun a ha => ?_) ?_ ?_
        · funext j
          rw [up2_o (by omega), up2_o (by omega)]
        · rw [up2_e ⟨rfl, rfl⟩, List.length_append]
          rfl
        · refine AtL_app.mpr ⟨fun i y hy => ?_, ?_⟩
          · have := AtL_lt hy
            rw [up2_o (by omega), up2_o (by omega)]
            exact ha i y hy
          · rw [up2_o (by omega)]
            exact up2_e ⟨rfl, rfl⟩
      · funext j
        rw [up2_o (by omega), up2_o (by omega)]
theorem q_clear {S : aSt} (hC : ZC Z) (hI : CI N S) :
    CR Z L c N (fun k => k) (ex 67 0 [some (.ref 0)] [] (Z, iN N, L, c)) (oClr S) := by
  have h1 : N 136 1 = S.2.2.length := hI.2.2.1.1
  have he := s_empty (N := N) (L := L) (c := c) hC.2.2.2.2.2.1
  refine ⟨up2 N 136 1 0, ?_, ?_, fun a ha => ?_⟩
  · rw [h1] at he
    simp (disch := omega) only [r_X7_clearBuffer_0, r_X7_clearBuffer_1, r_X7_clearBuffer_4, r_X7_clearBuffer_7, @id (Z.1 0 = 10) hC.1.1, @id (Z.2.2.1 0 0 = .ref 1) hC.1.2.1, @id (Z.2.2.1 0 1 = .ref 17) hC.1.2.2.1, @id (Z.2.2.1 0 2 = .ref 33) hC.1.2.2.2.1, @id (Z.2.2.1 0 3 = .ref 131) hC.1.2.2.2.2.1, @id (Z.2.2.1 0 4 = .ref 136) hC.1.2.2.2.2.2.1, @id (Z.2.2.1 0 5 = .ref 138) hC.1.2.2.2.2.2.2.1, @id (Z.2.2.1 0 6 = .ref 141) hC.1.2.2.2.2.2.2.2, @id (Z.1 1 = 9) hC.2.1.1, @id (Z.1 17 = 9) hC.2.2.1.1, @id (Z.1 33 = 6) hC.2.2.2.1.1, @id (Z.1 131 = 7) hC.2.2.2.2.1.1, @id (Z.1 136 = 5) hC.2.2.2.2.2.1.1, @id (Z.1 138 = 4) hC.2.2.2.2.2.2.1.1, @id (Z.1 141 = 8) hC.2.2.2.2.2.2.2.1.1, up2_o, up2_e, iN_ap, iN_up, i_ix, i_inb, i_lt, i_lt0, i_0lt, i_eq, i_ne0, i_00, i_11, i_01, i_10, i_b, i_rem2, n_rem, i_add, i_mul, i_sub, i_div, i_max, i_min, rdk_0, rdk_3, kp_none, kp_int, kp_ref, kp_long, kp_double, aK_v, aK_0, aK_ite, if_true, if_false, and_self, and_true, true_and, or_false, false_or, not_true_eq_false, not_false_eq_true, ite_self, ↓reduceIte, he]
    rfl
  · exact CI_tx hI (fun a ha => (by funext j; rw [up2_o (by omega)])) (up2_e ⟨rfl, rfl⟩) (fun i x h => by simp at h)
  · funext j
    rw [up2_o (by omega)]
end Cf
