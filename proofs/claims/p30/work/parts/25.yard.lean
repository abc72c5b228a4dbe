/-! the queue: taken off, gone through -/
def ubX (y p : Nat) : List Nat → Nat → (Nat → Nat → Nat) → Nat × (Nat → Nat → Nat)
  | [], k, N => (k, N)
  | x :: rs, k, N => if x = p then ubX y p rs k N else ubX y p rs (k + 1) (up2 N (y + 15) k x)
def yUnb (N : Nat → Nat → Nat) (y p : Nat) (q : List Nat) : Nat → Nat → Nat :=
  let r := ubX y p q 0 N
  up2 (up2 (up2 r.2 y 3 r.1) (y + 4) (p / 6) (r.2 (y + 4) (p / 6) - 1)) (y + 8) p 4294967295
theorem ubX_o {y p : Nat} : ∀ (rs : List Nat) (k : Nat) (N : Nat → Nat → Nat) (a j : Nat), a ≠ y + 15 → (ubX y p rs k N).2 a j = N a j
  | [], k, N, a, j, h => rfl
  | x :: rs, k, N, a, j, h => by
    unfold ubX
    split
    · exact ubX_o rs k N a j h
    · rw [ubX_o rs (k + 1) _ a j h, up2_o (fun z => h z.1)]
theorem ubX_k {y p : Nat} : ∀ (rs : List Nat) (k : Nat) (N : Nat → Nat → Nat), (ubX y p rs k N).1 ≤ k + rs.length
  | [], k, N => Nat.le_refl _
  | x :: rs, k, N => by
    unfold ubX
    split
    · have := ubX_k (y := y) (p := p) rs k N
      simp; omega
    · have := ubX_k (y := y) (p := p) rs (k + 1) (up2 N (y + 15) k x)
      simp; omega
def stX (y : Nat) : List Nat → Nat → Nat → (Nat → Nat → Nat) → Nat × Nat × (Nat → Nat → Nat)
  | [], k, lf, N => (k, lf, N)
  | p :: rs, k, lf, N => if N (y + 8) p = N y 0 ∧ N (y + 5) (p / 6) = p % 6 ∧ N (y + 1) (N y 0 % N y 2) ≤ 8 - 2 * N (y + 6) p then stX y rs k lf (ySet N y p)
    else stX y rs (k + 1) (if lf = 0 ∧ ¬ N (y + 8) p = N y 0 then 0 else 1) (up2 N (y + 15) k p)
theorem shF_o {y p held : Nat} : ∀ (k t : Nat) (N : Nat → Nat → Nat) (a j : Nat), a ≠ y + 12 → shF y p held k t N a j = N a j
  | 0, _, _, _, _, _ => rfl
  | k + 1, t, N, a, j, h => by
    unfold shF
    rw [shF_o k (t + 1) _ a j h, up2_o (fun z => h z.1)]
theorem ySet_o {N : Nat → Nat → Nat} {y p a j : Nat} (h1 : a ≠ y + 12) (h2 : a ≠ y + 5) (h3 : a ≠ y + 9) : ySet N y p a j = N a j := by
  unfold ySet
  rw [shF_o _ _ _ _ _ h1, up2_o (fun z => h3 z.1), up2_o (fun z => h2 z.1)]
theorem ySet_5 {N : Nat → Nat → Nat} {y p j : Nat} : ySet N y p (y + 5) j = if j = p / 6 then N (y + 5) (p / 6) + 1 else N (y + 5) j := by
  unfold ySet
  rw [shF_o _ _ _ _ _ (by omega), up2_o (by omega)]
  unfold up2
  simp
section Yu
variable {Z : aZ} {N : Nat → Nat → Nat} {L : Nat → Nat → Int64} {c : Nat × Nat} {y : Nat}
theorem s_unbook_loop {p : Nat} (hy : YAt Z y) (hp : p < 36) {n : Nat} (hn : n ≤ 36) : ∀ (rs : List Nat) (i k : Nat) (N : Nat → Nat → Nat), N y 3 = n → i + rs.length = n → k ≤ i → (∀ j (h : j < rs.length), N (y + 15) (i + j) = rs[j]) → (∀ x ∈ rs, x < 36) →
    ex 44 4 [some (.ref y), some (.int (nI p)), some (.int (nI k)), some (.int (nI i))] [] (Z, iN N, L, c) = ex 44 43 [some (.ref y), some (.int (nI p)), some (.int (nI (ubX y p rs k N).1)), some (.int (nI n))] [] (Z, iN (ubX y p rs k N).2, L, c)
  | [], i, k, N, h3, hi, hk, _, _ => by
    have e : i = n := by simpa using hi
    subst e
    rw [r_X6_unbookPlace_4]
    simp (disch := omega) only [r_X6_unbookPlace_5, r_X6_unbookPlace_6, r_X6_unbookPlace_9, r_X6_unbookPlace_12, r_X6_unbookPlace_13, r_X6_unbookPlace_16, r_X6_unbookPlace_17, r_X6_unbookPlace_18, r_X6_unbookPlace_19, r_X6_unbookPlace_22, r_X6_unbookPlace_23, r_X6_unbookPlace_26, r_X6_unbookPlace_27, r_X6_unbookPlace_28, r_X6_unbookPlace_31, r_X6_unbookPlace_32, r_X6_unbookPlace_33, r_X6_unbookPlace_34, r_X6_unbookPlace_37, r_X6_unbookPlace_40, hy.1, @id (Z.1 (y + 15) = 0) (yK hy 15 rfl), @id (Z.2.1 (y + 15) = 36) (yL hy 15 rfl), @id (Z.2.2.1 y 18 = .ref (y + 15)) (yR hy 15 rfl), up2_o, up2_e, iN_ap, iN_up, i_ix, i_inb, i_lt, i_lt0, i_0lt, i_eq, i_ne0, i_00, i_11, i_01, i_10, i_b, i_rem2, n_rem, i_add, i_mul, i_sub, i_div, i_max, i_min, rdk_0, rdk_3, kp_none, kp_int, kp_ref, kp_long, kp_double, aK_v, aK_0, aK_ite, if_true, if_false, and_self, and_true, true_and, or_false, false_or, not_true_eq_false, not_false_eq_true, ite_self, ↓reduceIte, h3, Nat.lt_irrefl, ubX]
  | x :: rs, i, k, N, h3, hi, hk, hq, hb => by
    obtain ⟨e0, hq2⟩ := tl_at hq
    have e : i < n := by simp at hi; omega
    have hx := hb x List.mem_cons_self
    rw [r_X6_unbookPlace_4]
    by_cases q : x = p
    · have ih := s_unbook_loop hy hp hn rs (i + 1) k N h3 (by simp at hi; omega) (by omega) hq2 (fun x hx => hb x (List.mem_cons_of_mem _ hx))
      simp (disch := omega) only [r_X6_unbookPlace_5, r_X6_unbookPlace_6, r_X6_unbookPlace_9, r_X6_unbookPlace_12, r_X6_unbookPlace_13, r_X6_unbookPlace_16, r_X6_unbookPlace_17, r_X6_unbookPlace_18, r_X6_unbookPlace_19, r_X6_unbookPlace_22, r_X6_unbookPlace_23, r_X6_unbookPlace_26, r_X6_unbookPlace_27, r_X6_unbookPlace_28, r_X6_unbookPlace_31, r_X6_unbookPlace_32, r_X6_unbookPlace_33, r_X6_unbookPlace_34, r_X6_unbookPlace_37, r_X6_unbookPlace_40, hy.1, @id (Z.1 (y + 15) = 0) (yK hy 15 rfl), @id (Z.2.1 (y + 15) = 36) (yL hy 15 rfl), @id (Z.2.2.1 y 18 = .ref (y + 15)) (yR hy 15 rfl), up2_o, up2_e, iN_ap, iN_up, i_ix, i_inb, i_lt, i_lt0, i_0lt, i_eq, i_ne0, i_00, i_11, i_01, i_10, i_b, i_rem2, n_rem, i_add, i_mul, i_sub, i_div, i_max, i_min, rdk_0, rdk_3, kp_none, kp_int, kp_ref, kp_long, kp_double, aK_v, aK_0, aK_ite, if_true, if_false, and_self, and_true, true_and, or_false, false_or, not_true_eq_false, not_false_eq_true, ite_self, ↓reduceIte, h3, e, e0, i_eq, q, ih, ubX]
    · have ih := s_unbook_loop hy hp hn rs (i + 1) (k + 1) (up2 N (y + 15) k x) (by rw [up2_o (by omega)]; exact h3) (by simp at hi; omega) (by omega) (fun j hj => by rw [up2_o (by omega)]; exact hq2 j hj) (fun x hx => hb x (List.mem_cons_of_mem _ hx))
      simp (disch := omega) only [r_X6_unbookPlace_5, r_X6_unbookPlace_6, r_X6_unbookPlace_9, r_X6_unbookPlace_12, r_X6_unbookPlace_13, r_X6_unbookPlace_16, r_X6_unbookPlace_17, r_X6_unbookPlace_18, r_X6_unbookPlace_19, r_X6_unbookPlace_22, r_X6_unbookPlace_23, r_X6_unbookPlace_26, r_X6_unbookPlace_27, r_X6_unbookPlace_28, r_X6_unbookPlace_31, r_X6_unbookPlace_32, r_X6_unbookPlace_33, r_X6_unbookPlace_34, r_X6_unbookPlace_37, r_X6_unbookPlace_40, hy.1, @id (Z.1 (y + 15) = 0) (yK hy 15 rfl), @id (Z.2.1 (y + 15) = 36) (yL hy 15 rfl), @id (Z.2.2.1 y 18 = .ref (y + 15)) (yR hy 15 rfl), up2_o, up2_e, iN_ap, iN_up, i_ix, i_inb, i_lt, i_lt0, i_0lt, i_eq, i_ne0, i_00, i_11, i_01, i_10, i_b, i_rem2, n_rem, i_add, i_mul, i_sub, i_div, i_max, i_min, rdk_0, rdk_3, kp_none, kp_int, kp_ref, kp_long, kp_double, aK_v, aK_0, aK_ite, if_true, if_false, and_self, and_true, true_and, or_false, false_or, not_true_eq_false, not_false_eq_true, ite_self, ↓reduceIte, h3, e, e0, i_eq, q, ih, ubX]
theorem s_unbookPlace {p : Nat} {q : List Nat} (hy : YAt Z y) (hp : p < 36) (hq : QH N y q) (hn : q.length ≤ 36) (hb : ∀ x ∈ q, x < 36) (h1 : 1 ≤ N (y + 4) (p / 6)) :
    ex 44 0 [some (.ref y), some (.int (nI p)), none, none] [] (Z, iN N, L, c) = some (.inl (some (.int (nI (N (y + 8) p)))), (Z, iN (yUnb N y p q), L, c)) := by
  have e0 : p / 6 < 6 := by omega
  have hk := ubX_k (y := y) (p := p) q 0 N
  have o4 := ubX_o (y := y) (p := p) q 0 N (y + 4) (p / 6) (by omega)
  have o8 := ubX_o (y := y) (p := p) q 0 N (y + 8) p (by omega)
  simp only [r_X6_unbookPlace_0, r_X6_unbookPlace_1, r_X6_unbookPlace_2, r_X6_unbookPlace_3, kp_none, kp_int]
  rw [s_unbook_loop hy hp hn q 0 0 N hq.1 (by omega) (Nat.le_refl _) (fun j h => by rw [Nat.zero_add]; exact hq.2 j h) hb]
  simp (disch := omega) only [r_X6_unbookPlace_43, r_X6_unbookPlace_44, r_X6_unbookPlace_45, r_X6_unbookPlace_48, r_X6_unbookPlace_49, r_X6_unbookPlace_52, r_X6_unbookPlace_53, r_X6_unbookPlace_55, r_X6_unbookPlace_56, r_X6_unbookPlace_57, r_X6_unbookPlace_58, r_X6_unbookPlace_59, r_X6_unbookPlace_60, r_X6_unbookPlace_61, r_X6_unbookPlace_62, r_X6_unbookPlace_65, r_X6_unbookPlace_66, r_X6_unbookPlace_67, r_X6_unbookPlace_68, r_X6_unbookPlace_69, r_X6_unbookPlace_72, r_X6_unbookPlace_73, r_X6_unbookPlace_74, r_X6_unbookPlace_75, r_X6_unbookPlace_76, hy.1, @id (Z.1 (y + 4) = 0) (yK hy 4 rfl), @id (Z.2.1 (y + 4) = 6) (yL hy 4 rfl), @id (Z.2.2.1 y 7 = .ref (y + 4)) (yR hy 4 rfl), @id (Z.1 (y + 8) = 0) (yK hy 8 rfl), @id (Z.2.1 (y + 8) = 36) (yL hy 8 rfl), @id (Z.2.2.1 y 11 = .ref (y + 8)) (yR hy 8 rfl), up2_o, up2_e, iN_ap, iN_up, i_ix, i_inb, i_lt, i_lt0, i_0lt, i_eq, i_ne0, i_00, i_11, i_01, i_10, i_b, i_rem2, n_rem, i_add, i_mul, i_sub, i_div, i_max, i_min, rdk_0, rdk_3, kp_none, kp_int, kp_ref, kp_long, kp_double, aK_v, aK_0, aK_ite, if_true, if_false, and_self, and_true, true_and, or_false, false_or, not_true_eq_false, not_false_eq_true, ite_self, ↓reduceIte, nM1, o4, o8, yUnb]
theorem s_setTodays_loop (hy : YAt Z y) {n : Nat} (hn : n ≤ 36) : ∀ (rs : List Nat) (i k lf : Nat) (N : Nat → Nat → Nat) (a4 a5 : Option Value), lf ≤ 1 → N y 3 = n → i + rs.length = n → k ≤ i → (∀ j (h : j < rs.length), N (y + 15) (i + j) = rs[j]) → (∀ x ∈ rs, x < 36 ∧ N (y + 8) x < 2147483648) →
    1 ≤ N y 2 → N y 2 ≤ 60 → N y 0 < 2147483648 → (∀ x, x < 36 → N (y + 6) x ≤ 3 ∧ N (y + 7) x ≤ 9999) → (∀ i, i < 60 → N (y + 1) i ≤ 9) → (∀ h, h < 6 → N (y + 5) h ≤ 6) → N (y + 2) 2 ≤ 30 →
    ex 45 6 [some (.ref y), some (.int (nI k)), some (.int (nI lf)), some (.int (nI i)), a4, a5] [] (Z, iN N, L, c) = some (.inl (some (.int (nI (stX y rs k lf N).2.1))), (Z, iN (up2 (stX y rs k lf N).2.2 y 3 (stX y rs k lf N).1), L, c))
  | [], i, k, lf, N, a4, a5, hlf, h3, hi, hk, _, _, _, _, _, _, _, _, _ => by
    have e : i = n := by simpa using hi
    subst e
    simp (disch := omega) only [r_X6_setTodays_0, r_X6_setTodays_1, r_X6_setTodays_2, r_X6_setTodays_3, r_X6_setTodays_4, r_X6_setTodays_5, r_X6_setTodays_6, r_X6_setTodays_7, r_X6_setTodays_8, r_X6_setTodays_11, r_X6_setTodays_14, r_X6_setTodays_15, r_X6_setTodays_18, r_X6_setTodays_19, r_X6_setTodays_20, r_X6_setTodays_22, r_X6_setTodays_23, r_X6_setTodays_26, r_X6_setTodays_28, r_X6_setTodays_29, r_X6_setTodays_30, r_X6_setTodays_33, r_X6_setTodays_36, r_X6_setTodays_37, r_X6_setTodays_40, r_X6_setTodays_41, r_X6_setTodays_43, r_X6_setTodays_45, r_X6_setTodays_48, r_X6_setTodays_49, r_X6_setTodays_51, r_X6_setTodays_54, r_X6_setTodays_57, r_X6_setTodays_58, r_X6_setTodays_60, r_X6_setTodays_63, r_X6_setTodays_66, r_X6_setTodays_67, r_X6_setTodays_70, r_X6_setTodays_72, r_X6_setTodays_75, r_X6_setTodays_76, r_X6_setTodays_79, r_X6_setTodays_80, r_X6_setTodays_81, r_X6_setTodays_82, r_X6_setTodays_85, r_X6_setTodays_86, r_X6_setTodays_88, r_X6_setTodays_89, r_X6_setTodays_92, r_X6_setTodays_95, r_X6_setTodays_98, r_X6_setTodays_99, r_X6_setTodays_100, r_X6_setTodays_103, r_X6_setTodays_104, hy.1, @id (Z.1 (y + 15) = 0) (yK hy 15 rfl), @id (Z.2.1 (y + 15) = 36) (yL hy 15 rfl), @id (Z.2.2.1 y 18 = .ref (y + 15)) (yR hy 15 rfl), up2_o, up2_e, iN_ap, iN_up, i_ix, i_inb, i_lt, i_lt0, i_0lt, i_eq, i_ne0, i_00, i_11, i_01, i_10, i_b, i_rem2, n_rem, i_add, i_mul, i_sub, i_div, i_max, i_min, rdk_0, rdk_3, kp_none, kp_int, kp_ref, kp_long, kp_double, aK_v, aK_0, aK_ite, if_true, if_false, and_self, and_true, true_and, or_false, false_or, not_true_eq_false, not_false_eq_true, ite_self, ↓reduceIte, h3, Nat.lt_irrefl, stX]
  | p :: rs, i, k, lf, N, a4, a5, hlf, h3, hi, hk, hq, hb, w1, w2, ht, hw, hv, hs, hh => by
    obtain ⟨e0, hq2⟩ := tl_at hq
    have e : i < n := by simp at hi; omega
    obtain ⟨hp, hd⟩ := hb p List.mem_cons_self
    obtain ⟨hw1, hw2⟩ := hw p hp
    have hs1 := hs (p / 6) (by omega)
    have hb2 : ∀ x ∈ rs, x < 36 ∧ N (y + 8) x < 2147483648 := fun x hx => hb x (List.mem_cons_of_mem _ hx)
    have hlf2 : (if lf = 0 ∧ ¬ N (y + 8) p = N y 0 then 0 else 1) ≤ 1 := by split <;> omega
    have ihk := fun a4 a5 => s_setTodays_loop hy hn rs (i + 1) (k + 1) (if lf = 0 ∧ ¬ N (y + 8) p = N y 0 then 0 else 1) (up2 N (y + 15) k p) a4 a5 hlf2 (by rw [up2_o (by omega)]; exact h3) (by simp at hi; omega) (by omega) (fun j hj => by rw [up2_o (by omega)]; exact hq2 j hj) (fun x hx => by rw [up2_o (by omega)]; exact hb2 x hx) (by rw [up2_o (by omega)]; exact w1) (by rw [up2_o (by omega)]; exact w2) (by rw [up2_o (by omega)]; exact ht) (fun x hx => by rw [up2_o (by omega), up2_o (by omega)]; exact hw x hx) (fun x hx => by rw [up2_o (by omega)]; exact hv x hx) (fun x hx => by rw [up2_o (by omega)]; exact hs x hx) (by rw [up2_o (by omega)]; exact hh)
    rw [r_X6_setTodays_6]
    by_cases q1 : N (y + 8) p = N y 0
    · by_cases q2 : N (y + 5) (p / 6) = p % 6 ∧ N (y + 1) (N y 0 % N y 2) ≤ 8 - 2 * N (y + 6) p
      · have hs6 : N (y + 5) (p / 6) + 1 ≤ 6 := by omega
        have ih := fun a4 a5 => s_setTodays_loop hy hn rs (i + 1) k lf (ySet N y p) a4 a5 hlf (by rw [ySet_o (by omega) (by omega) (by omega)]; exact h3) (by simp at hi; omega) (by omega) (fun j hj => by rw [ySet_o (by omega) (by omega) (by omega)]; exact hq2 j hj) (fun x hx => by rw [ySet_o (by omega) (by omega) (by omega)]; exact hb2 x hx) (by rw [ySet_o (by omega) (by omega) (by omega)]; exact w1) (by rw [ySet_o (by omega) (by omega) (by omega)]; exact w2) (by rw [ySet_o (by omega) (by omega) (by omega)]; exact ht) (fun x hx => by rw [ySet_o (by omega) (by omega) (by omega), ySet_o (by omega) (by omega) (by omega)]; exact hw x hx) (fun x hx => by rw [ySet_o (by omega) (by omega) (by omega)]; exact hv x hx) (fun x hx => by rw [ySet_5]; have := hs x hx; split <;> omega) (by rw [ySet_o (by omega) (by omega) (by omega)]; exact hh)
        simp (disch := omega) only [r_X6_setTodays_0, r_X6_setTodays_1, r_X6_setTodays_2, r_X6_setTodays_3, r_X6_setTodays_4, r_X6_setTodays_5, r_X6_setTodays_7, r_X6_setTodays_8, r_X6_setTodays_11, r_X6_setTodays_14, r_X6_setTodays_15, r_X6_setTodays_18, r_X6_setTodays_19, r_X6_setTodays_20, r_X6_setTodays_22, r_X6_setTodays_23, r_X6_setTodays_26, r_X6_setTodays_28, r_X6_setTodays_29, r_X6_setTodays_30, r_X6_setTodays_33, r_X6_setTodays_36, r_X6_setTodays_37, r_X6_setTodays_40, r_X6_setTodays_41, r_X6_setTodays_43, r_X6_setTodays_45, r_X6_setTodays_48, r_X6_setTodays_49, r_X6_setTodays_51, r_X6_setTodays_54, r_X6_setTodays_57, r_X6_setTodays_58, r_X6_setTodays_60, r_X6_setTodays_63, r_X6_setTodays_66, r_X6_setTodays_67, r_X6_setTodays_70, r_X6_setTodays_72, r_X6_setTodays_75, r_X6_setTodays_76, r_X6_setTodays_79, r_X6_setTodays_80, r_X6_setTodays_81, r_X6_setTodays_82, r_X6_setTodays_85, r_X6_setTodays_86, r_X6_setTodays_88, r_X6_setTodays_89, r_X6_setTodays_92, r_X6_setTodays_95, r_X6_setTodays_98, r_X6_setTodays_99, r_X6_setTodays_100, r_X6_setTodays_103, r_X6_setTodays_104, hy.1, @id (Z.1 (y + 15) = 0) (yK hy 15 rfl), @id (Z.2.1 (y + 15) = 36) (yL hy 15 rfl), @id (Z.2.2.1 y 18 = .ref (y + 15)) (yR hy 15 rfl), @id (Z.1 (y + 8) = 0) (yK hy 8 rfl), @id (Z.2.1 (y + 8) = 36) (yL hy 8 rfl), @id (Z.2.2.1 y 11 = .ref (y + 8)) (yR hy 8 rfl), up2_o, up2_e, iN_ap, iN_up, i_ix, i_inb, i_lt, i_lt0, i_0lt, i_eq, i_ne0, i_00, i_11, i_01, i_10, i_b, i_rem2, n_rem, i_add, i_mul, i_sub, i_div, i_max, i_min, rdk_0, rdk_3, kp_none, kp_int, kp_ref, kp_long, kp_double, aK_v, aK_0, aK_ite, if_true, if_false, and_self, and_true, true_and, or_false, false_or, not_true_eq_false, not_false_eq_true, ite_self, ↓reduceIte, h3, e, e0, i_eq, q1, q2, s_canBeSet hy hp w1 w2 ht hw1 hv hs1, s_setPlace hy hp hw2 hh, ih, stX]
      · simp (disch := omega) only [r_X6_setTodays_0, r_X6_setTodays_1, r_X6_setTodays_2, r_X6_setTodays_3, r_X6_setTodays_4, r_X6_setTodays_5, r_X6_setTodays_7, r_X6_setTodays_8, r_X6_setTodays_11, r_X6_setTodays_14, r_X6_setTodays_15, r_X6_setTodays_18, r_X6_setTodays_19, r_X6_setTodays_20, r_X6_setTodays_22, r_X6_setTodays_23, r_X6_setTodays_26, r_X6_setTodays_28, r_X6_setTodays_29, r_X6_setTodays_30, r_X6_setTodays_33, r_X6_setTodays_36, r_X6_setTodays_37, r_X6_setTodays_40, r_X6_setTodays_41, r_X6_setTodays_43, r_X6_setTodays_45, r_X6_setTodays_48, r_X6_setTodays_49, r_X6_setTodays_51, r_X6_setTodays_54, r_X6_setTodays_57, r_X6_setTodays_58, r_X6_setTodays_60, r_X6_setTodays_63, r_X6_setTodays_66, r_X6_setTodays_67, r_X6_setTodays_70, r_X6_setTodays_72, r_X6_setTodays_75, r_X6_setTodays_76, r_X6_setTodays_79, r_X6_setTodays_80, r_X6_setTodays_81, r_X6_setTodays_82, r_X6_setTodays_85, r_X6_setTodays_86, r_X6_setTodays_88, r_X6_setTodays_89, r_X6_setTodays_92, r_X6_setTodays_95, r_X6_setTodays_98, r_X6_setTodays_99, r_X6_setTodays_100, r_X6_setTodays_103, r_X6_setTodays_104, hy.1, @id (Z.1 (y + 15) = 0) (yK hy 15 rfl), @id (Z.2.1 (y + 15) = 36) (yL hy 15 rfl), @id (Z.2.2.1 y 18 = .ref (y + 15)) (yR hy 15 rfl), @id (Z.1 (y + 8) = 0) (yK hy 8 rfl), @id (Z.2.1 (y + 8) = 36) (yL hy 8 rfl), @id (Z.2.2.1 y 11 = .ref (y + 8)) (yR hy 8 rfl), up2_o, up2_e, iN_ap, iN_up, i_ix, i_inb, i_lt, i_lt0, i_0lt, i_eq, i_ne0, i_00, i_11, i_01, i_10, i_b, i_rem2, n_rem, i_add, i_mul, i_sub, i_div, i_max, i_min, rdk_0, rdk_3, kp_none, kp_int, kp_ref, kp_long, kp_double, aK_v, aK_0, aK_ite, if_true, if_false, and_self, and_true, true_and, or_false, false_or, not_true_eq_false, not_false_eq_true, ite_self, ↓reduceIte, h3, e, e0, i_eq, i_eq0, q1, q2, and_false, s_canBeSet hy hp w1 w2 ht hw1 hv hs1, stX]
        simp (disch := omega) only [q1, not_true_eq_false, and_false, if_false] at ihk
        simp only [ihk, ite_self]
    · simp (disch := omega) only [r_X6_setTodays_0, r_X6_setTodays_1, r_X6_setTodays_2, r_X6_setTodays_3, r_X6_setTodays_4, r_X6_setTodays_5, r_X6_setTodays_7, r_X6_setTodays_8, r_X6_setTodays_11, r_X6_setTodays_14, r_X6_setTodays_15, r_X6_setTodays_18, r_X6_setTodays_19, r_X6_setTodays_20, r_X6_setTodays_22, r_X6_setTodays_23, r_X6_setTodays_26, r_X6_setTodays_28, r_X6_setTodays_29, r_X6_setTodays_30, r_X6_setTodays_33, r_X6_setTodays_36, r_X6_setTodays_37, r_X6_setTodays_40, r_X6_setTodays_41, r_X6_setTodays_43, r_X6_setTodays_45, r_X6_setTodays_48, r_X6_setTodays_49, r_X6_setTodays_51, r_X6_setTodays_54, r_X6_setTodays_57, r_X6_setTodays_58, r_X6_setTodays_60, r_X6_setTodays_63, r_X6_setTodays_66, r_X6_setTodays_67, r_X6_setTodays_70, r_X6_setTodays_72, r_X6_setTodays_75, r_X6_setTodays_76, r_X6_setTodays_79, r_X6_setTodays_80, r_X6_setTodays_81, r_X6_setTodays_82, r_X6_setTodays_85, r_X6_setTodays_86, r_X6_setTodays_88, r_X6_setTodays_89, r_X6_setTodays_92, r_X6_setTodays_95, r_X6_setTodays_98, r_X6_setTodays_99, r_X6_setTodays_100, r_X6_setTodays_103, r_X6_setTodays_104, hy.1, @id (Z.1 (y + 15) = 0) (yK hy 15 rfl), @id (Z.2.1 (y + 15) = 36) (yL hy 15 rfl), @id (Z.2.2.1 y 18 = .ref (y + 15)) (yR hy 15 rfl), @id (Z.1 (y + 8) = 0) (yK hy 8 rfl), @id (Z.2.1 (y + 8) = 36) (yL hy 8 rfl), @id (Z.2.2.1 y 11 = .ref (y + 8)) (yR hy 8 rfl), up2_o, up2_e, iN_ap, iN_up, i_ix, i_inb, i_lt, i_lt0, i_0lt, i_eq, i_ne0, i_00, i_11, i_01, i_10, i_b, i_rem2, n_rem, i_add, i_mul, i_sub, i_div, i_max, i_min, rdk_0, rdk_3, kp_none, kp_int, kp_ref, kp_long, kp_double, aK_v, aK_0, aK_ite, if_true, if_false, and_self, and_true, true_and, or_false, false_or, not_true_eq_false, not_false_eq_true, ite_self, ↓reduceIte, h3, e, e0, i_eq, i_eq0, q1, false_and, and_false, stX]
      by_cases ql : lf = 0
      · simp (disch := omega) only [q1, ql, not_false_eq_true, and_self, if_true] at ihk
        simp only [ql, if_true, ihk]
      · simp (disch := omega) only [q1, ql, not_false_eq_true, false_and, if_false] at ihk
        simp only [ql, if_false, ihk]
end Yu
