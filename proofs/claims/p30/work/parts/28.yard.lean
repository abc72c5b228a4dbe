/-! what a reader read, put into a yard -/
def RAt (Z : aZ) (r kind n : Nat) : Prop := Z.1 r = kind ∧ Z.1 (r + 1) = 0 ∧ Z.1 (r + 2) = 0 ∧ Z.2.1 (r + 1) = n ∧ Z.2.1 (r + 2) = n ∧ Z.2.2.1 r 0 = .ref (r + 1) ∧ Z.2.2.1 r 1 = .ref (r + 2)
/-- k weights and prices from the i-th on -/
def pHX (y p : Nat) (f g : Nat → Nat) : Nat → Nat → (Nat → Nat → Nat) → Nat → Nat → Nat
  | 0, _, N => N
  | k + 1, i, N => pHX y p f g k (i + 1) (up2 (up2 N (y + 6) (p + i) (f i)) (y + 7) (p + i) (g i))
theorem pHX_o {y p : Nat} {f g : Nat → Nat} : ∀ (k i : Nat) (N : Nat → Nat → Nat) (a j : Nat), a ≠ y + 6 → a ≠ y + 7 → pHX y p f g k i N a j = N a j
  | 0, _, _, _, _, _, _ => rfl
  | k + 1, i, N, a, j, h1, h2 => by
    unfold pHX
    rw [pHX_o k (i + 1) _ a j h1 h2, up2_o (fun z => h2 z.1), up2_o (fun z => h1 z.1)]
/-- v, k times, from l on -/
def pkX (y v : Nat) : Nat → Nat → (Nat → Nat → Nat) → Nat → Nat → Nat
  | 0, _, N => N
  | k + 1, l, N => pkX y v k (l + 1) (up2 N (y + 1) l v)
def pwX (y : Nat) (f g : Nat → Nat) : Nat → Nat → (Nat → Nat → Nat) → Nat → Nat → Nat
  | 0, _, N => N
  | k + 1, i, N => pwX y f g k (i + 1) (pkX y (g i) (f i) (sumN f 0 i) N)
theorem pkX_o {y v : Nat} : ∀ (k l : Nat) (N : Nat → Nat → Nat) (a j : Nat), a ≠ y + 1 → pkX y v k l N a j = N a j
  | 0, _, _, _, _, _ => rfl
  | k + 1, l, N, a, j, h => by
    unfold pkX
    rw [pkX_o k (l + 1) _ a j h, up2_o (fun z => h z.1)]
theorem pwX_o {y : Nat} {f g : Nat → Nat} : ∀ (k i : Nat) (N : Nat → Nat → Nat) (a j : Nat), a ≠ y + 1 → pwX y f g k i N a j = N a j
  | 0, _, _, _, _, _ => rfl
  | k + 1, i, N, a, j, h => by
    unfold pwX
    rw [pwX_o k (i + 1) _ a j h, pkX_o _ _ _ _ _ h]
theorem sumN_le {f : Nat → Nat} {a i : Nat} : ∀ {n : Nat}, i ≤ n → sumN f a i ≤ sumN f a n
  | 0, h => by rw [Nat.le_zero.mp h]; exact Nat.le_refl _
  | n + 1, h => by
    by_cases e : i = n + 1
    · rw [e]; exact Nat.le_refl _
    · exact Nat.le_trans (sumN_le (n := n) (by omega)) (Nat.le_add_right _ _)
section Yp
variable {Z : aZ} {N : Nat → Nat → Nat} {L : Nat → Nat → Int64} {c : Nat × Nat} {y r : Nat}
theorem s_putHouse_loop {h n : Nat} {f g : Nat → Nat} (hy : YAt Z y) (hr : RAt Z r 4 6) (hd : r + 2 < y ∨ y + 15 < r) (hh : h < 6) (hn : n ≤ 6) : ∀ (k i : Nat) (N : Nat → Nat → Nat), i + k = n → N r 2 = n → (∀ j, N (r + 1) j = f j) → (∀ j, N (r + 2) j = g j) →
    ex 37 21 [some (.ref y), some (.ref r), some (.int (nI (h * 6))), some (.int (nI i))] [] (Z, iN N, L, c) = ex 37 63 [some (.ref y), some (.ref r), some (.int (nI (h * 6))), some (.int (nI n))] [] (Z, iN (pHX y (h * 6) f g k i N), L, c)
  | 0, i, N, hi, h2, hf, hg => by
    have e : i = n := by omega
    subst e
    rw [r_X6_putHouse_21]
    simp (disch := omega) only [r_X6_putHouse_22, r_X6_putHouse_23, r_X6_putHouse_26, r_X6_putHouse_29, r_X6_putHouse_30, r_X6_putHouse_33, r_X6_putHouse_34, r_X6_putHouse_35, r_X6_putHouse_36, r_X6_putHouse_37, r_X6_putHouse_40, r_X6_putHouse_41, r_X6_putHouse_42, r_X6_putHouse_43, r_X6_putHouse_44, r_X6_putHouse_47, r_X6_putHouse_48, r_X6_putHouse_49, r_X6_putHouse_50, r_X6_putHouse_51, r_X6_putHouse_54, r_X6_putHouse_55, r_X6_putHouse_56, r_X6_putHouse_57, r_X6_putHouse_60, hr.1, up2_o, up2_e, iN_ap, iN_up, i_ix, i_inb, i_lt, i_lt0, i_0lt, i_eq, i_ne0, i_00, i_11, i_01, i_10, i_b, i_rem2, n_rem, i_add, i_mul, i_sub, i_div, i_max, i_min, rdk_0, rdk_3, kp_none, kp_int, kp_ref, kp_long, kp_double, aK_v, aK_0, aK_ite, if_true, if_false, and_self, and_true, true_and, or_false, false_or, not_true_eq_false, not_false_eq_true, ite_self, ↓reduceIte, h2, Nat.lt_irrefl, pHX]
  | k + 1, i, N, hi, h2, hf, hg => by
    have e : i < n := by omega
    obtain ⟨r0, r1, r2, r3, r4, r5, r6⟩ := hr
    have ih := s_putHouse_loop (f := f) (g := g) hy ⟨r0, r1, r2, r3, r4, r5, r6⟩ hd hh hn k (i + 1) (up2 (up2 N (y + 6) (h * 6 + i) (f i)) (y + 7) (h * 6 + i) (g i)) (by omega) (by rw [up2_o (by omega), up2_o (by omega)]; exact h2) (fun j => by rw [up2_o (by omega), up2_o (by omega)]; exact hf j) (fun j => by rw [up2_o (by omega), up2_o (by omega)]; exact hg j)
    rw [r_X6_putHouse_21]
    simp (disch := omega) only [r_X6_putHouse_22, r_X6_putHouse_23, r_X6_putHouse_26, r_X6_putHouse_29, r_X6_putHouse_30, r_X6_putHouse_33, r_X6_putHouse_34, r_X6_putHouse_35, r_X6_putHouse_36, r_X6_putHouse_37, r_X6_putHouse_40, r_X6_putHouse_41, r_X6_putHouse_42, r_X6_putHouse_43, r_X6_putHouse_44, r_X6_putHouse_47, r_X6_putHouse_48, r_X6_putHouse_49, r_X6_putHouse_50, r_X6_putHouse_51, r_X6_putHouse_54, r_X6_putHouse_55, r_X6_putHouse_56, r_X6_putHouse_57, r_X6_putHouse_60, hy.1, @id (Z.1 (y + 6) = 0) (yK hy 6 rfl), @id (Z.2.1 (y + 6) = 36) (yL hy 6 rfl), @id (Z.2.2.1 y 9 = .ref (y + 6)) (yR hy 6 rfl), @id (Z.1 (y + 7) = 0) (yK hy 7 rfl), @id (Z.2.1 (y + 7) = 36) (yL hy 7 rfl), @id (Z.2.2.1 y 10 = .ref (y + 7)) (yR hy 7 rfl), r0, r1, r2, r3, r4, r5, r6, up2_o, up2_e, iN_ap, iN_up, i_ix, i_inb, i_lt, i_lt0, i_0lt, i_eq, i_ne0, i_00, i_11, i_01, i_10, i_b, i_rem2, n_rem, i_add, i_mul, i_sub, i_div, i_max, i_min, rdk_0, rdk_3, kp_none, kp_int, kp_ref, kp_long, kp_double, aK_v, aK_0, aK_ite, if_true, if_false, and_self, and_true, true_and, or_false, false_or, not_true_eq_false, not_false_eq_true, ite_self, ↓reduceIte, h2, e, hf, hg, pHX, ih]
theorem s_putHouse {n : Nat} (hy : YAt Z y) (hr : RAt Z r 4 6) (hd : r + 2 < y ∨ y + 15 < r) (hh : N y 1 < 6) (hn : N r 2 = n) (hn6 : n ≤ 6) :
    ex 37 0 [some (.ref y), some (.ref r), none, none] [] (Z, iN N, L, c) = some (.inl none, (Z, iN (up2 (up2 (pHX y (N y 1 * 6) (N (r + 1)) (N (r + 2)) n 0 N) (y + 3) (N y 1) n) y 1 (N y 1 + 1)), L, c)) := by
  have hl := s_putHouse_loop (f := N (r + 1)) (g := N (r + 2)) (L := L) (c := c) hy hr hd hh hn6 n 0 N (by omega) hn (fun j => rfl) (fun j => rfl)
  have o1 : pHX y (N y 1 * 6) (N (r + 1)) (N (r + 2)) n 0 N y 1 = N y 1 := pHX_o _ _ _ _ _ (by omega) (by omega)
  have o2 : pHX y (N y 1 * 6) (N (r + 1)) (N (r + 2)) n 0 N r 2 = N r 2 := pHX_o _ _ _ _ _ (by omega) (by omega)
  simp (disch := omega) only [r_X6_putHouse_0, r_X6_putHouse_1, r_X6_putHouse_4, r_X6_putHouse_6, r_X6_putHouse_9, r_X6_putHouse_10, r_X6_putHouse_11, r_X6_putHouse_14, r_X6_putHouse_15, r_X6_putHouse_18, r_X6_putHouse_19, r_X6_putHouse_20, hy.1, @id (Z.1 (y + 3) = 0) (yK hy 3 rfl), @id (Z.2.1 (y + 3) = 6) (yL hy 3 rfl), @id (Z.2.2.1 y 6 = .ref (y + 3)) (yR hy 3 rfl), up2_o, up2_e, iN_ap, iN_up, i_ix, i_inb, i_lt, i_lt0, i_0lt, i_eq, i_ne0, i_00, i_11, i_01, i_10, i_b, i_rem2, n_rem, i_add, i_mul, i_sub, i_div, i_max, i_min, rdk_0, rdk_3, kp_none, kp_int, kp_ref, kp_long, kp_double, aK_v, aK_0, aK_ite, if_true, if_false, and_self, and_true, true_and, or_false, false_or, not_true_eq_false, not_false_eq_true, ite_self, ↓reduceIte, hh, s_placeOf, Nat.add_zero, hl]
  simp (disch := omega) only [r_X6_putHouse_63, r_X6_putHouse_64, r_X6_putHouse_67, r_X6_putHouse_68, r_X6_putHouse_71, r_X6_putHouse_72, r_X6_putHouse_75, r_X6_putHouse_76, r_X6_putHouse_77, r_X6_putHouse_78, r_X6_putHouse_81, r_X6_putHouse_82, r_X6_putHouse_83, r_X6_putHouse_86, hy.1, @id (Z.1 (y + 3) = 0) (yK hy 3 rfl), @id (Z.2.1 (y + 3) = 6) (yL hy 3 rfl), @id (Z.2.2.1 y 6 = .ref (y + 3)) (yR hy 3 rfl), hr.1, up2_o, up2_e, iN_ap, iN_up, i_ix, i_inb, i_lt, i_lt0, i_0lt, i_eq, i_ne0, i_00, i_11, i_01, i_10, i_b, i_rem2, n_rem, i_add, i_mul, i_sub, i_div, i_max, i_min, rdk_0, rdk_3, kp_none, kp_int, kp_ref, kp_long, kp_double, aK_v, aK_0, aK_ite, if_true, if_false, and_self, and_true, true_and, or_false, false_or, not_true_eq_false, not_false_eq_true, ite_self, ↓reduceIte, o1, o2, hn]
theorem s_putWinds_in {n i l : Nat} {f g : Nat → Nat} (hy : YAt Z y) (hr : RAt Z r 8 60) (hd : r + 2 < y ∨ y + 15 < r) (hn : n ≤ 60) (hi : i < n) (hl : l + f i ≤ 60) : ∀ (k j : Nat) (N : Nat → Nat → Nat), j + k = f i → (∀ j, N (r + 1) j = g j) → (∀ j, N (r + 2) j = f j) →
    ex 38 15 [some (.ref y), some (.ref r), some (.int (nI (l + j))), some (.int (nI i)), some (.int (nI j))] [] (Z, iN N, L, c) = ex 38 53 [some (.ref y), some (.ref r), some (.int (nI (l + f i))), some (.int (nI i)), some (.int (nI (f i)))] [] (Z, iN (pkX y (g i) k (l + j) N), L, c)
  | 0, j, N, hj, hf, hg => by
    have e : j = f i := by omega
    subst e
    obtain ⟨r0, r1, r2, r3, r4, r5, r6⟩ := hr
    rw [r_X6_putWinds_15]
    simp (disch := omega) only [r_X6_putWinds_17, r_X6_putWinds_18, r_X6_putWinds_21, r_X6_putWinds_22, r_X6_putWinds_23, r_X6_putWinds_26, r_X6_putWinds_27, r_X6_putWinds_29, r_X6_putWinds_32, r_X6_putWinds_33, r_X6_putWinds_36, r_X6_putWinds_37, r_X6_putWinds_38, r_X6_putWinds_41, r_X6_putWinds_42, r_X6_putWinds_43, r_X6_putWinds_44, r_X6_putWinds_47, r_X6_putWinds_50, r0, r1, r2, r3, r4, r5, r6, up2_o, up2_e, iN_ap, iN_up, i_ix, i_inb, i_lt, i_lt0, i_0lt, i_eq, i_ne0, i_00, i_11, i_01, i_10, i_b, i_rem2, n_rem, i_add, i_mul, i_sub, i_div, i_max, i_min, rdk_0, rdk_3, kp_none, kp_int, kp_ref, kp_long, kp_double, aK_v, aK_0, aK_ite, if_true, if_false, and_self, and_true, true_and, or_false, false_or, not_true_eq_false, not_false_eq_true, ite_self, ↓reduceIte, hg, Nat.lt_irrefl, pkX]
  | k + 1, j, N, hj, hf, hg => by
    have e : j < f i := by omega
    have e2 : l + j < 60 := by omega
    have ih := s_putWinds_in (f := f) (g := g) hy hr hd hn hi hl k (j + 1) (up2 N (y + 1) (l + j) (g i)) (by omega) (fun j => by rw [up2_o (by omega)]; exact hf j) (fun j => by rw [up2_o (by omega)]; exact hg j)
    rw [← Nat.add_assoc] at ih
    obtain ⟨r0, r1, r2, r3, r4, r5, r6⟩ := hr
    rw [r_X6_putWinds_15]
    simp (disch := omega) only [r_X6_putWinds_17, r_X6_putWinds_18, r_X6_putWinds_21, r_X6_putWinds_22, r_X6_putWinds_23, r_X6_putWinds_26, r_X6_putWinds_27, r_X6_putWinds_29, r_X6_putWinds_32, r_X6_putWinds_33, r_X6_putWinds_36, r_X6_putWinds_37, r_X6_putWinds_38, r_X6_putWinds_41, r_X6_putWinds_42, r_X6_putWinds_43, r_X6_putWinds_44, r_X6_putWinds_47, r_X6_putWinds_50, hy.1, @id (Z.1 (y + 1) = 0) (yK hy 1 rfl), @id (Z.2.1 (y + 1) = 60) (yL hy 1 rfl), @id (Z.2.2.1 y 4 = .ref (y + 1)) (yR hy 1 rfl), r0, r1, r2, r3, r4, r5, r6, up2_o, up2_e, iN_ap, iN_up, i_ix, i_inb, i_lt, i_lt0, i_0lt, i_eq, i_ne0, i_00, i_11, i_01, i_10, i_b, i_rem2, n_rem, i_add, i_mul, i_sub, i_div, i_max, i_min, rdk_0, rdk_3, kp_none, kp_int, kp_ref, kp_long, kp_double, aK_v, aK_0, aK_ite, if_true, if_false, and_self, and_true, true_and, or_false, false_or, not_true_eq_false, not_false_eq_true, ite_self, ↓reduceIte, hf, hg, e, e2, pkX, ih]
theorem s_putWinds_loop {n : Nat} {f g : Nat → Nat} (hy : YAt Z y) (hr : RAt Z r 8 60) (hd : r + 2 < y ∨ y + 15 < r) (hn : n ≤ 60) (hs : sumN f 0 n ≤ 60) : ∀ (k i : Nat) (N : Nat → Nat → Nat) (a4 : Option Value), i + k = n → N r 2 = n → (∀ j, N (r + 1) j = g j) → (∀ j, N (r + 2) j = f j) →
    ex 38 4 [some (.ref y), some (.ref r), some (.int (nI (sumN f 0 i))), some (.int (nI i)), a4] [] (Z, iN N, L, c) = some (.inl none, (Z, iN (up2 (pwX y f g k i N) y 2 (sumN f 0 n)), L, c))
  | 0, i, N, a4, hi, h2, hf, hg => by
    have e : i = n := by omega
    subst e
    simp (disch := omega) only [r_X6_putWinds_0, r_X6_putWinds_1, r_X6_putWinds_2, r_X6_putWinds_3, r_X6_putWinds_4, r_X6_putWinds_5, r_X6_putWinds_6, r_X6_putWinds_9, r_X6_putWinds_12, r_X6_putWinds_13, r_X6_putWinds_15, r_X6_putWinds_17, r_X6_putWinds_18, r_X6_putWinds_21, r_X6_putWinds_22, r_X6_putWinds_23, r_X6_putWinds_26, r_X6_putWinds_27, r_X6_putWinds_29, r_X6_putWinds_32, r_X6_putWinds_33, r_X6_putWinds_36, r_X6_putWinds_37, r_X6_putWinds_38, r_X6_putWinds_41, r_X6_putWinds_42, r_X6_putWinds_43, r_X6_putWinds_44, r_X6_putWinds_47, r_X6_putWinds_50, r_X6_putWinds_53, r_X6_putWinds_56, r_X6_putWinds_59, r_X6_putWinds_60, r_X6_putWinds_61, r_X6_putWinds_64, hr.1, hy.1, up2_o, up2_e, iN_ap, iN_up, i_ix, i_inb, i_lt, i_lt0, i_0lt, i_eq, i_ne0, i_00, i_11, i_01, i_10, i_b, i_rem2, n_rem, i_add, i_mul, i_sub, i_div, i_max, i_min, rdk_0, rdk_3, kp_none, kp_int, kp_ref, kp_long, kp_double, aK_v, aK_0, aK_ite, if_true, if_false, and_self, and_true, true_and, or_false, false_or, not_true_eq_false, not_false_eq_true, ite_self, ↓reduceIte, h2, Nat.lt_irrefl, pwX]
  | k + 1, i, N, a4, hi, h2, hf, hg => by
    have e : i < n := by omega
    have hs1 : sumN f 0 i + f i ≤ 60 := by
      have := sumN_le (f := f) (a := 0) (show i + 1 ≤ n by omega)
      rw [sumN_succ, Nat.zero_add] at this
      omega
    have hin := s_putWinds_in (f := f) (g := g) (L := L) (c := c) hy hr hd hn e hs1 (f i) 0 N (by omega) hf hg
    rw [Nat.add_zero] at hin
    have ih := fun a4 => s_putWinds_loop (f := f) (g := g) hy hr hd hn hs k (i + 1) (pkX y (g i) (f i) (sumN f 0 i) N) a4 (by omega) (by rw [pkX_o _ _ _ _ _ (by omega)]; exact h2) (fun j => by rw [pkX_o _ _ _ _ _ (by omega)]; exact hf j) (fun j => by rw [pkX_o _ _ _ _ _ (by omega)]; exact hg j)
    rw [sumN_succ, Nat.zero_add] at ih
    rw [r_X6_putWinds_4]
    simp (disch := omega) only [r_X6_putWinds_5, r_X6_putWinds_6, r_X6_putWinds_9, r_X6_putWinds_12, r_X6_putWinds_13, hr.1, up2_o, up2_e, iN_ap, iN_up, i_ix, i_inb, i_lt, i_lt0, i_0lt, i_eq, i_ne0, i_00, i_11, i_01, i_10, i_b, i_rem2, n_rem, i_add, i_mul, i_sub, i_div, i_max, i_min, rdk_0, rdk_3, kp_none, kp_int, kp_ref, kp_long, kp_double, aK_v, aK_0, aK_ite, if_true, if_false, and_self, and_true, true_and, or_false, false_or, not_true_eq_false, not_false_eq_true, ite_self, ↓reduceIte, h2, e, hin]
    simp (disch := omega) only [r_X6_putWinds_53, r_X6_putWinds_56, up2_o, up2_e, iN_ap, iN_up, i_ix, i_inb, i_lt, i_lt0, i_0lt, i_eq, i_ne0, i_00, i_11, i_01, i_10, i_b, i_rem2, n_rem, i_add, i_mul, i_sub, i_div, i_max, i_min, rdk_0, rdk_3, kp_none, kp_int, kp_ref, kp_long, kp_double, aK_v, aK_0, aK_ite, if_true, if_false, and_self, and_true, true_and, or_false, false_or, not_true_eq_false, not_false_eq_true, ite_self, ↓reduceIte, ih, pwX]
theorem s_putWinds {n : Nat} (hy : YAt Z y) (hr : RAt Z r 8 60) (hd : r + 2 < y ∨ y + 15 < r) (h2 : N r 2 = n) (hn : n ≤ 60) (hs : sumN (N (r + 2)) 0 n ≤ 60) :
    ex 38 0 [some (.ref y), some (.ref r), none, none, none] [] (Z, iN N, L, c) = some (.inl none, (Z, iN (up2 (pwX y (N (r + 2)) (N (r + 1)) n 0 N) y 2 (sumN (N (r + 2)) 0 n)), L, c)) := by
  simp only [r_X6_putWinds_0, r_X6_putWinds_1, r_X6_putWinds_2, r_X6_putWinds_3, kp_none, kp_int, kp_ref]
  exact s_putWinds_loop hy hr hd hn hs n 0 N none (by omega) h2 (fun j => rfl) (fun j => rfl)
end Yp
