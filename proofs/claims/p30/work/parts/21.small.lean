/-! sums over rows -/
section Sm
variable {Z : aZ} {N : Nat → Nat → Nat} {L : Nat → Nat → Int64} {c : Nat × Nat}
theorem sumN_succ (f : Nat → Nat) (a n : Nat) : sumN f a (n + 1) = sumN f a n + f (a + n) := rfl
theorem s_sumOf_loop {r fr len : Nat} (h0 : Z.1 r = 0) (hl : fr + len ≤ Z.2.1 r) (hz : Z.2.1 r ≤ 100000) : ∀ (k s : Nat), s + k = len →
    ex 84 5 [some (.ref r), some (.int (nI fr)), some (.int (nI len)), some (.int (nI (sumN (N r) fr s))), some (.int (nI (fr + s)))] [] (Z, iN N, L, c) = some (.inl (some (.int (nI (sumN (N r) fr len)))), (Z, iN N, L, c))
  | 0, s, h => by
    have e : s = len := by omega
    subst e
    simp (disch := omega) only [r_X7_sumOf_0, r_X7_sumOf_1, r_X7_sumOf_2, r_X7_sumOf_3, r_X7_sumOf_5, r_X7_sumOf_7, r_X7_sumOf_8, r_X7_sumOf_9, r_X7_sumOf_10, r_X7_sumOf_13, r_X7_sumOf_14, r_X7_sumOf_15, r_X7_sumOf_17, r_X7_sumOf_18, r_X7_sumOf_19, r_X7_sumOf_20, r_X7_sumOf_23, r_X7_sumOf_26, r_X7_sumOf_27, h0, up2_o, up2_e, iN_ap, iN_up, i_ix, i_inb, i_lt, i_lt0, i_0lt, i_eq, i_ne0, i_00, i_11, i_01, i_10, i_b, i_rem2, n_rem, i_add, i_mul, i_sub, i_div, i_max, i_min, rdk_0, rdk_3, kp_none, kp_int, kp_ref, kp_long, kp_double, aK_v, aK_0, aK_ite, if_true, if_false, and_self, and_true, true_and, or_false, false_or, not_true_eq_false, not_false_eq_true, ite_self, ↓reduceIte, Nat.lt_irrefl]
  | k + 1, s, h => by
    have e : fr + s < fr + len := by omega
    have ih := s_sumOf_loop h0 hl hz k (s + 1) (by omega)
    rw [r_X7_sumOf_5]
    simp (disch := omega) only [r_X7_sumOf_0, r_X7_sumOf_1, r_X7_sumOf_2, r_X7_sumOf_3, r_X7_sumOf_7, r_X7_sumOf_8, r_X7_sumOf_9, r_X7_sumOf_10, r_X7_sumOf_13, r_X7_sumOf_14, r_X7_sumOf_15, r_X7_sumOf_17, r_X7_sumOf_18, r_X7_sumOf_19, r_X7_sumOf_20, r_X7_sumOf_23, r_X7_sumOf_26, r_X7_sumOf_27, h0, up2_o, up2_e, iN_ap, iN_up, i_ix, i_inb, i_lt, i_lt0, i_0lt, i_eq, i_ne0, i_00, i_11, i_01, i_10, i_b, i_rem2, n_rem, i_add, i_mul, i_sub, i_div, i_max, i_min, rdk_0, rdk_3, kp_none, kp_int, kp_ref, kp_long, kp_double, aK_v, aK_0, aK_ite, if_true, if_false, and_self, and_true, true_and, or_false, false_or, not_true_eq_false, not_false_eq_true, ite_self, ↓reduceIte, e]
    exact ih
theorem s_sumOf {r fr len : Nat} (h0 : Z.1 r = 0) (hl : fr + len ≤ Z.2.1 r) (hz : Z.2.1 r ≤ 100000) :
    ex 84 0 [some (.ref r), some (.int (nI fr)), some (.int (nI len)), none, none] [] (Z, iN N, L, c) = some (.inl (some (.int (nI (sumN (N r) fr len)))), (Z, iN N, L, c)) := by
  rw [r_X7_sumOf_0, r_X7_sumOf_1, r_X7_sumOf_2, r_X7_sumOf_3]
  exact s_sumOf_loop h0 hl hz len 0 (by omega)
end Sm
