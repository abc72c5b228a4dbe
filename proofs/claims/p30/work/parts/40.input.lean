/-! the buffer -/
def TAt (Z : aZ) (t : Nat) : Prop := Z.1 t = 5 ∧ Z.1 (t + 1) = 0 ∧ Z.2.1 (t + 1) = 60 ∧ Z.2.2.1 t 0 = .ref (t + 1)
section Yb
variable {Z : aZ} {N : Nat → Nat → Nat} {L : Nat → Nat → Int64} {c : Nat × Nat} {t : Nat}
theorem s_put {x : Nat} (ht : TAt Z t) (h1 : N t 1 ≤ 60) :
    ex 9 0 [some (.ref t), some (.int (nI x))] [] (Z, iN N, L, c) = some (.inl (some (.int (nI (if N t 1 < 60 then N t 1 + 1 else N t 1)))), (Z, iN (if N t 1 < 60 then up2 (up2 N (t + 1) (N t 1) x) t 1 (N t 1 + 1) else N), L, c)) := by
  obtain ⟨t0, t1, t2, t3⟩ := ht
  by_cases q : N t 1 < 60
  · simp (disch := omega) only [r_X1_put_0, r_X1_put_1, r_X1_put_4, r_X1_put_6, r_X1_put_9, r_X1_put_10, r_X1_put_13, r_X1_put_14, r_X1_put_17, r_X1_put_18, r_X1_put_19, r_X1_put_20, r_X1_put_21, r_X1_put_24, r_X1_put_25, r_X1_put_26, r_X1_put_29, r_X1_put_30, r_X1_put_33, t0, t1, t2, t3, up2_o, up2_e, iN_ap, iN_up, i_ix, i_inb, i_lt, i_lt0, i_0lt, i_eq, i_ne0, i_00, i_11, i_01, i_10, i_b, i_rem2, n_rem, i_add, i_mul, i_sub, i_div, i_max, i_min, rdk_0, rdk_3, kp_none, kp_int, kp_ref, kp_long, kp_double, aK_v, aK_0, aK_ite, if_true, if_false, and_self, and_true, true_and, or_false, false_or, not_true_eq_false, not_false_eq_true, ite_self, ↓reduceIte, q]
  · simp (disch := omega) only [r_X1_put_0, r_X1_put_1, r_X1_put_4, r_X1_put_6, r_X1_put_9, r_X1_put_10, r_X1_put_13, r_X1_put_14, r_X1_put_17, r_X1_put_18, r_X1_put_19, r_X1_put_20, r_X1_put_21, r_X1_put_24, r_X1_put_25, r_X1_put_26, r_X1_put_29, r_X1_put_30, r_X1_put_33, t0, t1, t2, t3, up2_o, up2_e, iN_ap, iN_up, i_ix, i_inb, i_lt, i_lt0, i_0lt, i_eq, i_ne0, i_00, i_11, i_01, i_10, i_b, i_rem2, n_rem, i_add, i_mul, i_sub, i_div, i_max, i_min, rdk_0, rdk_3, kp_none, kp_int, kp_ref, kp_long, kp_double, aK_v, aK_0, aK_ite, if_true, if_false, and_self, and_true, true_and, or_false, false_or, not_true_eq_false, not_false_eq_true, ite_self, ↓reduceIte, q]
theorem s_empty (ht : TAt Z t) :
    ex 10 0 [some (.ref t), none] [] (Z, iN N, L, c) = some (.inl (some (.int (nI (N t 1)))), (Z, iN (up2 N t 1 0), L, c)) := by
  have t0 := ht.1
  simp (disch := omega) only [r_X1_empty_0, r_X1_empty_1, r_X1_empty_4, r_X1_empty_5, r_X1_empty_6, r_X1_empty_7, r_X1_empty_10, r_X1_empty_11, t0, up2_o, up2_e, iN_ap, iN_up, i_ix, i_inb, i_lt, i_lt0, i_0lt, i_eq, i_ne0, i_00, i_11, i_01, i_10, i_b, i_rem2, n_rem, i_add, i_mul, i_sub, i_div, i_max, i_min, rdk_0, rdk_3, kp_none, kp_int, kp_ref, kp_long, kp_double, aK_v, aK_0, aK_ite, if_true, if_false, and_self, and_true, true_and, or_false, false_or, not_true_eq_false, not_false_eq_true, ite_self, ↓reduceIte]
end Yb
