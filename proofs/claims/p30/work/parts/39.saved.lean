/-! the saved yards -/
def VAt (Z : aZ) (v : Nat) : Prop := Z.1 v = 6 ∧ Z.1 (v + 1) = 2 ∧ Z.2.1 (v + 1) = 6 ∧ Z.2.2.1 v 0 = .ref (v + 1) ∧ ∀ k, k < 6 → Z.2.2.1 (v + 1) k = .ref (v + 2 + 16 * k) ∧ YAt Z (v + 2 + 16 * k)
theorem yC_o {N : Nat → Nat → Nat} {o y a j : Nat} (h : a < y ∨ y + 15 < a) : yC N o y 16 a j = N a j := if_neg (fun z => by omega)
section Yx
variable {Z : aZ} {N : Nat → Nat → Nat} {L : Nat → Nat → Int64} {c : Nat × Nat} {y v : Nat}
theorem s_save {k : Nat} (hy : YAt Z y) (hv : VAt Z v) (hd : y + 15 < v) (h1 : N v 1 < 6) (h2 : N v 2 ≤ 6) (hk : (N v 1 + N v 2) % 6 = k) :
    ex 14 0 [some (.ref v), some (.ref y)] [] (Z, iN N, L, c) = some (.inl none, (Z, iN (if N v 2 < 6 then up2 (yC N y (v + 2 + 16 * k) 16) v 2 (N v 2 + 1) else up2 (yC N y (v + 2 + 16 * k) 16) v 1 ((N v 1 + 1) % 6)), L, c)) := by
  have k6 : k < 6 := by omega
  obtain ⟨v0, v1, v2, v3, v4⟩ := hv
  obtain ⟨v5, v6⟩ := v4 k k6
  have v7 := v6.1
  have hc := s_copyFrom (N := N) (L := L) (c := c) v6 hy (by omega)
  have o1 : yC N y (v + 2 + 16 * k) 16 v 1 = N v 1 := yC_o (by omega)
  have o2 : yC N y (v + 2 + 16 * k) 16 v 2 = N v 2 := yC_o (by omega)
  by_cases q : N v 2 < 6
  · simp (disch := omega) only [r_X2_save_0, r_X2_save_1, r_X2_save_4, r_X2_save_5, r_X2_save_8, r_X2_save_9, r_X2_save_12, r_X2_save_13, r_X2_save_15, r_X2_save_16, r_X2_save_17, r_X2_save_18, r_X2_save_21, r_X2_save_22, r_X2_save_25, r_X2_save_27, r_X2_save_30, r_X2_save_31, r_X2_save_32, r_X2_save_35, r_X2_save_36, r_X2_save_37, r_X2_save_40, r_X2_save_43, r_X2_save_44, r_X2_save_45, r_X2_save_48, r_X2_save_49, r_X2_save_50, r_X2_save_52, r_X2_save_53, r_X2_save_56, v0, v1, v2, v3, up2_o, up2_e, iN_ap, iN_up, i_ix, i_inb, i_lt, i_lt0, i_0lt, i_eq, i_ne0, i_00, i_11, i_01, i_10, i_b, i_rem2, n_rem, i_add, i_mul, i_sub, i_div, i_max, i_min, rdk_0, rdk_3, kp_none, kp_int, kp_ref, kp_long, kp_double, aK_v, aK_0, aK_ite, if_true, if_false, and_self, and_true, true_and, or_false, false_or, not_true_eq_false, not_false_eq_true, ite_self, ↓reduceIte, hk, v5, v7, hc, o1, o2, q]
  · simp (disch := omega) only [r_X2_save_0, r_X2_save_1, r_X2_save_4, r_X2_save_5, r_X2_save_8, r_X2_save_9, r_X2_save_12, r_X2_save_13, r_X2_save_15, r_X2_save_16, r_X2_save_17, r_X2_save_18, r_X2_save_21, r_X2_save_22, r_X2_save_25, r_X2_save_27, r_X2_save_30, r_X2_save_31, r_X2_save_32, r_X2_save_35, r_X2_save_36, r_X2_save_37, r_X2_save_40, r_X2_save_43, r_X2_save_44, r_X2_save_45, r_X2_save_48, r_X2_save_49, r_X2_save_50, r_X2_save_52, r_X2_save_53, r_X2_save_56, v0, v1, v2, v3, up2_o, up2_e, iN_ap, iN_up, i_ix, i_inb, i_lt, i_lt0, i_0lt, i_eq, i_ne0, i_00, i_11, i_01, i_10, i_b, i_rem2, n_rem, i_add, i_mul, i_sub, i_div, i_max, i_min, rdk_0, rdk_3, kp_none, kp_int, kp_ref, kp_long, kp_double, aK_v, aK_0, aK_ite, if_true, if_false, and_self, and_true, true_and, or_false, false_or, not_true_eq_false, not_false_eq_true, ite_self, ↓reduceIte, hk, v5, v7, hc, o1, o2, q]
end Yx
