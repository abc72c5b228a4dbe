/-! what is set on a day; one yard copied into another -/
/-- how many of the first n of a house were set on a day -/
def onH (N : Nat → Nat → Nat) (y d h : Nat) : Nat → Nat := sumN (fun i => if N (y + 8) i = d then 1 else 0) (h * 6)
def onAll (N : Nat → Nat → Nat) (y d : Nat) : Nat → Nat := fun h => onH N y d h (N (y + 5) h)
section Yo
variable {Z : aZ} {N : Nat → Nat → Nat} {L : Nat → Nat → Int64} {c : Nat × Nat} {y : Nat}
theorem s_setOn_in {d h s : Nat} (hy : YAt Z y) (hd : d < 2147483648) (hh : h < 6) (hs : N (y + 5) h ≤ 6) (hb : ∀ p, p < 36 → N (y + 8) p < 2147483648) : ∀ (k i : Nat), i + k = N (y + 5) h →
    ex 57 13 [some (.ref y), some (.int (nI d)), some (.int (nI (s + onH N y d h i))), some (.int (nI h)), some (.int (nI i))] [] (Z, iN N, L, c) = ex 57 53 [some (.ref y), some (.int (nI d)), some (.int (nI (s + onAll N y d h))), some (.int (nI h)), some (.int (nI (N (y + 5) h)))] [] (Z, iN N, L, c)
  | 0, i, hi => by
    have e : i = N (y + 5) h := by omega
    rw [r_X6_setOn_13]
    subst e
    simp (disch := omega) only [r_X6_setOn_15, r_X6_setOn_16, r_X6_setOn_19, r_X6_setOn_20, r_X6_setOn_21, r_X6_setOn_24, r_X6_setOn_25, r_X6_setOn_26, r_X6_setOn_29, r_X6_setOn_30, r_X6_setOn_32, r_X6_setOn_35, r_X6_setOn_36, r_X6_setOn_37, r_X6_setOn_40, r_X6_setOn_41, r_X6_setOn_44, r_X6_setOn_45, r_X6_setOn_46, r_X6_setOn_47, r_X6_setOn_50, hy.1, @id (Z.1 (y + 5) = 0) (yK hy 5 rfl), @id (Z.2.1 (y + 5) = 6) (yL hy 5 rfl), @id (Z.2.2.1 y 8 = .ref (y + 5)) (yR hy 5 rfl), up2_o, up2_e, iN_ap, iN_up, i_ix, i_inb, i_lt, i_lt0, i_0lt, i_eq, i_ne0, i_00, i_11, i_01, i_10, i_b, i_rem2, n_rem, i_add, i_mul, i_sub, i_div, i_max, i_min, rdk_0, rdk_3, kp_none, kp_int, kp_ref, kp_long, kp_double, aK_v, aK_0, aK_ite, if_true, if_false, and_self, and_true, true_and, or_false, false_or, not_true_eq_false, not_false_eq_true, ite_self, ↓reduceIte, Nat.lt_irrefl, onAll]
  | k + 1, i, hi => by
    have e : i < N (y + 5) h := by omega
    have hp := hb (h * 6 + i) (by omega)
    have ih := s_setOn_in (s := s) hy hd hh hs hb k (i + 1) (by omega)
    rw [r_X6_setOn_13]
    by_cases q : N (y + 8) (h * 6 + i) = d
    · have e2 : s + onH N y d h i + 1 = s + onH N y d h (i + 1) := by
        show _ = s + (onH N y d h i + if N (y + 8) (h * 6 + i) = d then 1 else 0)
        rw [if_pos q, Nat.add_assoc]
      simp (disch := omega) only [r_X6_setOn_15, r_X6_setOn_16, r_X6_setOn_19, r_X6_setOn_20, r_X6_setOn_21, r_X6_setOn_24, r_X6_setOn_25, r_X6_setOn_26, r_X6_setOn_29, r_X6_setOn_30, r_X6_setOn_32, r_X6_setOn_35, r_X6_setOn_36, r_X6_setOn_37, r_X6_setOn_40, r_X6_setOn_41, r_X6_setOn_44, r_X6_setOn_45, r_X6_setOn_46, r_X6_setOn_47, r_X6_setOn_50, hy.1, @id (Z.1 (y + 5) = 0) (yK hy 5 rfl), @id (Z.2.1 (y + 5) = 6) (yL hy 5 rfl), @id (Z.2.2.1 y 8 = .ref (y + 5)) (yR hy 5 rfl), @id (Z.1 (y + 8) = 0) (yK hy 8 rfl), @id (Z.2.1 (y + 8) = 36) (yL hy 8 rfl), @id (Z.2.2.1 y 11 = .ref (y + 8)) (yR hy 8 rfl), up2_o, up2_e, iN_ap, iN_up, i_ix, i_inb, i_lt, i_lt0, i_0lt, i_eq, i_ne0, i_00, i_11, i_01, i_10, i_b, i_rem2, n_rem, i_add, i_mul, i_sub, i_div, i_max, i_min, rdk_0, rdk_3, kp_none, kp_int, kp_ref, kp_long, kp_double, aK_v, aK_0, aK_ite, if_true, if_false, and_self, and_true, true_and, or_false, false_or, not_true_eq_false, not_false_eq_true, ite_self, ↓reduceIte, e, s_placeOf, i_eq, q, e2, ih]
    · have e2 : s + onH N y d h i + 0 = s + onH N y d h (i + 1) := by
        show _ = s + (onH N y d h i + if N (y + 8) (h * 6 + i) = d then 1 else 0)
        rw [if_neg q, Nat.add_assoc]
      simp (disch := omega) only [r_X6_setOn_15, r_X6_setOn_16, r_X6_setOn_19, r_X6_setOn_20, r_X6_setOn_21, r_X6_setOn_24, r_X6_setOn_25, r_X6_setOn_26, r_X6_setOn_29, r_X6_setOn_30, r_X6_setOn_32, r_X6_setOn_35, r_X6_setOn_36, r_X6_setOn_37, r_X6_setOn_40, r_X6_setOn_41, r_X6_setOn_44, r_X6_setOn_45, r_X6_setOn_46, r_X6_setOn_47, r_X6_setOn_50, hy.1, @id (Z.1 (y + 5) = 0) (yK hy 5 rfl), @id (Z.2.1 (y + 5) = 6) (yL hy 5 rfl), @id (Z.2.2.1 y 8 = .ref (y + 5)) (yR hy 5 rfl), @id (Z.1 (y + 8) = 0) (yK hy 8 rfl), @id (Z.2.1 (y + 8) = 36) (yL hy 8 rfl), @id (Z.2.2.1 y 11 = .ref (y + 8)) (yR hy 8 rfl), up2_o, up2_e, iN_ap, iN_up, i_ix, i_inb, i_lt, i_lt0, i_0lt, i_eq, i_ne0, i_00, i_11, i_01, i_10, i_b, i_rem2, n_rem, i_add, i_mul, i_sub, i_div, i_max, i_min, rdk_0, rdk_3, kp_none, kp_int, kp_ref, kp_long, kp_double, aK_v, aK_0, aK_ite, if_true, if_false, and_self, and_true, true_and, or_false, false_or, not_true_eq_false, not_false_eq_true, ite_self, ↓reduceIte, e, s_placeOf, i_eq, q, e2, ih]
theorem s_setOn_loop {d : Nat} (hy : YAt Z y) (hd : d < 2147483648) (hs : ∀ h, h < 6 → N (y + 5) h ≤ 6) (hb : ∀ p, p < 36 → N (y + 8) p < 2147483648) : ∀ (k h : Nat) (a4 : Option Value), h + k = 6 →
    ex 57 4 [some (.ref y), some (.int (nI d)), some (.int (nI (sumN (onAll N y d) 0 h))), some (.int (nI h)), a4] [] (Z, iN N, L, c) = some (.inl (some (.int (nI (sumN (onAll N y d) 0 6)))), (Z, iN N, L, c))
  | 0, h, a4, e => by
    have e : h = 6 := by omega
    subst e
    simp (disch := omega) only [r_X6_setOn_0, r_X6_setOn_1, r_X6_setOn_2, r_X6_setOn_3, r_X6_setOn_4, r_X6_setOn_5, r_X6_setOn_7, r_X6_setOn_10, r_X6_setOn_11, r_X6_setOn_13, r_X6_setOn_15, r_X6_setOn_16, r_X6_setOn_19, r_X6_setOn_20, r_X6_setOn_21, r_X6_setOn_24, r_X6_setOn_25, r_X6_setOn_26, r_X6_setOn_29, r_X6_setOn_30, r_X6_setOn_32, r_X6_setOn_35, r_X6_setOn_36, r_X6_setOn_37, r_X6_setOn_40, r_X6_setOn_41, r_X6_setOn_44, r_X6_setOn_45, r_X6_setOn_46, r_X6_setOn_47, r_X6_setOn_50, r_X6_setOn_53, r_X6_setOn_56, r_X6_setOn_59, r_X6_setOn_60, up2_o, up2_e, iN_ap, iN_up, i_ix, i_inb, i_lt, i_lt0, i_0lt, i_eq, i_ne0, i_00, i_11, i_01, i_10, i_b, i_rem2, n_rem, i_add, i_mul, i_sub, i_div, i_max, i_min, rdk_0, rdk_3, kp_none, kp_int, kp_ref, kp_long, kp_double, aK_v, aK_0, aK_ite, if_true, if_false, and_self, and_true, true_and, or_false, false_or, not_true_eq_false, not_false_eq_true, ite_self, ↓reduceIte, Nat.lt_irrefl]
  | k + 1, h, a4, e => by
    have e1 : h < 6 := by omega
    have ih := fun a4 => s_setOn_loop hy hd hs hb k (h + 1) a4 (by omega)
    have hi := s_setOn_in (L := L) (c := c) (s := sumN (onAll N y d) 0 h) hy hd e1 (hs h e1) hb (N (y + 5) h) 0 (by omega)
    rw [show sumN (onAll N y d) 0 h + onH N y d h 0 = sumN (onAll N y d) 0 h from rfl] at hi
    rw [sumN_succ, Nat.zero_add] at ih
    rw [r_X6_setOn_4]
    simp (disch := omega) only [r_X6_setOn_5, r_X6_setOn_7, r_X6_setOn_10, r_X6_setOn_11, up2_o, up2_e, iN_ap, iN_up, i_ix, i_inb, i_lt, i_lt0, i_0lt, i_eq, i_ne0, i_00, i_11, i_01, i_10, i_b, i_rem2, n_rem, i_add, i_mul, i_sub, i_div, i_max, i_min, rdk_0, rdk_3, kp_none, kp_int, kp_ref, kp_long, kp_double, aK_v, aK_0, aK_ite, if_true, if_false, and_self, and_true, true_and, or_false, false_or, not_true_eq_false, not_false_eq_true, ite_self, ↓reduceIte, e1, hi]
    simp (disch := omega) only [r_X6_setOn_53, r_X6_setOn_56, up2_o, up2_e, iN_ap, iN_up, i_ix, i_inb, i_lt, i_lt0, i_0lt, i_eq, i_ne0, i_00, i_11, i_01, i_10, i_b, i_rem2, n_rem, i_add, i_mul, i_sub, i_div, i_max, i_min, rdk_0, rdk_3, kp_none, kp_int, kp_ref, kp_long, kp_double, aK_v, aK_0, aK_ite, if_true, if_false, and_self, and_true, true_and, or_false, false_or, not_true_eq_false, not_false_eq_true, ite_self, ↓reduceIte, ih]
theorem s_setOn {d : Nat} (hy : YAt Z y) (hd : d < 2147483648) (hs : ∀ h, h < 6 → N (y + 5) h ≤ 6) (hb : ∀ p, p < 36 → N (y + 8) p < 2147483648) :
    ex 57 0 [some (.ref y), some (.int (nI d)), none, none, none] [] (Z, iN N, L, c) = some (.inl (some (.int (nI (sumN (onAll N y d) 0 6)))), (Z, iN N, L, c)) := by
  simp only [r_X6_setOn_0, r_X6_setOn_1, r_X6_setOn_2, r_X6_setOn_3, kp_none, kp_int, kp_ref]
  exact s_setOn_loop hy hd hs hb 6 0 none rfl
theorem s_setTodays {q : List Nat} (hy : YAt Z y) (hq : QH N y q) (hn : q.length ≤ 36) (hb : ∀ x ∈ q, x < 36 ∧ N (y + 8) x < 2147483648)
    (w1 : 1 ≤ N y 2) (w2 : N y 2 ≤ 60) (ht : N y 0 < 2147483648) (hw : ∀ x, x < 36 → N (y + 6) x ≤ 3 ∧ N (y + 7) x ≤ 9999) (hv : ∀ i, i < 60 → N (y + 1) i ≤ 9) (hs : ∀ h, h < 6 → N (y + 5) h ≤ 6) (hh : N (y + 2) 2 ≤ 30) :
    ex 46 0 [some (.ref y), none, none, none, none, none] [] (Z, iN N, L, c) = some (.inl (some (.int (nI (stX y q 0 0 N).2.1))), (Z, iN (up2 (stX y q 0 0 N).2.2 y 3 (stX y q 0 0 N).1), L, c)) := by
  simp only [r_X6_setTodays_0, r_X6_setTodays_1, r_X6_setTodays_2, r_X6_setTodays_3, r_X6_setTodays_4, r_X6_setTodays_5, kp_none, kp_int, kp_ref]
  exact s_setTodays_loop hy hn q 0 0 0 N none none (by omega) hq.1 (by omega) (by omega) (fun j h => by rw [Nat.zero_add]; exact hq.2 j h) hb w1 w2 ht hw hv hs hh
end Yo
