/-! the first day with room -/
theorem i_ltM {a : Nat} (h : a < 2147483648) : (nI a < nI 4294967295) = False := by
  refine eq_false ?_
  rw [← nM1, Int32.lt_iff_toInt_lt, nI_toInt h]
  have e : (-1 : Int32).toInt = -1 := by decide
  omega
def sRoom (N : Nat → Nat → Nat) (s y p d : Nat) : Prop := N (s + 1) d < N (y + 2) 0 ∧ N (s + 2) d + N (y + 6) p ≤ N (y + 2) 1
def sOpen (N : Nat → Nat → Nat) (s y p d : Nat) : Bool := decide (p % 6 < 1 ∨ N (y + 8) (p - 1) ≤ d) && (Nat.blt (N (s + 1) d) (N (y + 2) 0) && Nat.ble (N (s + 2) d + N (y + 6) p) (N (y + 2) 1))
theorem sOpen_iff {N : Nat → Nat → Nat} {s y p d : Nat} : sOpen N s y p d = true ↔ (p % 6 < 1 ∨ N (y + 8) (p - 1) ≤ d) ∧ sRoom N s y p d := by
  unfold sOpen sRoom
  simp [Nat.blt, Nat.succ_le_iff]
theorem i_mx {a b : Nat} : (if a < b then nI b else nI a) = nI (max a b) := by
  split
  · rw [Nat.max_eq_right (by omega)]
  · rw [Nat.max_eq_left (by omega)]
section Yf
variable {Z : aZ} {N : Nat → Nat → Nat} {L : Nat → Nat → Int64} {c : Nat × Nat} {y s : Nat}
theorem s_isOpen {d p : Nat} (hy : YAt Z y) (hz : SAt Z s) (hd : d < 1400) (hp : p < 36) (ha : 1 ≤ p % 6 → N (y + 8) (p - 1) < 2147483648) (h1 : N (s + 1) d < 1000) (h2 : N (s + 2) d < 1000) (hw : N (y + 6) p < 1000) (hr : N (y + 2) 0 < 2147483648) (hc : N (y + 2) 1 < 2147483648) :
    ex 17 0 [some (.ref s), some (.ref y), some (.int (nI p)), some (.int (nI d)), none] [] (Z, iN N, L, c) = some (.inl (some (.int (nI (if sOpen N s y p d = true then 1 else 0)))), (Z, iN N, L, c)) := by
  have hh := s_hasRoom (L := L) (c := c) hy hz hd hp h1 h2 hw hr hc
  have hf := s_dayAhead (N := N) (L := L) (c := c) (f := p - p % 6) (k := p % 6) hy (by omega)
  have z0 := hz.1
  have y0 := hy.1
  have el : p % 6 ≤ p := Nat.mod_le _ _
  by_cases q1 : p % 6 < 1
  · rw [if_pos q1] at hf
    by_cases q2 : N (s + 1) d < N (y + 2) 0 ∧ N (s + 2) d + N (y + 6) p ≤ N (y + 2) 1
    · have q3 : sOpen N s y p d = true := sOpen_iff.mpr ⟨Or.inl q1, q2⟩
      rw [if_pos q2] at hh
      simp (disch := omega) only [r_X3_isOpen_0, r_X3_isOpen_1, r_X3_isOpen_3, r_X3_isOpen_4, r_X3_isOpen_6, r_X3_isOpen_7, r_X3_isOpen_8, r_X3_isOpen_9, r_X3_isOpen_11, r_X3_isOpen_12, r_X3_isOpen_14, r_X3_isOpen_17, r_X3_isOpen_20, r_X3_isOpen_21, r_X3_isOpen_22, r_X3_isOpen_23, r_X3_isOpen_24, r_X3_isOpen_27, r_X3_isOpen_30, r_X3_isOpen_31, r_X3_isOpen_34, r_X3_isOpen_35, z0, y0, up2_o, up2_e, iN_ap, iN_up, i_ix, i_inb, i_lt, i_lt0, i_0lt, i_eq, i_ne0, i_00, i_11, i_01, i_10, i_b, i_rem2, n_rem, i_add, i_mul, i_sub, i_div, i_max, i_min, rdk_0, rdk_3, kp_none, kp_int, kp_ref, kp_long, kp_double, aK_v, aK_0, aK_ite, if_true, if_false, and_self, and_true, true_and, or_false, false_or, not_true_eq_false, not_false_eq_true, ite_self, ↓reduceIte, Bool.false_eq_true, hf, hh, i_ltM, q3]
    · have q3 : ¬ sOpen N s y p d = true := fun z => q2 (sOpen_iff.mp z).2
      rw [if_neg q2] at hh
      simp (disch := omega) only [r_X3_isOpen_0, r_X3_isOpen_1, r_X3_isOpen_3, r_X3_isOpen_4, r_X3_isOpen_6, r_X3_isOpen_7, r_X3_isOpen_8, r_X3_isOpen_9, r_X3_isOpen_11, r_X3_isOpen_12, r_X3_isOpen_14, r_X3_isOpen_17, r_X3_isOpen_20, r_X3_isOpen_21, r_X3_isOpen_22, r_X3_isOpen_23, r_X3_isOpen_24, r_X3_isOpen_27, r_X3_isOpen_30, r_X3_isOpen_31, r_X3_isOpen_34, r_X3_isOpen_35, z0, y0, up2_o, up2_e, iN_ap, iN_up, i_ix, i_inb, i_lt, i_lt0, i_0lt, i_eq, i_ne0, i_00, i_11, i_01, i_10, i_b, i_rem2, n_rem, i_add, i_mul, i_sub, i_div, i_max, i_min, rdk_0, rdk_3, kp_none, kp_int, kp_ref, kp_long, kp_double, aK_v, aK_0, aK_ite, if_true, if_false, and_self, and_true, true_and, or_false, false_or, not_true_eq_false, not_false_eq_true, ite_self, ↓reduceIte, Bool.false_eq_true, hf, hh, i_ltM, q3]
  · rw [if_neg q1, show p - p % 6 + p % 6 - 1 = p - 1 by omega] at hf
    have ha1 := ha (by omega)
    by_cases q5 : d < N (y + 8) (p - 1)
    · have q3 : ¬ sOpen N s y p d = true := fun z => (sOpen_iff.mp z).1.elim (fun z => q1 z) (fun z => by omega)
      simp (disch := omega) only [r_X3_isOpen_0, r_X3_isOpen_1, r_X3_isOpen_3, r_X3_isOpen_4, r_X3_isOpen_6, r_X3_isOpen_7, r_X3_isOpen_8, r_X3_isOpen_9, r_X3_isOpen_11, r_X3_isOpen_12, r_X3_isOpen_14, r_X3_isOpen_17, r_X3_isOpen_20, r_X3_isOpen_21, r_X3_isOpen_22, r_X3_isOpen_23, r_X3_isOpen_24, r_X3_isOpen_27, r_X3_isOpen_30, r_X3_isOpen_31, r_X3_isOpen_34, r_X3_isOpen_35, z0, y0, up2_o, up2_e, iN_ap, iN_up, i_ix, i_inb, i_lt, i_lt0, i_0lt, i_eq, i_ne0, i_00, i_11, i_01, i_10, i_b, i_rem2, n_rem, i_add, i_mul, i_sub, i_div, i_max, i_min, rdk_0, rdk_3, kp_none, kp_int, kp_ref, kp_long, kp_double, aK_v, aK_0, aK_ite, if_true, if_false, and_self, and_true, true_and, or_false, false_or, not_true_eq_false, not_false_eq_true, ite_self, ↓reduceIte, Bool.false_eq_true, hf, q3, q5]
    · by_cases q2 : N (s + 1) d < N (y + 2) 0 ∧ N (s + 2) d + N (y + 6) p ≤ N (y + 2) 1
      · have q3 : sOpen N s y p d = true := sOpen_iff.mpr ⟨Or.inr (by omega), q2⟩
        rw [if_pos q2] at hh
        simp (disch := omega) only [r_X3_isOpen_0, r_X3_isOpen_1, r_X3_isOpen_3, r_X3_isOpen_4, r_X3_isOpen_6, r_X3_isOpen_7, r_X3_isOpen_8, r_X3_isOpen_9, r_X3_isOpen_11, r_X3_isOpen_12, r_X3_isOpen_14, r_X3_isOpen_17, r_X3_isOpen_20, r_X3_isOpen_21, r_X3_isOpen_22, r_X3_isOpen_23, r_X3_isOpen_24, r_X3_isOpen_27, r_X3_isOpen_30, r_X3_isOpen_31, r_X3_isOpen_34, r_X3_isOpen_35, z0, y0, up2_o, up2_e, iN_ap, iN_up, i_ix, i_inb, i_lt, i_lt0, i_0lt, i_eq, i_ne0, i_00, i_11, i_01, i_10, i_b, i_rem2, n_rem, i_add, i_mul, i_sub, i_div, i_max, i_min, rdk_0, rdk_3, kp_none, kp_int, kp_ref, kp_long, kp_double, aK_v, aK_0, aK_ite, if_true, if_false, and_self, and_true, true_and, or_false, false_or, not_true_eq_false, not_false_eq_true, ite_self, ↓reduceIte, Bool.false_eq_true, hf, hh, q3, q5]
      · have q3 : ¬ sOpen N s y p d = true := fun z => q2 (sOpen_iff.mp z).2
        rw [if_neg q2] at hh
        simp (disch := omega) only [r_X3_isOpen_0, r_X3_isOpen_1, r_X3_isOpen_3, r_X3_isOpen_4, r_X3_isOpen_6, r_X3_isOpen_7, r_X3_isOpen_8, r_X3_isOpen_9, r_X3_isOpen_11, r_X3_isOpen_12, r_X3_isOpen_14, r_X3_isOpen_17, r_X3_isOpen_20, r_X3_isOpen_21, r_X3_isOpen_22, r_X3_isOpen_23, r_X3_isOpen_24, r_X3_isOpen_27, r_X3_isOpen_30, r_X3_isOpen_31, r_X3_isOpen_34, r_X3_isOpen_35, z0, y0, up2_o, up2_e, iN_ap, iN_up, i_ix, i_inb, i_lt, i_lt0, i_0lt, i_eq, i_ne0, i_00, i_11, i_01, i_10, i_b, i_rem2, n_rem, i_add, i_mul, i_sub, i_div, i_max, i_min, rdk_0, rdk_3, kp_none, kp_int, kp_ref, kp_long, kp_double, aK_v, aK_0, aK_ite, if_true, if_false, and_self, and_true, true_and, or_false, false_or, not_true_eq_false, not_false_eq_true, ite_self, ↓reduceIte, Bool.false_eq_true, hf, hh, q3, q5]
theorem s_firstOpen_loop {d p f : Nat} (hy : YAt Z y) (hz : SAt Z s) (hd : d < 1400) (hp : p < 36) (ha : 1 ≤ p % 6 → N (y + 8) (p - 1) < 2147483648) (h1 : ∀ e, e < 1400 → N (s + 1) e < 1000) (h2 : ∀ e, e < 1400 → N (s + 2) e < 1000) (hw : N (y + 6) p < 1000) (hr : N (y + 2) 0 < 2147483648) (hc : N (y + 2) 1 < 2147483648)
    (ho : sOpen N s y p d = true) : ∀ (k e : Nat), e + k = d → (∀ x, e ≤ x → x < d → ¬ sOpen N s y p x = true) →
    ex 21 17 [some (.ref s), some (.ref y), some (.int (nI p)), some (.int (nI f)), some (.int (nI e))] [] (Z, iN N, L, c) = some (.inl (some (.int (nI d))), (Z, iN N, L, c))
  | 0, e, he, _ => by
    have ee : e = d := by omega
    subst ee
    have z0 := hz.1
    simp (disch := omega) only [r_X3_firstOpen_0, r_X3_firstOpen_1, r_X3_firstOpen_4, r_X3_firstOpen_5, r_X3_firstOpen_6, r_X3_firstOpen_7, r_X3_firstOpen_10, r_X3_firstOpen_13, r_X3_firstOpen_14, r_X3_firstOpen_15, r_X3_firstOpen_17, r_X3_firstOpen_19, r_X3_firstOpen_22, r_X3_firstOpen_25, r_X3_firstOpen_26, r_X3_firstOpen_27, r_X3_firstOpen_28, r_X3_firstOpen_30, r_X3_firstOpen_33, r_X3_firstOpen_36, r_X3_firstOpen_38, r_X3_firstOpen_39, r_X3_firstOpen_42, r_X3_firstOpen_45, r_X3_firstOpen_46, z0, up2_o, up2_e, iN_ap, iN_up, i_ix, i_inb, i_lt, i_lt0, i_0lt, i_eq, i_ne0, i_00, i_11, i_01, i_10, i_b, i_rem2, n_rem, i_add, i_mul, i_sub, i_div, i_max, i_min, rdk_0, rdk_3, kp_none, kp_int, kp_ref, kp_long, kp_double, aK_v, aK_0, aK_ite, if_true, if_false, and_self, and_true, true_and, or_false, false_or, not_true_eq_false, not_false_eq_true, ite_self, ↓reduceIte, Bool.false_eq_true, hd, s_isOpen hy hz hd hp ha (h1 e hd) (h2 e hd) hw hr hc, ho]
  | k + 1, e, he, hno => by
    have hd2 : e < 1400 := by omega
    have hno2 := hno e (Nat.le_refl _) (by omega)
    have z0 := hz.1
    have ih := s_firstOpen_loop (f := f) hy hz hd hp ha h1 h2 hw hr hc ho k (e + 1) (by omega) (fun x hx => hno x (by omega))
    rw [r_X3_firstOpen_17]
    simp (disch := omega) only [r_X3_firstOpen_0, r_X3_firstOpen_1, r_X3_firstOpen_4, r_X3_firstOpen_5, r_X3_firstOpen_6, r_X3_firstOpen_7, r_X3_firstOpen_10, r_X3_firstOpen_13, r_X3_firstOpen_14, r_X3_firstOpen_15, r_X3_firstOpen_19, r_X3_firstOpen_22, r_X3_firstOpen_25, r_X3_firstOpen_26, r_X3_firstOpen_27, r_X3_firstOpen_28, r_X3_firstOpen_30, r_X3_firstOpen_33, r_X3_firstOpen_36, r_X3_firstOpen_38, r_X3_firstOpen_39, r_X3_firstOpen_42, r_X3_firstOpen_45, r_X3_firstOpen_46, z0, up2_o, up2_e, iN_ap, iN_up, i_ix, i_inb, i_lt, i_lt0, i_0lt, i_eq, i_ne0, i_00, i_11, i_01, i_10, i_b, i_rem2, n_rem, i_add, i_mul, i_sub, i_div, i_max, i_min, rdk_0, rdk_3, kp_none, kp_int, kp_ref, kp_long, kp_double, aK_v, aK_0, aK_ite, if_true, if_false, and_self, and_true, true_and, or_false, false_or, not_true_eq_false, not_false_eq_true, ite_self, ↓reduceIte, Bool.false_eq_true, hd2, s_isOpen hy hz hd2 hp ha (h1 e hd2) (h2 e hd2) hw hr hc, hno2, ih]
theorem s_firstOpen {d p : Nat} (hy : YAt Z y) (hz : SAt Z s) (hd : d < 1400) (hp : p < 36) (ha : 1 ≤ p % 6 → N (y + 8) (p - 1) < 2147483648) (h1 : ∀ e, e < 1400 → N (s + 1) e < 1000) (h2 : ∀ e, e < 1400 → N (s + 2) e < 1000) (hw : N (y + 6) p < 1000) (hr : N (y + 2) 0 < 2147483648) (hc : N (y + 2) 1 < 2147483648)
    (hb : N (y + 8) p < 2147483648) (ht : N y 0 < 2147483648) (ho : sOpen N s y p d = true) (hf : max (N (y + 8) p) (N y 0) ≤ d) (hno : ∀ x, max (N (y + 8) p) (N y 0) ≤ x → x < d → ¬ sOpen N s y p x = true) :
    ex 21 0 [some (.ref s), some (.ref y), some (.int (nI p)), none, none] [] (Z, iN N, L, c) = some (.inl (some (.int (nI d))), (Z, iN N, L, c)) := by
  have hl := s_firstOpen_loop (L := L) (c := c) (f := max (N (y + 8) p) (N y 0)) hy hz hd hp ha h1 h2 hw hr hc ho (d - max (N (y + 8) p) (N y 0)) (max (N (y + 8) p) (N y 0)) (by omega) hno
  simp (disch := omega) only [r_X3_firstOpen_0, r_X3_firstOpen_1, r_X3_firstOpen_4, r_X3_firstOpen_5, r_X3_firstOpen_6, r_X3_firstOpen_7, r_X3_firstOpen_10, r_X3_firstOpen_13, r_X3_firstOpen_14, r_X3_firstOpen_15, hy.1, @id (Z.1 (y + 8) = 0) (yK hy 8 rfl), @id (Z.2.1 (y + 8) = 36) (yL hy 8 rfl), @id (Z.2.2.1 y 11 = .ref (y + 8)) (yR hy 8 rfl), up2_o, up2_e, iN_ap, iN_up, i_ix, i_inb, i_lt, i_lt0, i_0lt, i_eq, i_ne0, i_00, i_11, i_01, i_10, i_b, i_rem2, n_rem, i_add, i_mul, i_sub, i_div, i_max, i_min, rdk_0, rdk_3, kp_none, kp_int, kp_ref, kp_long, kp_double, aK_v, aK_0, aK_ite, if_true, if_false, and_self, and_true, true_and, or_false, false_or, not_true_eq_false, not_false_eq_true, ite_self, ↓reduceIte, i_mx, hl]
end Yf
