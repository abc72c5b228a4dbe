/-! the class mixes a house, the trades, the days, rows -/
section Dd
variable {Z : aZ} {L : Nat → Nat → Int64} {c : Nat × Nat}
theorem g_house {N : Nat → Nat → Nat} {S : aSt} {h w : Nat} (hC : ZC Z) (hI : CI N S) (hS : SOK S) (h1 : h < S.1.1 0 1) (hw : w ≤ 6) :
    ∃ N', ex 73 0 [some (.ref 0), some (.int (nI h)), some (.int (nI w)), none, none] [] (Z, iN N, L, c) = some (.inl (some (.int (nI (aHn S.1.1 h w)))), (Z, iN N', L, c)) ∧ CI N' S ∧ ∀ a, 144 ≤ a → N' a = N a := by
  have a1 := hS.1.1.1.1.1
  obtain ⟨N', e, a, b⟩ := q_house (L := L) (c := c) hC hI hS (show h < 4294967296 by omega) (show w < 4294967296 by omega)
  have eo : oHou S h w = (0, aHn S.1.1 h w, S) := by
    unfold oHou
    rw [if_neg (not_not_intro h1), if_neg (by omega)]
  rw [eo] at e a
  exact ⟨N', e, a, b⟩
theorem g_best {N : Nat → Nat → Nat} {S : aSt} {h : Nat} (hC : ZC Z) (hI : CI N S) (hS : SOK S) (h1 : h < S.1.1 0 1) :
    ∃ N', ex 81 0 [some (.ref 0), some (.int (nI h)), none, none, none] [] (Z, iN N, L, c) = some (.inl (some (.int (nI (aBs S.1.1 S.1.2 h)))), (Z, iN N', L, c)) ∧ CI N' S ∧ ∀ a, 144 ≤ a → N' a = N a := by
  have a1 := hS.1.1.1.1.1
  obtain ⟨N', e, a, b⟩ := q_best (L := L) (c := c) hC hI hS (show h < 4294967296 by omega)
  have eo : oBst S h = (0, aBs S.1.1 S.1.2 h, S) := by
    unfold oBst
    rw [if_neg (not_not_intro h1)]
  rw [eo] at e a
  exact ⟨N', e, a, b⟩
theorem g_trade {N : Nat → Nat → Nat} {S : aSt} {t w : Nat} (hC : ZC Z) (hI : CI N S) (h1 : t < 4) (hw : w ≤ 5) :
    ∃ N', ex 76 0 [some (.ref 0), some (.int (nI t)), some (.int (nI w))] [] (Z, iN N, L, c) = some (.inl (some (.int (nI (aTr S.1.1 t w)))), (Z, iN N', L, c)) ∧ CI N' S ∧ ∀ a, 144 ≤ a → N' a = N a := by
  obtain ⟨N', e, a, b⟩ := q_trade (L := L) (c := c) hC hI (show t < 4294967296 by omega) (show w < 4294967296 by omega)
  have eo : oTrd S t w = (0, aTr S.1.1 t w, S) := by
    unfold oTrd
    rw [if_neg (not_not_intro h1), if_neg (by omega)]
  rw [eo] at e a
  exact ⟨N', e, a, b⟩
theorem g_day {N : Nat → Nat → Nat} {S : aSt} {d w : Nat} (hC : ZC Z) (hI : CI N S) (hS : SOK S) (h1 : d ≤ 9999) (hw : w ≤ 3) :
    ∃ N', ex 77 0 [some (.ref 0), some (.int (nI d)), some (.int (nI w))] [] (Z, iN N, L, c) = some (.inl (some (.int (nI (aDn S.1.1 S.1.2 d w)))), (Z, iN N', L, c)) ∧ CI N' S ∧ ∀ a, 144 ≤ a → N' a = N a := by
  obtain ⟨N', e, a, b⟩ := q_day (L := L) (c := c) hC hI hS (show d < 4294967296 by omega) (show w < 4294967296 by omega)
  have eo : oDay S d w = (0, aDn S.1.1 S.1.2 d w, S) := by
    unfold oDay
    rw [if_neg (by omega)]
  rw [eo] at e a
  exact ⟨N', e, a, b⟩
theorem g_count {N : Nat → Nat → Nat} {S : aSt} {w : Nat} (hC : ZC Z) (hI : CI N S) (hS : SOK S) (hw : w ≤ 12) :
    ∃ N', ex 78 0 [some (.ref 0), some (.int (nI w))] [] (Z, iN N, L, c) = some (.inl (some (.int (nI (aCn S.1.1 S.1.2 S.2.1.length w)))), (Z, iN N', L, c)) ∧ CI N' S ∧ ∀ a, 144 ≤ a → N' a = N a := by
  obtain ⟨N', e, a, b⟩ := q_count (L := L) (c := c) hC hI hS (show w < 4294967296 by omega)
  have eo : oCnt S w = (0, aCn S.1.1 S.1.2 S.2.1.length w, S) := by
    unfold oCnt
    rw [if_neg (by omega)]
  rw [eo] at e a
  exact ⟨N', e, a, b⟩
theorem q_mh1 {S : aSt} {hh : Nat} {h0 : Int64} (hC : ZC Z) (hS : SOK S) (h1 : hh < S.1.1 0 1) : ∀ (n w : Nat) (h : Int64) (N : Nat → Nat → Nat), w + n = 7 → CI N S →
    ∃ N', ex 86 6 [some (.ref 0), some (.long h0), none, some (.int (nI hh)), some (.long h), none, some (.int (nI w))] [] (Z, iN N, L, c) = ex 86 34 [some (.ref 0), some (.long h0), none, some (.int (nI hh)), some (.long (dF (fun w h => mx h (mN (aHn S.1.1 hh w))) n w h)), none, some (.int (nI 7))] [] (Z, iN N', L, c) ∧ CI N' S ∧ ∀ a, 144 ≤ a → N' a = N a
  | 0, w, h, N, hw, hI => by
    have e : w = 7 := by omega
    subst e
    refine ⟨N, ?_, hI, fun _ _ => rfl⟩
    rw [r_X7_mixHouse_6]
    simp (disch := omega) only [r_X7_mixHouse_8, r_X7_mixHouse_10, r_X7_mixHouse_13, r_X7_mixHouse_15, r_X7_mixHouse_16, r_X7_mixHouse_17, r_X7_mixHouse_19, r_X7_mixHouse_22, r_X7_mixHouse_23, r_X7_mixHouse_26, r_X7_mixHouse_28, r_X7_mixHouse_31, up2_o, up2_e, iN_ap, iN_up, i_ix, i_inb, i_lt, i_lt0, i_0lt, i_eq, i_ne0, i_00, i_11, i_01, i_10, i_b, i_rem2, n_rem, i_add, i_mul, i_sub, i_div, i_max, i_min, rdk_0, rdk_3, kp_none, kp_int, kp_ref, kp_long, kp_double, aK_v, aK_0, aK_ite, if_true, if_false, and_self, and_true, true_and, or_false, false_or, not_true_eq_false, not_false_eq_true, ite_self, ↓reduceIte, Nat.lt_irrefl, dF]
  | n + 1, w, h, N, hw, hI => by
    have e : w < 7 := by omega
    obtain ⟨N1, t1, t2, t3⟩ := g_house (L := L) (c := c) (w := w) hC hI hS h1 (by omega)
    obtain ⟨N2, ih, i2, i3⟩ := q_mh1 (h0 := h0) hC hS h1 n (w + 1) (mx h (mN (aHn S.1.1 hh w))) N1 (by omega) t2
    refine ⟨N2, ?_, i2, fun a ha => (i3 a ha).trans (t3 a ha)⟩
    rw [r_X7_mixHouse_6]
    simp (disch := omega) only [r_X7_mixHouse_8, r_X7_mixHouse_10, r_X7_mixHouse_13, r_X7_mixHouse_15, r_X7_mixHouse_16, r_X7_mixHouse_17, r_X7_mixHouse_19, r_X7_mixHouse_22, r_X7_mixHouse_23, r_X7_mixHouse_26, r_X7_mixHouse_28, r_X7_mixHouse_31, @id (Z.1 0 = 10) hC.1.1, @id (Z.2.2.1 0 0 = .ref 1) hC.1.2.1, @id (Z.2.2.1 0 1 = .ref 17) hC.1.2.2.1, @id (Z.2.2.1 0 2 = .ref 33) hC.1.2.2.2.1, @id (Z.2.2.1 0 3 = .ref 131) hC.1.2.2.2.2.1, @id (Z.2.2.1 0 4 = .ref 136) hC.1.2.2.2.2.2.1, @id (Z.2.2.1 0 5 = .ref 138) hC.1.2.2.2.2.2.2.1, @id (Z.2.2.1 0 6 = .ref 141) hC.1.2.2.2.2.2.2.2, @id (Z.1 1 = 9) hC.2.1.1, @id (Z.1 17 = 9) hC.2.2.1.1, @id (Z.1 33 = 6) hC.2.2.2.1.1, @id (Z.1 131 = 7) hC.2.2.2.2.1.1, @id (Z.1 136 = 5) hC.2.2.2.2.2.1.1, @id (Z.1 138 = 4) hC.2.2.2.2.2.2.1.1, @id (Z.1 141 = 8) hC.2.2.2.2.2.2.2.1.1, up2_o, up2_e, iN_ap, iN_up, i_ix, i_inb, i_lt, i_lt0, i_0lt, i_eq, i_ne0, i_00, i_11, i_01, i_10, i_b, i_rem2, n_rem, i_add, i_mul, i_sub, i_div, i_max, i_min, rdk_0, rdk_3, kp_none, kp_int, kp_ref, kp_long, kp_double, aK_v, aK_0, aK_ite, if_true, if_false, and_self, and_true, true_and, or_false, false_or, not_true_eq_false, not_false_eq_true, ite_self, ↓reduceIte, e, t1, s_mix7, dF]
    exact ih
theorem q_mh2 {S : aSt} {hh : Nat} {h0 : Int64} (hC : ZC Z) (hS : SOK S) (h1 : hh < S.1.1 0 1) : ∀ (n k : Nat) (h : Int64) (N : Nat → Nat → Nat), k + n = S.1.1 3 hh → CI N S →
    ∃ N', ex 86 37 [some (.ref 0), some (.long h0), none, some (.int (nI hh)), some (.long h), none, some (.int (nI k))] [] (Z, iN N, L, c) = ex 86 68 [some (.ref 0), some (.long h0), none, some (.int (nI hh)), some (.long (dF (fun k h => dMod S.1.1 (6 * hh + k) h) n k h)), none, some (.int (nI (S.1.1 3 hh)))] [] (Z, iN N', L, c) ∧ CI N' S ∧ ∀ a, 144 ≤ a → N' a = N a
  | 0, k, h, N, hw, hI => by
    have a1 := hS.1.1.1.1.1
    have a2 := (hS.1.1.2.1 hh (by omega)).2.2.1
    have e : k = S.1.1 3 hh := by omega
    have e3 : N (1 + 3) hh = S.1.1 3 hh := CY_at hI.1 3 (n := 6) rfl (by omega)
    subst e
    refine ⟨N, ?_, hI, fun _ _ => rfl⟩
    rw [r_X7_mixHouse_37]
    simp (disch := omega) only [r_X7_mixHouse_39, r_X7_mixHouse_40, r_X7_mixHouse_43, r_X7_mixHouse_46, r_X7_mixHouse_47, r_X7_mixHouse_48, r_X7_mixHouse_51, r_X7_mixHouse_52, r_X7_mixHouse_54, r_X7_mixHouse_55, r_X7_mixHouse_57, r_X7_mixHouse_60, r_X7_mixHouse_62, r_X7_mixHouse_65, @id (Z.1 0 = 10) hC.1.1, @id (Z.2.2.1 0 0 = .ref 1) hC.1.2.1, @id (Z.2.2.1 0 1 = .ref 17) hC.1.2.2.1, @id (Z.2.2.1 0 2 = .ref 33) hC.1.2.2.2.1, @id (Z.2.2.1 0 3 = .ref 131) hC.1.2.2.2.2.1, @id (Z.2.2.1 0 4 = .ref 136) hC.1.2.2.2.2.2.1, @id (Z.2.2.1 0 5 = .ref 138) hC.1.2.2.2.2.2.2.1, @id (Z.2.2.1 0 6 = .ref 141) hC.1.2.2.2.2.2.2.2, @id (Z.1 1 = 9) hC.2.1.1, @id (Z.1 17 = 9) hC.2.2.1.1, @id (Z.1 33 = 6) hC.2.2.2.1.1, @id (Z.1 131 = 7) hC.2.2.2.2.1.1, @id (Z.1 136 = 5) hC.2.2.2.2.2.1.1, @id (Z.1 138 = 4) hC.2.2.2.2.2.2.1.1, @id (Z.1 141 = 8) hC.2.2.2.2.2.2.2.1.1, hC.2.1.1, @id (Z.1 (1 + 3) = 0) (yK hC.2.1 3 rfl), @id (Z.2.1 (1 + 3) = 6) (yL hC.2.1 3 rfl), @id (Z.2.2.1 1 6 = .ref (1 + 3)) (yR hC.2.1 3 rfl), up2_o, up2_e, iN_ap, iN_up, i_ix, i_inb, i_lt, i_lt0, i_0lt, i_eq, i_ne0, i_00, i_11, i_01, i_10, i_b, i_rem2, n_rem, i_add, i_mul, i_sub, i_div, i_max, i_min, rdk_0, rdk_3, kp_none, kp_int, kp_ref, kp_long, kp_double, aK_v, aK_0, aK_ite, if_true, if_false, and_self, and_true, true_and, or_false, false_or, not_true_eq_false, not_false_eq_true, ite_self, ↓reduceIte, e3, Nat.lt_irrefl, dF]
  | n + 1, k, h, N, hw, hI => by
    have a1 := hS.1.1.1.1.1
    have a2 := (hS.1.1.2.1 hh (by omega)).2.2.1
    have e : k < S.1.1 3 hh := by omega
    have e3 : N (1 + 3) hh = S.1.1 3 hh := CY_at hI.1 3 (n := 6) rfl (by omega)
    obtain ⟨N1, t1, t2, t3⟩ := q_mixModule (L := L) (c := c) (h := h) hC hI hS h1 e
    obtain ⟨N2, ih, i2, i3⟩ := q_mh2 (h0 := h0) hC hS h1 n (k + 1) (dMod S.1.1 (6 * hh + k) h) N1 (by omega) t2
    refine ⟨N2, ?_, i2, fun a ha => (i3 a ha).trans (t3 a ha)⟩
    rw [r_X7_mixHouse_37]
    simp (disch := omega) only [r_X7_mixHouse_39, r_X7_mixHouse_40, r_X7_mixHouse_43, r_X7_mixHouse_46, r_X7_mixHouse_47, r_X7_mixHouse_48, r_X7_mixHouse_51, r_X7_mixHouse_52, r_X7_mixHouse_54, r_X7_mixHouse_55, r_X7_mixHouse_57, r_X7_mixHouse_60, r_X7_mixHouse_62, r_X7_mixHouse_65, @id (Z.1 0 = 10) hC.1.1, @id (Z.2.2.1 0 0 = .ref 1) hC.1.2.1, @id (Z.2.2.1 0 1 = .ref 17) hC.1.2.2.1, @id (Z.2.2.1 0 2 = .ref 33) hC.1.2.2.2.1, @id (Z.2.2.1 0 3 = .ref 131) hC.1.2.2.2.2.1, @id (Z.2.2.1 0 4 = .ref 136) hC.1.2.2.2.2.2.1, @id (Z.2.2.1 0 5 = .ref 138) hC.1.2.2.2.2.2.2.1, @id (Z.2.2.1 0 6 = .ref 141) hC.1.2.2.2.2.2.2.2, @id (Z.1 1 = 9) hC.2.1.1, @id (Z.1 17 = 9) hC.2.2.1.1, @id (Z.1 33 = 6) hC.2.2.2.1.1, @id (Z.1 131 = 7) hC.2.2.2.2.1.1, @id (Z.1 136 = 5) hC.2.2.2.2.2.1.1, @id (Z.1 138 = 4) hC.2.2.2.2.2.2.1.1, @id (Z.1 141 = 8) hC.2.2.2.2.2.2.2.1.1, hC.2.1.1, @id (Z.1 (1 + 3) = 0) (yK hC.2.1 3 rfl), @id (Z.2.1 (1 + 3) = 6) (yL hC.2.1 3 rfl), @id (Z.2.2.1 1 6 = .ref (1 + 3)) (yR hC.2.1 3 rfl), up2_o, up2_e, iN_ap, iN_up, i_ix, i_inb, i_lt, i_lt0, i_0lt, i_eq, i_ne0, i_00, i_11, i_01, i_10, i_b, i_rem2, n_rem, i_add, i_mul, i_sub, i_div, i_max, i_min, rdk_0, rdk_3, kp_none, kp_int, kp_ref, kp_long, kp_double, aK_v, aK_0, aK_ite, if_true, if_false, and_self, and_true, true_and, or_false, false_or, not_true_eq_false, not_false_eq_true, ite_self, ↓reduceIte, e3, e, t1, dF]
    exact ih
theorem q_mixHouse {S : aSt} {hh : Nat} {h : Int64} {N : Nat → Nat → Nat} (hC : ZC Z) (hI : CI N S) (hS : SOK S) (h1 : hh < S.1.1 0 1) :
    ∃ N', ex 86 0 [some (.ref 0), some (.long h), none, some (.int (nI hh)), none, none, none] [] (Z, iN N, L, c) = some (.inl (some (.long (dHou S.1.1 S.1.2 hh h))), (Z, iN N', L, c)) ∧ CI N' S ∧ ∀ a, 144 ≤ a → N' a = N a := by
  obtain ⟨N1, t1, t2, t3⟩ := q_mh1 (L := L) (c := c) (h0 := h) hC hS h1 7 0 h N rfl hI
  obtain ⟨N2, u1, u2, u3⟩ := q_mh2 (L := L) (c := c) (h0 := h) hC hS h1 (S.1.1 3 hh) 0 (dF (fun w h => mx h (mN (aHn S.1.1 hh w))) 7 0 h) N1 (Nat.zero_add _) t2
  obtain ⟨N3, v1, v2, v3⟩ := g_best (L := L) (c := c) hC u2 hS h1
  refine ⟨N3, ?_, v2, fun a ha => (v3 a ha).trans ((u3 a ha).trans (t3 a ha))⟩
  simp (disch := omega) only [r_X7_mixHouse_0, r_X7_mixHouse_1, r_X7_mixHouse_3, r_X7_mixHouse_4, up2_o, up2_e, iN_ap, iN_up, i_ix, i_inb, i_lt, i_lt0, i_0lt, i_eq, i_ne0, i_00, i_11, i_01, i_10, i_b, i_rem2, n_rem, i_add, i_mul, i_sub, i_div, i_max, i_min, rdk_0, rdk_3, kp_none, kp_int, kp_ref, kp_long, kp_double, aK_v, aK_0, aK_ite, if_true, if_false, and_self, and_true, true_and, or_false, false_or, not_true_eq_false, not_false_eq_true, ite_self, ↓reduceIte, t1]
  simp (disch := omega) only [r_X7_mixHouse_34, r_X7_mixHouse_35, up2_o, up2_e, iN_ap, iN_up, i_ix, i_inb, i_lt, i_lt0, i_0lt, i_eq, i_ne0, i_00, i_11, i_01, i_10, i_b, i_rem2, n_rem, i_add, i_mul, i_sub, i_div, i_max, i_min, rdk_0, rdk_3, kp_none, kp_int, kp_ref, kp_long, kp_double, aK_v, aK_0, aK_ite, if_true, if_false, and_self, and_true, true_and, or_false, false_or, not_true_eq_false, not_false_eq_true, ite_self, ↓reduceIte, u1]
  simp (disch := omega) only [r_X7_mixHouse_68, r_X7_mixHouse_70, r_X7_mixHouse_71, r_X7_mixHouse_72, r_X7_mixHouse_75, r_X7_mixHouse_76, r_X7_mixHouse_79, @id (Z.1 0 = 10) hC.1.1, @id (Z.2.2.1 0 0 = .ref 1) hC.1.2.1, @id (Z.2.2.1 0 1 = .ref 17) hC.1.2.2.1, @id (Z.2.2.1 0 2 = .ref 33) hC.1.2.2.2.1, @id (Z.2.2.1 0 3 = .ref 131) hC.1.2.2.2.2.1, @id (Z.2.2.1 0 4 = .ref 136) hC.1.2.2.2.2.2.1, @id (Z.2.2.1 0 5 = .ref 138) hC.1.2.2.2.2.2.2.1, @id (Z.2.2.1 0 6 = .ref 141) hC.1.2.2.2.2.2.2.2, @id (Z.1 1 = 9) hC.2.1.1, @id (Z.1 17 = 9) hC.2.2.1.1, @id (Z.1 33 = 6) hC.2.2.2.1.1, @id (Z.1 131 = 7) hC.2.2.2.2.1.1, @id (Z.1 136 = 5) hC.2.2.2.2.2.1.1, @id (Z.1 138 = 4) hC.2.2.2.2.2.2.1.1, @id (Z.1 141 = 8) hC.2.2.2.2.2.2.2.1.1, up2_o, up2_e, iN_ap, iN_up, i_ix, i_inb, i_lt, i_lt0, i_0lt, i_eq, i_ne0, i_00, i_11, i_01, i_10, i_b, i_rem2, n_rem, i_add, i_mul, i_sub, i_div, i_max, i_min, rdk_0, rdk_3, kp_none, kp_int, kp_ref, kp_long, kp_double, aK_v, aK_0, aK_ite, if_true, if_false, and_self, and_true, true_and, or_false, false_or, not_true_eq_false, not_false_eq_true, ite_self, ↓reduceIte, v1, s_mix7]
  rfl
theorem q_mt1 {S : aSt} {t : Nat} {h0 : Int64} (hC : ZC Z) (h1 : t < 4) : ∀ (n w : Nat) (h : Int64) (N : Nat → Nat → Nat), w + n = 6 → CI N S →
    ∃ N', ex 88 14 [some (.ref 0), some (.long h0), none, some (.long h), none, some (.int (nI t)), some (.int (nI w))] [] (Z, iN N, L, c) = ex 88 41 [some (.ref 0), some (.long h0), none, some (.long (dF (fun w h => mx h (mN (aTr S.1.1 t w))) n w h)), none, some (.int (nI t)), some (.int (nI 6))] [] (Z, iN N', L, c) ∧ CI N' S ∧ ∀ a, 144 ≤ a → N' a = N a
  | 0, w, h, N, hw, hI => by
    have e : w = 6 := by omega
    subst e
    refine ⟨N, ?_, hI, fun _ _ => rfl⟩
    rw [r_X7_mixTrades_14]
    simp (disch := omega) only [r_X7_mixTrades_16, r_X7_mixTrades_18, r_X7_mixTrades_21, r_X7_mixTrades_22, r_X7_mixTrades_23, r_X7_mixTrades_25, r_X7_mixTrades_27, r_X7_mixTrades_30, r_X7_mixTrades_31, r_X7_mixTrades_34, r_X7_mixTrades_35, r_X7_mixTrades_38, up2_o, up2_e, iN_ap, iN_up, i_ix, i_inb, i_lt, i_lt0, i_0lt, i_eq, i_ne0, i_00, i_11, i_01, i_10, i_b, i_rem2, n_rem, i_add, i_mul, i_sub, i_div, i_max, i_min, rdk_0, rdk_3, kp_none, kp_int, kp_ref, kp_long, kp_double, aK_v, aK_0, aK_ite, if_true, if_false, and_self, and_true, true_and, or_false, false_or, not_true_eq_false, not_false_eq_true, ite_self, ↓reduceIte, Nat.lt_irrefl, dF]
  | n + 1, w, h, N, hw, hI => by
    have e : w < 6 := by omega
    obtain ⟨N1, t1, t2, t3⟩ := g_trade (L := L) (c := c) (w := w) hC hI h1 (by omega)
    obtain ⟨N2, ih, i2, i3⟩ := q_mt1 (h0 := h0) hC h1 n (w + 1) (mx h (mN (aTr S.1.1 t w))) N1 (by omega) t2
    refine ⟨N2, ?_, i2, fun a ha => (i3 a ha).trans (t3 a ha)⟩
    rw [r_X7_mixTrades_14]
    simp (disch := omega) only [r_X7_mixTrades_16, r_X7_mixTrades_18, r_X7_mixTrades_21, r_X7_mixTrades_22, r_X7_mixTrades_23, r_X7_mixTrades_25, r_X7_mixTrades_27, r_X7_mixTrades_30, r_X7_mixTrades_31, r_X7_mixTrades_34, r_X7_mixTrades_35, r_X7_mixTrades_38, @id (Z.1 0 = 10) hC.1.1, @id (Z.2.2.1 0 0 = .ref 1) hC.1.2.1, @id (Z.2.2.1 0 1 = .ref 17) hC.1.2.2.1, @id (Z.2.2.1 0 2 = .ref 33) hC.1.2.2.2.1, @id (Z.2.2.1 0 3 = .ref 131) hC.1.2.2.2.2.1, @id (Z.2.2.1 0 4 = .ref 136) hC.1.2.2.2.2.2.1, @id (Z.2.2.1 0 5 = .ref 138) hC.1.2.2.2.2.2.2.1, @id (Z.2.2.1 0 6 = .ref 141) hC.1.2.2.2.2.2.2.2, @id (Z.1 1 = 9) hC.2.1.1, @id (Z.1 17 = 9) hC.2.2.1.1, @id (Z.1 33 = 6) hC.2.2.2.1.1, @id (Z.1 131 = 7) hC.2.2.2.2.1.1, @id (Z.1 136 = 5) hC.2.2.2.2.2.1.1, @id (Z.1 138 = 4) hC.2.2.2.2.2.2.1.1, @id (Z.1 141 = 8) hC.2.2.2.2.2.2.2.1.1, up2_o, up2_e, iN_ap, iN_up, i_ix, i_inb, i_lt, i_lt0, i_0lt, i_eq, i_ne0, i_00, i_11, i_01, i_10, i_b, i_rem2, n_rem, i_add, i_mul, i_sub, i_div, i_max, i_min, rdk_0, rdk_3, kp_none, kp_int, kp_ref, kp_long, kp_double, aK_v, aK_0, aK_ite, if_true, if_false, and_self, and_true, true_and, or_false, false_or, not_true_eq_false, not_false_eq_true, ite_self, ↓reduceIte, e, t1, s_mix7, dF]
    exact ih
theorem q_mt2 {S : aSt} {h0 : Int64} (hC : ZC Z) : ∀ (n t : Nat) (h : Int64) (N : Nat → Nat → Nat) (a6 : Option Value), t + n = 4 → CI N S →
    ∃ N', ex 88 5 [some (.ref 0), some (.long h0), none, some (.long h), none, some (.int (nI t)), a6] [] (Z, iN N, L, c) = some (.inl (some (.long (dF (fun t h => dF (fun w h => mx h (mN (aTr S.1.1 t w))) 6 0 h) n t h))), (Z, iN N', L, c)) ∧ CI N' S ∧ ∀ a, 144 ≤ a → N' a = N a
  | 0, t, h, N, a6, hw, hI => by
    have e : t = 4 := by omega
    subst e
    refine ⟨N, ?_, hI, fun _ _ => rfl⟩
    rw [r_X7_mixTrades_5]
    simp (disch := omega) only [r_X7_mixTrades_7, r_X7_mixTrades_8, r_X7_mixTrades_47, r_X7_mixTrades_48, up2_o, up2_e, iN_ap, iN_up, i_ix, i_inb, i_lt, i_lt0, i_0lt, i_eq, i_ne0, i_00, i_11, i_01, i_10, i_b, i_rem2, n_rem, i_add, i_mul, i_sub, i_div, i_max, i_min, rdk_0, rdk_3, kp_none, kp_int, kp_ref, kp_long, kp_double, aK_v, aK_0, aK_ite, if_true, if_false, and_self, and_true, true_and, or_false, false_or, not_true_eq_false, not_false_eq_true, ite_self, ↓reduceIte, Nat.lt_irrefl, dF]
  | n + 1, t, h, N, a6, hw, hI => by
    have e : t < 4 := by omega
    obtain ⟨N1, t1, t2, t3⟩ := q_mt1 (L := L) (c := c) (h0 := h0) hC e 6 0 h N rfl hI
    obtain ⟨N2, ih, i2, i3⟩ := q_mt2 (h0 := h0) hC n (t + 1) (dF (fun w h => mx h (mN (aTr S.1.1 t w))) 6 0 h) N1 (some (.int (nI 6))) (by omega) t2
    refine ⟨N2, ?_, i2, fun a ha => (i3 a ha).trans (t3 a ha)⟩
    rw [r_X7_mixTrades_5]
    simp (disch := omega) only [r_X7_mixTrades_7, r_X7_mixTrades_8, r_X7_mixTrades_11, r_X7_mixTrades_12, up2_o, up2_e, iN_ap, iN_up, i_ix, i_inb, i_lt, i_lt0, i_0lt, i_eq, i_ne0, i_00, i_11, i_01, i_10, i_b, i_rem2, n_rem, i_add, i_mul, i_sub, i_div, i_max, i_min, rdk_0, rdk_3, kp_none, kp_int, kp_ref, kp_long, kp_double, aK_v, aK_0, aK_ite, if_true, if_false, and_self, and_true, true_and, or_false, false_or, not_true_eq_false, not_false_eq_true, ite_self, ↓reduceIte, e, t1]
    simp (disch := omega) only [r_X7_mixTrades_41, r_X7_mixTrades_44, up2_o, up2_e, iN_ap, iN_up, i_ix, i_inb, i_lt, i_lt0, i_0lt, i_eq, i_ne0, i_00, i_11, i_01, i_10, i_b, i_rem2, n_rem, i_add, i_mul, i_sub, i_div, i_max, i_min, rdk_0, rdk_3, kp_none, kp_int, kp_ref, kp_long, kp_double, aK_v, aK_0, aK_ite, if_true, if_false, and_self, and_true, true_and, or_false, false_or, not_true_eq_false, not_false_eq_true, ite_self, ↓reduceIte, dF]
    exact ih
theorem q_mixTrades {S : aSt} {h : Int64} {N : Nat → Nat → Nat} (hC : ZC Z) (hI : CI N S) :
    ∃ N', ex 88 0 [some (.ref 0), some (.long h), none, none, none, none, none] [] (Z, iN N, L, c) = some (.inl (some (.long (dTrd S.1.1 h))), (Z, iN N', L, c)) ∧ CI N' S ∧ ∀ a, 144 ≤ a → N' a = N a := by
  obtain ⟨N1, t1, t2, t3⟩ := q_mt2 (L := L) (c := c) (h0 := h) hC 4 0 h N none rfl hI
  refine ⟨N1, ?_, t2, t3⟩
  simp (disch := omega) only [r_X7_mixTrades_0, r_X7_mixTrades_1, r_X7_mixTrades_2, r_X7_mixTrades_3, up2_o, up2_e, iN_ap, iN_up, i_ix, i_inb, i_lt, i_lt0, i_0lt, i_eq, i_ne0, i_00, i_11, i_01, i_10, i_b, i_rem2, n_rem, i_add, i_mul, i_sub, i_div, i_max, i_min, rdk_0, rdk_3, kp_none, kp_int, kp_ref, kp_long, kp_double, aK_v, aK_0, aK_ite, if_true, if_false, and_self, and_true, true_and, or_false, false_or, not_true_eq_false, not_false_eq_true, ite_self, ↓reduceIte, t1]
  rfl
theorem q_md {S : aSt} {h0 : Int64} (hC : ZC Z) (hS : SOK S) : ∀ (n i : Nat) (h : Int64) (N : Nat → Nat → Nat), i + n = 10 → CI N S →
    ∃ N', ex 89 5 [some (.ref 0), some (.long h0), none, some (.long h), none, some (.int (nI i))] [] (Z, iN N, L, c) = some (.inl (some (.long (dF (fun i h => mx (mx h (mN (aDn S.1.1 S.1.2 (S.1.1 0 0 + i) 1))) (mN (aDn S.1.1 S.1.2 (S.1.1 0 0 + i) 2))) n i h))), (Z, iN N', L, c)) ∧ CI N' S ∧ ∀ a, 144 ≤ a → N' a = N a
  | 0, i, h, N, hw, hI => by
    have e : i = 10 := by omega
    subst e
    refine ⟨N, ?_, hI, fun _ _ => rfl⟩
    simp (disch := omega) only [r_X7_mixDays_5, r_X7_mixDays_7, r_X7_mixDays_9, r_X7_mixDays_12, r_X7_mixDays_13, r_X7_mixDays_14, r_X7_mixDays_15, r_X7_mixDays_18, r_X7_mixDays_21, r_X7_mixDays_23, r_X7_mixDays_24, r_X7_mixDays_25, r_X7_mixDays_28, r_X7_mixDays_29, r_X7_mixDays_32, r_X7_mixDays_33, r_X7_mixDays_34, r_X7_mixDays_35, r_X7_mixDays_36, r_X7_mixDays_39, r_X7_mixDays_42, r_X7_mixDays_44, r_X7_mixDays_45, r_X7_mixDays_46, r_X7_mixDays_49, r_X7_mixDays_50, r_X7_mixDays_53, r_X7_mixDays_54, r_X7_mixDays_57, r_X7_mixDays_60, r_X7_mixDays_61, up2_o, up2_e, iN_ap, iN_up, i_ix, i_inb, i_lt, i_lt0, i_0lt, i_eq, i_ne0, i_00, i_11, i_01, i_10, i_b, i_rem2, n_rem, i_add, i_mul, i_sub, i_div, i_max, i_min, rdk_0, rdk_3, kp_none, kp_int, kp_ref, kp_long, kp_double, aK_v, aK_0, aK_ite, if_true, if_false, and_self, and_true, true_and, or_false, false_or, not_true_eq_false, not_false_eq_true, ite_self, ↓reduceIte, Nat.lt_irrefl, dF]
  | n + 1, i, h, N, hw, hI => by
    have e : i < 10 := by omega
    have b0 : S.1.1 0 0 ≤ 1000 := hS.1.2
    have e0 : N 1 0 = S.1.1 0 0 := CY_at0 hI.1 (by omega)
    obtain ⟨N1, t1, t2, t3⟩ := g_day (L := L) (c := c) (d := S.1.1 0 0 + i) (w := 1) hC hI hS (by omega) (by omega)
    have e01 : N1 1 0 = S.1.1 0 0 := CY_at0 t2.1 (by omega)
    obtain ⟨N2, u1, u2, u3⟩ := g_day (L := L) (c := c) (d := S.1.1 0 0 + i) (w := 2) hC t2 hS (by omega) (by omega)
    obtain ⟨N3, ih, i2, i3⟩ := q_md (h0 := h0) hC hS n (i + 1) (mx (mx h (mN (aDn S.1.1 S.1.2 (S.1.1 0 0 + i) 1))) (mN (aDn S.1.1 S.1.2 (S.1.1 0 0 + i) 2))) N2 (by omega) u2
    refine ⟨N3, ?_, i2, fun a ha => (i3 a ha).trans ((u3 a ha).trans (t3 a ha))⟩
    rw [r_X7_mixDays_5]
    simp (disch := omega) only [r_X7_mixDays_7, r_X7_mixDays_9, r_X7_mixDays_12, r_X7_mixDays_13, r_X7_mixDays_14, r_X7_mixDays_15, r_X7_mixDays_18, r_X7_mixDays_21, r_X7_mixDays_23, r_X7_mixDays_24, r_X7_mixDays_25, r_X7_mixDays_28, r_X7_mixDays_29, r_X7_mixDays_32, r_X7_mixDays_33, r_X7_mixDays_34, r_X7_mixDays_35, r_X7_mixDays_36, r_X7_mixDays_39, r_X7_mixDays_42, r_X7_mixDays_44, r_X7_mixDays_45, r_X7_mixDays_46, r_X7_mixDays_49, r_X7_mixDays_50, r_X7_mixDays_53, r_X7_mixDays_54, r_X7_mixDays_57, r_X7_mixDays_60, r_X7_mixDays_61, @id (Z.1 0 = 10) hC.1.1, @id (Z.2.2.1 0 0 = .ref 1) hC.1.2.1, @id (Z.2.2.1 0 1 = .ref 17) hC.1.2.2.1, @id (Z.2.2.1 0 2 = .ref 33) hC.1.2.2.2.1, @id (Z.2.2.1 0 3 = .ref 131) hC.1.2.2.2.2.1, @id (Z.2.2.1 0 4 = .ref 136) hC.1.2.2.2.2.2.1, @id (Z.2.2.1 0 5 = .ref 138) hC.1.2.2.2.2.2.2.1, @id (Z.2.2.1 0 6 = .ref 141) hC.1.2.2.2.2.2.2.2, @id (Z.1 1 = 9) hC.2.1.1, @id (Z.1 17 = 9) hC.2.2.1.1, @id (Z.1 33 = 6) hC.2.2.2.1.1, @id (Z.1 131 = 7) hC.2.2.2.2.1.1, @id (Z.1 136 = 5) hC.2.2.2.2.2.1.1, @id (Z.1 138 = 4) hC.2.2.2.2.2.2.1.1, @id (Z.1 141 = 8) hC.2.2.2.2.2.2.2.1.1, up2_o, up2_e, iN_ap, iN_up, i_ix, i_inb, i_lt, i_lt0, i_0lt, i_eq, i_ne0, i_00, i_11, i_01, i_10, i_b, i_rem2, n_rem, i_add, i_mul, i_sub, i_div, i_max, i_min, rdk_0, rdk_3, kp_none, kp_int, kp_ref, kp_long, kp_double, aK_v, aK_0, aK_ite, if_true, if_false, and_self, and_true, true_and, or_false, false_or, not_true_eq_false, not_false_eq_true, ite_self, ↓reduceIte, e, e0, e01, t1, u1, s_mix7, dF]
    exact ih
theorem q_mixDays {S : aSt} {h : Int64} {N : Nat → Nat → Nat} (hC : ZC Z) (hI : CI N S) (hS : SOK S) :
    ∃ N', ex 89 0 [some (.ref 0), some (.long h), none, none, none, none] [] (Z, iN N, L, c) = some (.inl (some (.long (dDay S.1.1 S.1.2 h))), (Z, iN N', L, c)) ∧ CI N' S ∧ ∀ a, 144 ≤ a → N' a = N a := by
  obtain ⟨N1, t1, t2, t3⟩ := q_md (L := L) (c := c) (h0 := h) hC hS 10 0 h N rfl hI
  refine ⟨N1, ?_, t2, t3⟩
  simp (disch := omega) only [r_X7_mixDays_0, r_X7_mixDays_1, r_X7_mixDays_2, r_X7_mixDays_3, up2_o, up2_e, iN_ap, iN_up, i_ix, i_inb, i_lt, i_lt0, i_0lt, i_eq, i_ne0, i_00, i_11, i_01, i_10, i_b, i_rem2, n_rem, i_add, i_mul, i_sub, i_div, i_max, i_min, rdk_0, rdk_3, kp_none, kp_int, kp_ref, kp_long, kp_double, aK_v, aK_0, aK_ite, if_true, if_false, and_self, and_true, true_and, or_false, false_or, not_true_eq_false, not_false_eq_true, ite_self, ↓reduceIte, t1]
  rfl
theorem s_mixRow_loop {N : Nat → Nat → Nat} {r n : Nat} {h0 : Int64} (z1 : Z.1 r = 0) (z2 : n ≤ Z.2.1 r) (z3 : Z.2.1 r ≤ 100000) : ∀ (k i : Nat) (h : Int64), i + k = n →
    ex 90 6 [some (.long h0), none, some (.ref r), some (.int (nI n)), some (.long h), none, some (.int (nI i))] [] (Z, iN N, L, c) = some (.inl (some (.long (dF (fun i h => mx h (mN (N r i))) k i h))), (Z, iN N, L, c))
  | 0, i, h, hi => by
    have e : i = n := by omega
    subst e
    simp (disch := omega) only [r_X7_mixRow_6, r_X7_mixRow_8, r_X7_mixRow_9, r_X7_mixRow_12, r_X7_mixRow_14, r_X7_mixRow_15, r_X7_mixRow_17, r_X7_mixRow_18, r_X7_mixRow_19, r_X7_mixRow_22, r_X7_mixRow_24, r_X7_mixRow_27, r_X7_mixRow_30, r_X7_mixRow_32, up2_o, up2_e, iN_ap, iN_up, i_ix, i_inb, i_lt, i_lt0, i_0lt, i_eq, i_ne0, i_00, i_11, i_01, i_10, i_b, i_rem2, n_rem, i_add, i_mul, i_sub, i_div, i_max, i_min, rdk_0, rdk_3, kp_none, kp_int, kp_ref, kp_long, kp_double, aK_v, aK_0, aK_ite, if_true, if_false, and_self, and_true, true_and, or_false, false_or, not_true_eq_false, not_false_eq_true, ite_self, ↓reduceIte, Nat.lt_irrefl, dF]
  | k + 1, i, h, hi => by
    have e : i < n := by omega
    have ih := s_mixRow_loop (N := N) (h0 := h0) z1 z2 z3 k (i + 1) (mx h (mN (N r i))) (by omega)
    rw [r_X7_mixRow_6]
    simp (disch := omega) only [r_X7_mixRow_8, r_X7_mixRow_9, r_X7_mixRow_12, r_X7_mixRow_14, r_X7_mixRow_15, r_X7_mixRow_17, r_X7_mixRow_18, r_X7_mixRow_19, r_X7_mixRow_22, r_X7_mixRow_24, r_X7_mixRow_27, r_X7_mixRow_30, r_X7_mixRow_32, z1, up2_o, up2_e, iN_ap, iN_up, i_ix, i_inb, i_lt, i_lt0, i_0lt, i_eq, i_ne0, i_00, i_11, i_01, i_10, i_b, i_rem2, n_rem, i_add, i_mul, i_sub, i_div, i_max, i_min, rdk_0, rdk_3, kp_none, kp_int, kp_ref, kp_long, kp_double, aK_v, aK_0, aK_ite, if_true, if_false, and_self, and_true, true_and, or_false, false_or, not_true_eq_false, not_false_eq_true, ite_self, ↓reduceIte, e, s_mix7, dF]
    exact ih
theorem s_mixRow {N : Nat → Nat → Nat} {r n : Nat} {h : Int64} (z1 : Z.1 r = 0) (z2 : n ≤ Z.2.1 r) (z3 : Z.2.1 r ≤ 100000) :
    ex 90 0 [some (.long h), none, some (.ref r), some (.int (nI n)), none, none, none] [] (Z, iN N, L, c) = some (.inl (some (.long (dF (fun i h => mx h (mN (N r i))) n 0 h))), (Z, iN N, L, c)) := by
  have := s_mixRow_loop (N := N) (L := L) (c := c) (h0 := h) z1 z2 z3 n 0 h (by omega)
  simp (disch := omega) only [r_X7_mixRow_0, r_X7_mixRow_1, r_X7_mixRow_3, r_X7_mixRow_4, up2_o, up2_e, iN_ap, iN_up, i_ix, i_inb, i_lt, i_lt0, i_0lt, i_eq, i_ne0, i_00, i_11, i_01, i_10, i_b, i_rem2, n_rem, i_add, i_mul, i_sub, i_div, i_max, i_min, rdk_0, rdk_3, kp_none, kp_int, kp_ref, kp_long, kp_double, aK_v, aK_0, aK_ite, if_true, if_false, and_self, and_true, true_and, or_false, false_or, not_true_eq_false, not_false_eq_true, ite_self, ↓reduceIte, this]
end Dd
