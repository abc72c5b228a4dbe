/-! the digest, as a function; the class mixes so -/
def mx (h v : Int64) : Int64 := 31 * h + v
def mN (v : Nat) : Int64 := (nI v).toInt64
def dF (f : Nat → Int64 → Int64) : Nat → Nat → Int64 → Int64
  | 0, _, h => h
  | k + 1, i, h => dF f k (i + 1) (f i h)
def dMod (R : aY) (p : Nat) (h : Int64) : Int64 := dF (fun t h => mx (mx h (mN (R 12 (p * 4 + t)))) (mN (R 13 (p * 4 + t)))) 4 0 (dF (fun w h => mx h (mN (aMn R p w))) 9 0 h)
def dHou (R : aY) (q : List Nat) (i : Nat) (h : Int64) : Int64 := mx (dF (fun k h => dMod R (6 * i + k) h) (R 3 i) 0 (dF (fun w h => mx h (mN (aHn R i w))) 7 0 h)) (mN (aBs R q i))
def dTrd (R : aY) (h : Int64) : Int64 := dF (fun t h => dF (fun w h => mx h (mN (aTr R t w))) 6 0 h) 4 0 h
def dDay (R : aY) (q : List Nat) (h : Int64) : Int64 := dF (fun i h => mx (mx h (mN (aDn R q (R 0 0 + i) 1))) (mN (aDn R q (R 0 0 + i) 2))) 10 0 h
theorem s_mix7 {a b : Int64} {h : aH} : ex 91 0 [some (.long a), none, some (.long b), none] [] h = some (.inl (some (.long (mx a b))), h) := by
  simp only [r_X7_mix_0, r_X7_mix_3, r_X7_mix_4, r_X7_mix_5, r_X7_mix_6, r_X7_mix_7]
  rfl
section Dc
variable {Z : aZ} {L : Nat → Nat → Int64} {c : Nat × Nat}
theorem g_module {N : Nat → Nat → Nat} {S : aSt} {h k w : Nat} (hC : ZC Z) (hI : CI N S) (hS : SOK S) (h1 : h < S.1.1 0 1) (h2 : k < S.1.1 3 h) (hw : w ≤ 8) :
    ∃ N', ex 74 0 [some (.ref 0), some (.int (nI h)), some (.int (nI k)), some (.int (nI w)), none] [] (Z, iN N, L, c) = some (.inl (some (.int (nI (aMn S.1.1 (6 * h + k) w)))), (Z, iN N', L, c)) ∧ CI N' S ∧ ∀ a, 144 ≤ a → N' a = N a := by
  have a1 := hS.1.1.1.1.1
  have a2 := (hS.1.1.2.1 h (by omega)).2.2.1
  obtain ⟨N', e, a, b⟩ := q_module (L := L) (c := c) hC hI hS (show h < 4294967296 by omega) (show k < 4294967296 by omega) (show w < 4294967296 by omega)
  have eo : oMod S h k w = (0, aMn S.1.1 (6 * h + k) w, S) := by
    unfold oMod
    rw [if_neg (not_not_intro ⟨h1, h2⟩), if_neg (by omega)]
  rw [eo] at e a
  exact ⟨N', e, a, b⟩
theorem g_share {N : Nat → Nat → Nat} {S : aSt} {h k t w : Nat} (hC : ZC Z) (hI : CI N S) (hS : SOK S) (h1 : h < S.1.1 0 1) (h2 : k < S.1.1 3 h) (ht : t < 4) (hw : w ≤ 1) :
    ∃ N', ex 75 0 [some (.ref 0), some (.int (nI h)), some (.int (nI k)), some (.int (nI t)), some (.int (nI w)), none] [] (Z, iN N, L, c) = some (.inl (some (.int (nI (S.1.1 (if w = 0 then 12 else 13) ((6 * h + k) * 4 + t))))), (Z, iN N', L, c)) ∧ CI N' S ∧ ∀ a, 144 ≤ a → N' a = N a := by
  have a1 := hS.1.1.1.1.1
  have a2 := (hS.1.1.2.1 h (by omega)).2.2.1
  obtain ⟨N', e, a, b⟩ := q_share (L := L) (c := c) hC hI hS (show h < 4294967296 by omega) (show k < 4294967296 by omega) (show t < 4294967296 by omega) (show w < 4294967296 by omega)
  have eo : oShr S h k t w = (0, S.1.1 (if w = 0 then 12 else 13) ((6 * h + k) * 4 + t), S) := by
    unfold oShr
    rw [if_neg (not_not_intro ⟨⟨h1, h2⟩, ht⟩), if_neg (by omega)]
  rw [eo] at e a
  exact ⟨N', e, a, b⟩
theorem q_mm1 {S : aSt} {hh k : Nat} {h0 : Int64} (hC : ZC Z) (hS : SOK S) (h1 : hh < S.1.1 0 1) (h2 : k < S.1.1 3 hh) : ∀ (n w : Nat) (h : Int64) (N : Nat → Nat → Nat), w + n = 9 → CI N S →
    ∃ N', ex 87 6 [some (.ref 0), some (.long h0), none, some (.int (nI hh)), some (.int (nI k)), some (.long h), none, some (.int (nI w))] [] (Z, iN N, L, c) = ex 87 36 [some (.ref 0), some (.long h0), none, some (.int (nI hh)), some (.int (nI k)), some (.long (dF (fun w h => mx h (mN (aMn S.1.1 (6 * hh + k) w))) n w h)), none, some (.int (nI 9))] [] (Z, iN N', L, c) ∧ CI N' S ∧ ∀ a, 144 ≤ a → N' a = N a
  | 0, w, h, N, hw, hI => by
    have e : w = 9 := by omega
    subst e
    refine ⟨N, ?_, hI, fun _ _ => rfl⟩
    rw [r_X7_mixModule_6]
    simp (disch := omega) only [r_X7_mixModule_8, r_X7_mixModule_10, r_X7_mixModule_13, r_X7_mixModule_15, r_X7_mixModule_16, r_X7_mixModule_17, r_X7_mixModule_19, r_X7_mixModule_21, r_X7_mixModule_24, r_X7_mixModule_25, r_X7_mixModule_28, r_X7_mixModule_30, r_X7_mixModule_33, up2_o, up2_e, iN_ap, iN_up, i_ix, i_inb, i_lt, i_lt0, i_0lt, i_eq, i_ne0, i_00, i_11, i_01, i_10, i_b, i_rem2, n_rem, i_add, i_mul, i_sub, i_div, i_max, i_min, rdk_0, rdk_3, kp_none, kp_int, kp_ref, kp_long, kp_double, aK_v, aK_0, aK_ite, if_true, if_false, and_self, and_true, true_and, or_false, false_or, not_true_eq_false, not_false_eq_true, ite_self, ↓reduceIte, Nat.lt_irrefl, dF]
  | n + 1, w, h, N, hw, hI => by
    have e : w < 9 := by omega
    obtain ⟨N1, t1, t2, t3⟩ := g_module (L := L) (c := c) (w := w) hC hI hS h1 h2 (by omega)
    obtain ⟨N2, ih, i2, i3⟩ := q_mm1 (h0 := h0) hC hS h1 h2 n (w + 1) (mx h (mN (aMn S.1.1 (6 * hh + k) w))) N1 (by omega) t2
    refine ⟨N2, ?_, i2, fun a ha => (i3 a ha).trans (t3 a ha)⟩
    rw [r_X7_mixModule_6]
    simp (disch := omega) only [r_X7_mixModule_8, r_X7_mixModule_10, r_X7_mixModule_13, r_X7_mixModule_15, r_X7_mixModule_16, r_X7_mixModule_17, r_X7_mixModule_19, r_X7_mixModule_21, r_X7_mixModule_24, r_X7_mixModule_25, r_X7_mixModule_28, r_X7_mixModule_30, r_X7_mixModule_33, @id (Z.1 0 = 10) hC.1.1, @id (Z.2.2.1 0 0 = .ref 1) hC.1.2.1, @id (Z.2.2.1 0 1 = .ref 17) hC.1.2.2.1, @id (Z.2.2.1 0 2 = .ref 33) hC.1.2.2.2.1, @id (Z.2.2.1 0 3 = .ref 131) hC.1.2.2.2.2.1, @id (Z.2.2.1 0 4 = .ref 136) hC.1.2.2.2.2.2.1, @id (Z.2.2.1 0 5 = .ref 138) hC.1.2.2.2.2.2.2.1, @id (Z.2.2.1 0 6 = .ref 141) hC.1.2.2.2.2.2.2.2, @id (Z.1 1 = 9) hC.2.1.1, @id (Z.1 17 = 9) hC.2.2.1.1, @id (Z.1 33 = 6) hC.2.2.2.1.1, @id (Z.1 131 = 7) hC.2.2.2.2.1.1, @id (Z.1 136 = 5) hC.2.2.2.2.2.1.1, @id (Z.1 138 = 4) hC.2.2.2.2.2.2.1.1, @id (Z.1 141 = 8) hC.2.2.2.2.2.2.2.1.1, up2_o, up2_e, iN_ap, iN_up, i_ix, i_inb, i_lt, i_lt0, i_0lt, i_eq, i_ne0, i_00, i_11, i_01, i_10, i_b, i_rem2, n_rem, i_add, i_mul, i_sub, i_div, i_max, i_min, rdk_0, rdk_3, kp_none, kp_int, kp_ref, kp_long, kp_double, aK_v, aK_0, aK_ite, if_true, if_false, and_self, and_true, true_and, or_false, false_or, not_true_eq_false, not_false_eq_true, ite_self, ↓reduceIte, e, t1, s_mix7, dF]
    exact ih
theorem q_mm2 {S : aSt} {hh k : Nat} {h0 : Int64} (hC : ZC Z) (hS : SOK S) (h1 : hh < S.1.1 0 1) (h2 : k < S.1.1 3 hh) : ∀ (n t : Nat) (h : Int64) (N : Nat → Nat → Nat), t + n = 4 → CI N S →
    ∃ N', ex 87 39 [some (.ref 0), some (.long h0), none, some (.int (nI hh)), some (.int (nI k)), some (.long h), none, some (.int (nI t))] [] (Z, iN N, L, c) = some (.inl (some (.long (dF (fun t h => mx (mx h (mN (S.1.1 12 ((6 * hh + k) * 4 + t)))) (mN (S.1.1 13 ((6 * hh + k) * 4 + t)))) n t h))), (Z, iN N', L, c)) ∧ CI N' S ∧ ∀ a, 144 ≤ a → N' a = N a
  | 0, t, h, N, hw, hI => by
    have e : t = 4 := by omega
    subst e
    refine ⟨N, ?_, hI, fun _ _ => rfl⟩
    simp (disch := omega) only [r_X7_mixModule_39, r_X7_mixModule_41, r_X7_mixModule_42, r_X7_mixModule_45, r_X7_mixModule_47, r_X7_mixModule_48, r_X7_mixModule_49, r_X7_mixModule_51, r_X7_mixModule_53, r_X7_mixModule_54, r_X7_mixModule_57, r_X7_mixModule_58, r_X7_mixModule_61, r_X7_mixModule_63, r_X7_mixModule_65, r_X7_mixModule_66, r_X7_mixModule_67, r_X7_mixModule_69, r_X7_mixModule_71, r_X7_mixModule_72, r_X7_mixModule_75, r_X7_mixModule_76, r_X7_mixModule_79, r_X7_mixModule_81, r_X7_mixModule_84, r_X7_mixModule_87, r_X7_mixModule_89, up2_o, up2_e, iN_ap, iN_up, i_ix, i_inb, i_lt, i_lt0, i_0lt, i_eq, i_ne0, i_00, i_11, i_01, i_10, i_b, i_rem2, n_rem, i_add, i_mul, i_sub, i_div, i_max, i_min, rdk_0, rdk_3, kp_none, kp_int, kp_ref, kp_long, kp_double, aK_v, aK_0, aK_ite, if_true, if_false, and_self, and_true, true_and, or_false, false_or, not_true_eq_false, not_false_eq_true, ite_self, ↓reduceIte, Nat.lt_irrefl, dF]
  | n + 1, t, h, N, hw, hI => by
    have e : t < 4 := by omega
    obtain ⟨N1, t1, t2, t3⟩ := g_share (L := L) (c := c) (t := t) (w := 0) hC hI hS h1 h2 e (by omega)
    obtain ⟨N2, u1, u2, u3⟩ := g_share (L := L) (c := c) (t := t) (w := 1) hC t2 hS h1 h2 e (by omega)
    rw [if_pos rfl] at t1
    rw [if_neg (by omega)] at u1
    obtain ⟨N3, ih, i2, i3⟩ := q_mm2 (h0 := h0) hC hS h1 h2 n (t + 1) (mx (mx h (mN (S.1.1 12 ((6 * hh + k) * 4 + t)))) (mN (S.1.1 13 ((6 * hh + k) * 4 + t)))) N2 (by omega) u2
    refine ⟨N3, ?_, i2, fun a ha => (i3 a ha).trans ((u3 a ha).trans (t3 a ha))⟩
    rw [r_X7_mixModule_39]
    simp (disch := omega) only [r_X7_mixModule_41, r_X7_mixModule_42, r_X7_mixModule_45, r_X7_mixModule_47, r_X7_mixModule_48, r_X7_mixModule_49, r_X7_mixModule_51, r_X7_mixModule_53, r_X7_mixModule_54, r_X7_mixModule_57, r_X7_mixModule_58, r_X7_mixModule_61, r_X7_mixModule_63, r_X7_mixModule_65, r_X7_mixModule_66, r_X7_mixModule_67, r_X7_mixModule_69, r_X7_mixModule_71, r_X7_mixModule_72, r_X7_mixModule_75, r_X7_mixModule_76, r_X7_mixModule_79, r_X7_mixModule_81, r_X7_mixModule_84, r_X7_mixModule_87, r_X7_mixModule_89, @id (Z.1 0 = 10) hC.1.1, @id (Z.2.2.1 0 0 = .ref 1) hC.1.2.1, @id (Z.2.2.1 0 1 = .ref 17) hC.1.2.2.1, @id (Z.2.2.1 0 2 = .ref 33) hC.1.2.2.2.1, @id (Z.2.2.1 0 3 = .ref 131) hC.1.2.2.2.2.1, @id (Z.2.2.1 0 4 = .ref 136) hC.1.2.2.2.2.2.1, @id (Z.2.2.1 0 5 = .ref 138) hC.1.2.2.2.2.2.2.1, @id (Z.2.2.1 0 6 = .ref 141) hC.1.2.2.2.2.2.2.2, @id (Z.1 1 = 9) hC.2.1.1, @id (Z.1 17 = 9) hC.2.2.1.1, @id (Z.1 33 = 6) hC.2.2.2.1.1, @id (Z.1 131 = 7) hC.2.2.2.2.1.1, @id (Z.1 136 = 5) hC.2.2.2.2.2.1.1, @id (Z.1 138 = 4) hC.2.2.2.2.2.2.1.1, @id (Z.1 141 = 8) hC.2.2.2.2.2.2.2.1.1, up2_o, up2_e, iN_ap, iN_up, i_ix, i_inb, i_lt, i_lt0, i_0lt, i_eq, i_ne0, i_00, i_11, i_01, i_10, i_b, i_rem2, n_rem, i_add, i_mul, i_sub, i_div, i_max, i_min, rdk_0, rdk_3, kp_none, kp_int, kp_ref, kp_long, kp_double, aK_v, aK_0, aK_ite, if_true, if_false, and_self, and_true, true_and, or_false, false_or, not_true_eq_false, not_false_eq_true, ite_self, ↓reduceIte, e, t1, u1, s_mix7, dF]
    exact ih
theorem q_mixModule {S : aSt} {hh k : Nat} {h : Int64} {N : Nat → Nat → Nat} (hC : ZC Z) (hI : CI N S) (hS : SOK S) (h1 : hh < S.1.1 0 1) (h2 : k < S.1.1 3 hh) :
    ∃ N', ex 87 0 [some (.ref 0), some (.long h), none, some (.int (nI hh)), some (.int (nI k)), none, none, none] [] (Z, iN N, L, c) = some (.inl (some (.long (dMod S.1.1 (6 * hh + k) h))), (Z, iN N', L, c)) ∧ CI N' S ∧ ∀ a, 144 ≤ a → N' a = N a := by
  obtain ⟨N1, t1, t2, t3⟩ := q_mm1 (L := L) (c := c) (h0 := h) hC hS h1 h2 9 0 h N rfl hI
  obtain ⟨N2, u1, u2, u3⟩ := q_mm2 (L := L) (c := c) (h0 := h) hC hS h1 h2 4 0 (dF (fun w h => mx h (mN (aMn S.1.1 (6 * hh + k) w))) 9 0 h) N1 rfl t2
  refine ⟨N2, ?_, u2, fun a ha => (u3 a ha).trans (t3 a ha)⟩
  simp (disch := omega) only [r_X7_mixModule_0, r_X7_mixModule_1, r_X7_mixModule_3, r_X7_mixModule_4, up2_o, up2_e, iN_ap, iN_up, i_ix, i_inb, i_lt, i_lt0, i_0lt, i_eq, i_ne0, i_00, i_11, i_01, i_10, i_b, i_rem2, n_rem, i_add, i_mul, i_sub, i_div, i_max, i_min, rdk_0, rdk_3, kp_none, kp_int, kp_ref, kp_long, kp_double, aK_v, aK_0, aK_ite, if_true, if_false, and_self, and_true, true_and, or_false, false_or, not_true_eq_false, not_false_eq_true, ite_self, ↓reduceIte, t1]
  simp (disch := omega) only [r_X7_mixModule_36, r_X7_mixModule_37, up2_o, up2_e, iN_ap, iN_up, i_ix, i_inb, i_lt, i_lt0, i_0lt, i_eq, i_ne0, i_00, i_11, i_01, i_10, i_b, i_rem2, n_rem, i_add, i_mul, i_sub, i_div, i_max, i_min, rdk_0, rdk_3, kp_none, kp_int, kp_ref, kp_long, kp_double, aK_v, aK_0, aK_ite, if_true, if_false, and_self, and_true, true_and, or_false, false_or, not_true_eq_false, not_false_eq_true, ite_self, ↓reduceIte, u1]
  rfl
end Dc
