/-! the class's digest -/
theorem dF_cg {f g : Nat → Int64 → Int64} : ∀ (n i : Nat) (h : Int64), (∀ j, i ≤ j → j < i + n → ∀ h, f j h = g j h) → dF f n i h = dF g n i h
  | 0, _, _, _ => rfl
  | n + 1, i, h, H => by
    unfold dF
    rw [H i (by omega) (by omega), dF_cg n (i + 1) _ (fun j h1 h2 => H j (by omega) (by omega))]
def dg4 (S : aSt) : Int64 := dF (fun i h => dHou S.1.1 S.1.2 i h) (S.1.1 0 1) 0 (dF (fun i h => mx h (mN (S.1.1 1 i))) (S.1.1 0 2) 0 (dF (fun i h => mx h (mN (S.1.1 2 i))) 5 0 (dF (fun w h => mx h (mN (aCn S.1.1 S.1.2 S.2.1.length w))) 13 0 2293)))
def dg9 (S : aSt) : Int64 := mx (mx (mx (dDay S.1.1 S.1.2 (dTrd S.1.1 (dg4 S))) (mN (oEnd S).2.1)) (mN (oWrs S).2.1)) (mN (oIfp S 10 4294967295).2.1)
def dig (S : aSt) (B : Int64) : Int64 := dF (fun i h => mx h (mN (S.2.2.getD i 0))) S.2.2.length 0 (mx (mx (dg9 S) B) (mN S.2.2.length))
section De
variable {Z : aZ} {L : Nat → Nat → Int64} {c : Nat × Nat}
theorem q_dg1 {S : aSt} (hC : ZC Z) (hS : SOK S) : ∀ (n w : Nat) (h : Int64) (N : Nat → Nat → Nat), w + n = 13 → CI N S →
    ∃ N', ex 85 6 [some (.ref 0), some (.long h), none, some (.int (nI w))] [] (Z, iN N, L, c) = ex 85 29 [some (.ref 0), some (.long (dF (fun w h => mx h (mN (aCn S.1.1 S.1.2 S.2.1.length w))) n w h)), none, some (.int (nI 13))] [] (Z, iN N', L, c) ∧ CI N' S ∧ ∀ a, 144 ≤ a → N' a = N a
  | 0, w, h, N, hw, hI => by
    have e : w = 13 := by omega
    subst e
    refine ⟨N, ?_, hI, fun _ _ => rfl⟩
    rw [r_X7_digest_6]
    simp (disch := omega) only [r_X7_digest_7, r_X7_digest_9, r_X7_digest_12, r_X7_digest_13, r_X7_digest_14, r_X7_digest_15, r_X7_digest_18, r_X7_digest_19, r_X7_digest_22, r_X7_digest_23, r_X7_digest_26, up2_o, up2_e, iN_ap, iN_up, i_ix, i_inb, i_lt, i_lt0, i_0lt, i_eq, i_ne0, i_00, i_11, i_01, i_10, i_b, i_rem2, n_rem, i_add, i_mul, i_sub, i_div, i_max, i_min, rdk_0, rdk_3, kp_none, kp_int, kp_ref, kp_long, kp_double, aK_v, aK_0, aK_ite, if_true, if_false, and_self, and_true, true_and, or_false, false_or, not_true_eq_false, not_false_eq_true, ite_self, ↓reduceIte, Nat.lt_irrefl, dF]
  | n + 1, w, h, N, hw, hI => by
    have e : w < 13 := by omega
    obtain ⟨N1, t1, t2, t3⟩ := g_count (L := L) (c := c) (w := w) hC hI hS (by omega)
    obtain ⟨N2, ih, i2, i3⟩ := q_dg1 hC hS n (w + 1) (mx h (mN (aCn S.1.1 S.1.2 S.2.1.length w))) N1 (by omega) t2
    refine ⟨N2, ?_, i2, fun a ha => (i3 a ha).trans (t3 a ha)⟩
    rw [r_X7_digest_6]
    simp (disch := omega) only [r_X7_digest_7, r_X7_digest_9, r_X7_digest_12, r_X7_digest_13, r_X7_digest_14, r_X7_digest_15, r_X7_digest_18, r_X7_digest_19, r_X7_digest_22, r_X7_digest_23, r_X7_digest_26, @id (Z.1 0 = 10) hC.1.1, @id (Z.2.2.1 0 0 = .ref 1) hC.1.2.1, @id (Z.2.2.1 0 1 = .ref 17) hC.1.2.2.1, @id (Z.2.2.1 0 2 = .ref 33) hC.1.2.2.2.1, @id (Z.2.2.1 0 3 = .ref 131) hC.1.2.2.2.2.1, @id (Z.2.2.1 0 4 = .ref 136) hC.1.2.2.2.2.2.1, @id (Z.2.2.1 0 5 = .ref 138) hC.1.2.2.2.2.2.2.1, @id (Z.2.2.1 0 6 = .ref 141) hC.1.2.2.2.2.2.2.2, @id (Z.1 1 = 9) hC.2.1.1, @id (Z.1 17 = 9) hC.2.2.1.1, @id (Z.1 33 = 6) hC.2.2.2.1.1, @id (Z.1 131 = 7) hC.2.2.2.2.1.1, @id (Z.1 136 = 5) hC.2.2.2.2.2.1.1, @id (Z.1 138 = 4) hC.2.2.2.2.2.2.1.1, @id (Z.1 141 = 8) hC.2.2.2.2.2.2.2.1.1, up2_o, up2_e, iN_ap, iN_up, i_ix, i_inb, i_lt, i_lt0, i_0lt, i_eq, i_ne0, i_00, i_11, i_01, i_10, i_b, i_rem2, n_rem, i_add, i_mul, i_sub, i_div, i_max, i_min, rdk_0, rdk_3, kp_none, kp_int, kp_ref, kp_long, kp_double, aK_v, aK_0, aK_ite, if_true, if_false, and_self, and_true, true_and, or_false, false_or, not_true_eq_false, not_false_eq_true, ite_self, ↓reduceIte, e, t1, s_mix7, dF]
    exact ih
theorem q_dg2 {S : aSt} (hC : ZC Z) (hS : SOK S) : ∀ (n i : Nat) (h : Int64) (N : Nat → Nat → Nat), i + n = S.1.1 0 1 → CI N S →
    ∃ N', ex 85 63 [some (.ref 0), some (.long h), none, some (.int (nI i))] [] (Z, iN N, L, c) = ex 85 87 [some (.ref 0), some (.long (dF (fun i h => dHou S.1.1 S.1.2 i h) n i h)), none, some (.int (nI (S.1.1 0 1)))] [] (Z, iN N', L, c) ∧ CI N' S ∧ ∀ a, 144 ≤ a → N' a = N a
  | 0, i, h, N, hw, hI => by
    have a1 := hS.1.1.1.1.1
    have e01 : N 1 1 = S.1.1 0 1 := CY_at0 hI.1 (by omega)
    have e : i = S.1.1 0 1 := by omega
    subst e
    refine ⟨N, ?_, hI, fun _ _ => rfl⟩
    rw [r_X7_digest_63]
    simp (disch := omega) only [r_X7_digest_64, r_X7_digest_65, r_X7_digest_68, r_X7_digest_71, r_X7_digest_74, r_X7_digest_75, r_X7_digest_76, r_X7_digest_77, r_X7_digest_80, r_X7_digest_81, r_X7_digest_84, @id (Z.1 0 = 10) hC.1.1, @id (Z.2.2.1 0 0 = .ref 1) hC.1.2.1, @id (Z.2.2.1 0 1 = .ref 17) hC.1.2.2.1, @id (Z.2.2.1 0 2 = .ref 33) hC.1.2.2.2.1, @id (Z.2.2.1 0 3 = .ref 131) hC.1.2.2.2.2.1, @id (Z.2.2.1 0 4 = .ref 136) hC.1.2.2.2.2.2.1, @id (Z.2.2.1 0 5 = .ref 138) hC.1.2.2.2.2.2.2.1, @id (Z.2.2.1 0 6 = .ref 141) hC.1.2.2.2.2.2.2.2, @id (Z.1 1 = 9) hC.2.1.1, @id (Z.1 17 = 9) hC.2.2.1.1, @id (Z.1 33 = 6) hC.2.2.2.1.1, @id (Z.1 131 = 7) hC.2.2.2.2.1.1, @id (Z.1 136 = 5) hC.2.2.2.2.2.1.1, @id (Z.1 138 = 4) hC.2.2.2.2.2.2.1.1, @id (Z.1 141 = 8) hC.2.2.2.2.2.2.2.1.1, up2_o, up2_e, iN_ap, iN_up, i_ix, i_inb, i_lt, i_lt0, i_0lt, i_eq, i_ne0, i_00, i_11, i_01, i_10, i_b, i_rem2, n_rem, i_add, i_mul, i_sub, i_div, i_max, i_min, rdk_0, rdk_3, kp_none, kp_int, kp_ref, kp_long, kp_double, aK_v, aK_0, aK_ite, if_true, if_false, and_self, and_true, true_and, or_false, false_or, not_true_eq_false, not_false_eq_true, ite_self, ↓reduceIte, e01, Nat.lt_irrefl, dF]
  | n + 1, i, h, N, hw, hI => by
    have a1 := hS.1.1.1.1.1
    have e01 : N 1 1 = S.1.1 0 1 := CY_at0 hI.1 (by omega)
    have e : i < S.1.1 0 1 := by omega
    obtain ⟨N1, t1, t2, t3⟩ := q_mixHouse (L := L) (c := c) (h := h) hC hI hS e
    obtain ⟨N2, ih, i2, i3⟩ := q_dg2 hC hS n (i + 1) (dHou S.1.1 S.1.2 i h) N1 (by omega) t2
    refine ⟨N2, ?_, i2, fun a ha => (i3 a ha).trans (t3 a ha)⟩
    rw [r_X7_digest_63]
    simp (disch := omega) only [r_X7_digest_64, r_X7_digest_65, r_X7_digest_68, r_X7_digest_71, r_X7_digest_74, r_X7_digest_75, r_X7_digest_76, r_X7_digest_77, r_X7_digest_80, r_X7_digest_81, r_X7_digest_84, @id (Z.1 0 = 10) hC.1.1, @id (Z.2.2.1 0 0 = .ref 1) hC.1.2.1, @id (Z.2.2.1 0 1 = .ref 17) hC.1.2.2.1, @id (Z.2.2.1 0 2 = .ref 33) hC.1.2.2.2.1, @id (Z.2.2.1 0 3 = .ref 131) hC.1.2.2.2.2.1, @id (Z.2.2.1 0 4 = .ref 136) hC.1.2.2.2.2.2.1, @id (Z.2.2.1 0 5 = .ref 138) hC.1.2.2.2.2.2.2.1, @id (Z.2.2.1 0 6 = .ref 141) hC.1.2.2.2.2.2.2.2, @id (Z.1 1 = 9) hC.2.1.1, @id (Z.1 17 = 9) hC.2.2.1.1, @id (Z.1 33 = 6) hC.2.2.2.1.1, @id (Z.1 131 = 7) hC.2.2.2.2.1.1, @id (Z.1 136 = 5) hC.2.2.2.2.2.1.1, @id (Z.1 138 = 4) hC.2.2.2.2.2.2.1.1, @id (Z.1 141 = 8) hC.2.2.2.2.2.2.2.1.1, up2_o, up2_e, iN_ap, iN_up, i_ix, i_inb, i_lt, i_lt0, i_0lt, i_eq, i_ne0, i_00, i_11, i_01, i_10, i_b, i_rem2, n_rem, i_add, i_mul, i_sub, i_div, i_max, i_min, rdk_0, rdk_3, kp_none, kp_int, kp_ref, kp_long, kp_double, aK_v, aK_0, aK_ite, if_true, if_false, and_self, and_true, true_and, or_false, false_or, not_true_eq_false, not_false_eq_true, ite_self, ↓reduceIte, e01, e, t1, dF]
    exact ih
theorem q_digest {S : aSt} {N : Nat → Nat → Nat} {B : Int64} (hC : ZC Z) (hI : CI N S) (hS : SOK S) (hB : ∀ h, ex 92 0 [some (.double (hel S.1.1)), none, none, none, none, none, none, none] [] h = some (.inl (some (.long B)), h)) :
    ∃ N', ex 85 0 [some (.ref 0), none, none, none] [] (Z, iN N, L, c) = some (.inl (some (.long (dig S B))), (Z, iN N', L, c)) ∧ CI N' S ∧ ∀ a, 144 ≤ a → N' a = N a := by
  have w1 := hS.1.1.1.1
  have b60 : S.2.2.length ≤ 60 := hS.2.2.2.1
  obtain ⟨N1, a1, a2, a3⟩ := q_dg1 (L := L) (c := c) hC hS 13 0 2293 N rfl hI
  have e2 : ∀ h, dF (fun i h => mx h (mN (N1 (1 + 2) i))) 5 0 h = dF (fun i h => mx h (mN (S.1.1 2 i))) 5 0 h := fun h => dF_cg 5 0 h (fun j _ hj h => by rw [CY_at a2.1 2 (n := 5) rfl (by omega)])
  have e1 : ∀ h, dF (fun i h => mx h (mN (N1 (1 + 1) i))) (S.1.1 0 2) 0 h = dF (fun i h => mx h (mN (S.1.1 1 i))) (S.1.1 0 2) 0 h := fun h => dF_cg _ 0 h (fun j _ hj h => by rw [CY_at a2.1 1 (n := 60) rfl (by omega)])
  have m2 := fun h => s_mixRow (N := N1) (L := L) (c := c) (r := 1 + 2) (n := 5) (h := h) (yK hC.2.1 2 rfl) (by rw [show Z.2.1 (1 + 2) = 5 from yL hC.2.1 2 rfl]; omega) (by rw [show Z.2.1 (1 + 2) = 5 from yL hC.2.1 2 rfl]; omega)
  have m1 := fun h => s_mixRow (N := N1) (L := L) (c := c) (r := 1 + 1) (n := S.1.1 0 2) (h := h) (yK hC.2.1 1 rfl) (by rw [show Z.2.1 (1 + 1) = 60 from yL hC.2.1 1 rfl]; omega) (by rw [show Z.2.1 (1 + 1) = 60 from yL hC.2.1 1 rfl]; omega)
  simp only [e2] at m2
  simp only [e1] at m1
  have n02 : N1 1 2 = S.1.1 0 2 := CY_at0 a2.1 (by omega)
  obtain ⟨N2, b1, b2, b3⟩ := q_dg2 (L := L) (c := c) hC hS (S.1.1 0 1) 0 (dF (fun i h => mx h (mN (S.1.1 1 i))) (S.1.1 0 2) 0 (dF (fun i h => mx h (mN (S.1.1 2 i))) 5 0 (dF (fun w h => mx h (mN (aCn S.1.1 S.1.2 S.2.1.length w))) 13 0 2293))) N1 (Nat.zero_add _) a2
  obtain ⟨N3, c1, c2, c3⟩ := q_mixTrades (L := L) (c := c) (h := dg4 S) hC b2
  obtain ⟨N4, d1, d2, d3⟩ := q_mixDays (L := L) (c := c) (h := dTrd S.1.1 (dg4 S)) hC c2 hS
  obtain ⟨N5, f1, f2, f3⟩ := q_ends (L := L) (c := c) hC d2 hS
  obtain ⟨N6, g1, g2, g3⟩ := q_worst (S := S) (L := L) (c := c) hC f2 hS
  obtain ⟨N7, h1, h2, h3⟩ := q_ifp (S := S) (L := L) (c := c) (n := 10) (h := 4294967295) hC g2 hS (by omega) (by omega)
  have eo : (oIfp S 10 4294967295).1 = 0 := rfl
  rw [if_pos (show (oEnd S).1 = 0 from rfl)] at f1
  rw [if_pos (show (oWrs S).1 = 0 from rfl)] at g1
  rw [if_pos eo] at h1
  have h2 : CI N7 S := h2
  obtain ⟨N8, k1, k2, k3⟩ := q_held (L := L) (c := c) hC h2 hS
  have t1 : N8 136 1 = S.2.2.length := k2.2.2.1.1
  have mt := fun h => s_mixRow (N := N8) (L := L) (c := c) (r := 137) (n := S.2.2.length) (h := h) hC.2.2.2.2.2.1.2.1 (by rw [show Z.2.1 137 = 60 from hC.2.2.2.2.2.1.2.2.1]; omega) (by rw [show Z.2.1 137 = 60 from hC.2.2.2.2.2.1.2.2.1]; omega)
  have et : ∀ h, dF (fun i h => mx h (mN (N8 137 i))) S.2.2.length 0 h = dF (fun i h => mx h (mN (S.2.2.getD i 0))) S.2.2.length 0 h := fun h => dF_cg _ 0 h (fun j _ hj h => by
    have hj' : j < S.2.2.length := by omega
    rw [k2.2.2.1.2 j (S.2.2[j]) (List.getElem?_eq_getElem hj'), List.getD_eq_getElem?_getD, List.getElem?_eq_getElem hj']
    rfl)
  simp only [et] at mt
  have z3 : Z.2.2.1 136 0 = .ref 137 := hC.2.2.2.2.2.1.2.2.2
  refine ⟨N8, ?_, k2, fun a ha => (k3 a ha).trans ((h3 a ha).trans ((g3 a ha).trans ((f3 a ha).trans ((d3 a ha).trans ((c3 a ha).trans ((b3 a ha).trans (a3 a ha)))))))⟩
  simp (disch := omega) only [r_X7_digest_0, r_X7_digest_3, r_X7_digest_4, r_X7_digest_5, up2_o, up2_e, iN_ap, iN_up, i_ix, i_inb, i_lt, i_lt0, i_0lt, i_eq, i_ne0, i_00, i_11, i_01, i_10, i_b, i_rem2, n_rem, i_add, i_mul, i_sub, i_div, i_max, i_min, rdk_0, rdk_3, kp_none, kp_int, kp_ref, kp_long, kp_double, aK_v, aK_0, aK_ite, if_true, if_false, and_self, and_true, true_and, or_false, false_or, not_true_eq_false, not_false_eq_true, ite_self, ↓reduceIte, a1]
  simp (disch := omega) only [r_X7_digest_29, r_X7_digest_30, r_X7_digest_31, r_X7_digest_34, r_X7_digest_37, r_X7_digest_38, r_X7_digest_41, r_X7_digest_42, r_X7_digest_43, r_X7_digest_44, r_X7_digest_47, r_X7_digest_50, r_X7_digest_51, r_X7_digest_54, r_X7_digest_57, r_X7_digest_60, r_X7_digest_61, r_X7_digest_62, @id (Z.1 0 = 10) hC.1.1, @id (Z.2.2.1 0 0 = .ref 1) hC.1.2.1, @id (Z.2.2.1 0 1 = .ref 17) hC.1.2.2.1, @id (Z.2.2.1 0 2 = .ref 33) hC.1.2.2.2.1, @id (Z.2.2.1 0 3 = .ref 131) hC.1.2.2.2.2.1, @id (Z.2.2.1 0 4 = .ref 136) hC.1.2.2.2.2.2.1, @id (Z.2.2.1 0 5 = .ref 138) hC.1.2.2.2.2.2.2.1, @id (Z.2.2.1 0 6 = .ref 141) hC.1.2.2.2.2.2.2.2, @id (Z.1 1 = 9) hC.2.1.1, @id (Z.1 17 = 9) hC.2.2.1.1, @id (Z.1 33 = 6) hC.2.2.2.1.1, @id (Z.1 131 = 7) hC.2.2.2.2.1.1, @id (Z.1 136 = 5) hC.2.2.2.2.2.1.1, @id (Z.1 138 = 4) hC.2.2.2.2.2.2.1.1, @id (Z.1 141 = 8) hC.2.2.2.2.2.2.2.1.1, hC.2.1.1, @id (Z.1 (1 + 1) = 0) (yK hC.2.1 1 rfl), @id (Z.2.1 (1 + 1) = 60) (yL hC.2.1 1 rfl), @id (Z.2.2.1 1 4 = .ref (1 + 1)) (yR hC.2.1 1 rfl), @id (Z.1 (1 + 2) = 0) (yK hC.2.1 2 rfl), @id (Z.2.1 (1 + 2) = 5) (yL hC.2.1 2 rfl), @id (Z.2.2.1 1 5 = .ref (1 + 2)) (yR hC.2.1 2 rfl), up2_o, up2_e, iN_ap, iN_up, i_ix, i_inb, i_lt, i_lt0, i_0lt, i_eq, i_ne0, i_00, i_11, i_01, i_10, i_b, i_rem2, n_rem, i_add, i_mul, i_sub, i_div, i_max, i_min, rdk_0, rdk_3, kp_none, kp_int, kp_ref, kp_long, kp_double, aK_v, aK_0, aK_ite, if_true, if_false, and_self, and_true, true_and, or_false, false_or, not_true_eq_false, not_false_eq_true, ite_self, ↓reduceIte, n02, m2, m1]
  rw [b1]
  simp (disch := omega) only [r_X7_digest_87, r_X7_digest_88, r_X7_digest_89, r_X7_digest_92, r_X7_digest_93, r_X7_digest_94, r_X7_digest_95, r_X7_digest_98, @id (Z.1 0 = 10) hC.1.1, @id (Z.2.2.1 0 0 = .ref 1) hC.1.2.1, @id (Z.2.2.1 0 1 = .ref 17) hC.1.2.2.1, @id (Z.2.2.1 0 2 = .ref 33) hC.1.2.2.2.1, @id (Z.2.2.1 0 3 = .ref 131) hC.1.2.2.2.2.1, @id (Z.2.2.1 0 4 = .ref 136) hC.1.2.2.2.2.2.1, @id (Z.2.2.1 0 5 = .ref 138) hC.1.2.2.2.2.2.2.1, @id (Z.2.2.1 0 6 = .ref 141) hC.1.2.2.2.2.2.2.2, @id (Z.1 1 = 9) hC.2.1.1, @id (Z.1 17 = 9) hC.2.2.1.1, @id (Z.1 33 = 6) hC.2.2.2.1.1, @id (Z.1 131 = 7) hC.2.2.2.2.1.1, @id (Z.1 136 = 5) hC.2.2.2.2.2.1.1, @id (Z.1 138 = 4) hC.2.2.2.2.2.2.1.1, @id (Z.1 141 = 8) hC.2.2.2.2.2.2.2.1.1, up2_o, up2_e, iN_ap, iN_up, i_ix, i_inb, i_lt, i_lt0, i_0lt, i_eq, i_ne0, i_00, i_11, i_01, i_10, i_b, i_rem2, n_rem, i_add, i_mul, i_sub, i_div, i_max, i_min, rdk_0, rdk_3, kp_none, kp_int, kp_ref, kp_long, kp_double, aK_v, aK_0, aK_ite, if_true, if_false, and_self, and_true, true_and, or_false, false_or, not_true_eq_false, not_false_eq_true, ite_self, ↓reduceIte]
  rw [show dF (fun i h => dHou S.1.1 S.1.2 i h) (S.1.1 0 1) 0 (dF (fun i h => mx h (mN (S.1.1 1 i))) (S.1.1 0 2) 0 (dF (fun i h => mx h (mN (S.1.1 2 i))) 5 0 (dF (fun w h => mx h (mN (aCn S.1.1 S.1.2 S.2.1.length w))) 13 0 2293))) = dg4 S from rfl]
  simp (disch := omega) only [r_X7_digest_87, r_X7_digest_88, r_X7_digest_89, r_X7_digest_92, r_X7_digest_93, r_X7_digest_94, r_X7_digest_95, r_X7_digest_98, r_X7_digest_99, r_X7_digest_100, r_X7_digest_101, r_X7_digest_104, r_X7_digest_105, r_X7_digest_108, r_X7_digest_109, r_X7_digest_110, r_X7_digest_111, r_X7_digest_114, r_X7_digest_115, r_X7_digest_118, r_X7_digest_119, r_X7_digest_120, r_X7_digest_121, r_X7_digest_123, r_X7_digest_124, r_X7_digest_127, r_X7_digest_128, r_X7_digest_131, r_X7_digest_132, r_X7_digest_133, r_X7_digest_134, r_X7_digest_137, r_X7_digest_140, r_X7_digest_143, r_X7_digest_144, r_X7_digest_145, r_X7_digest_146, r_X7_digest_149, r_X7_digest_152, r_X7_digest_153, r_X7_digest_156, r_X7_digest_157, r_X7_digest_158, r_X7_digest_159, r_X7_digest_162, r_X7_digest_165, r_X7_digest_166, r_X7_digest_169, r_X7_digest_172, r_X7_digest_175, @id (Z.1 0 = 10) hC.1.1, @id (Z.2.2.1 0 0 = .ref 1) hC.1.2.1, @id (Z.2.2.1 0 1 = .ref 17) hC.1.2.2.1, @id (Z.2.2.1 0 2 = .ref 33) hC.1.2.2.2.1, @id (Z.2.2.1 0 3 = .ref 131) hC.1.2.2.2.2.1, @id (Z.2.2.1 0 4 = .ref 136) hC.1.2.2.2.2.2.1, @id (Z.2.2.1 0 5 = .ref 138) hC.1.2.2.2.2.2.2.1, @id (Z.2.2.1 0 6 = .ref 141) hC.1.2.2.2.2.2.2.2, @id (Z.1 1 = 9) hC.2.1.1, @id (Z.1 17 = 9) hC.2.2.1.1, @id (Z.1 33 = 6) hC.2.2.2.1.1, @id (Z.1 131 = 7) hC.2.2.2.2.1.1, @id (Z.1 136 = 5) hC.2.2.2.2.2.1.1, @id (Z.1 138 = 4) hC.2.2.2.2.2.2.1.1, @id (Z.1 141 = 8) hC.2.2.2.2.2.2.2.1.1, z3, up2_o, up2_e, iN_ap, iN_up, i_ix, i_inb, i_lt, i_lt0, i_0lt, i_eq, i_ne0, i_00, i_11, i_01, i_10, i_b, i_rem2, n_rem, i_add, i_mul, i_sub, i_div, i_max, i_min, rdk_0, rdk_3, kp_none, kp_int, kp_ref, kp_long, kp_double, aK_v, aK_0, aK_ite, if_true, if_false, and_self, and_true, true_and, or_false, false_or, not_true_eq_false, not_false_eq_true, ite_self, ↓reduceIte, nM1, c1, d1, f1, g1, h1, k1, hB, s_mix7, t1]
  rw [show (nI S.2.2.length).toInt64 = mN S.2.2.length from rfl, show mx (mx (mx (dDay S.1.1 S.1.2 (dTrd S.1.1 (dg4 S))) (nI (oEnd S).2.1).toInt64) (nI (oWrs S).2.1).toInt64) (nI (oIfp S 10 4294967295).2.1).toInt64 = dg9 S from rfl]
  rw [mt]
  simp only [r_X7_digest_175, aK_v]
  rfl
end De
