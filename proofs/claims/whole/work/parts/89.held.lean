/-! the share that is held: one division on both sides -/
theorem hl_dv {a b : Int32} (hb : b ≠ 0) : (FP.ddiv (FP.i2d a) (FP.i2d b) &&& 0x7fffffffffffffff ≤ 0x7ff0000000000000) = True := by
  refine eq_true ?_
  have ha : Jvm.FP.Core.dIsNaN (Jvm.FP.Core.i2d a) = false := (Jvm.FP.Core.notNaN_iff _).mpr (Jvm.FP.Core.DFin.ne_nan (Jvm.FP.Core.i2d_fin a))
  have hz : ¬ Jvm.FP.Core.DZero (Jvm.FP.Core.i2d b) := fun h => Jvm.FP.Core.i2d_ne_zero hb ((Jvm.FP.Core.zero_bits2 _).mp h)
  have h := (Jvm.FP.Core.notNaN_iff _).mp (Jvm.FP.Core.ddiv_out ha (Jvm.FP.Core.i2d_fin b) hz)
  rw [Jvm.FP.Core.ne_nan] at h
  rw [UInt64.le_iff_toNat_le]
  exact (Jvm.FP.Core.mask_toNat _).symm ▸ h
def hel (R : aY) : UInt64 := if sumN (aPr R) 0 6 = 0 then FP.dconst0 else FP.ddiv (FP.i2d (nI (sumN (R 12) 0 144))) (FP.i2d (nI (sumN (aPr R) 0 6)))
theorem aPr_bd {R : aY} {q : List Nat} (hw : WF R q) : sumN (aPr R) 0 6 ≤ 59994 * 6 := sumN_bd (fun i hi => by
  have h5 := hw.2.1 (0 + i) (by omega)
  have h7 : sumN (R 7) ((0 + i) * 6) (R 5 (0 + i)) ≤ 9999 * R 5 (0 + i) := sumN_bd (fun j hj => (hw.2.2.1 ((0 + i) * 6 + j) (by omega)).2.1)
  show sumN (R 7) ((0 + i) * 6) (R 5 (0 + i)) ≤ 59994
  omega)
section He
variable {Z : aZ} {N : Nat → Nat → Nat} {L : Nat → Nat → Int64} {c : Nat × Nat}
theorem q_held {S : aSt} (hC : ZC Z) (hI : CI N S) (hS : SOK S) :
    ∃ N', ex 84 0 [some (.ref 0), none] [] (Z, iN N, L, c) = some (.inl (some (.double (hel S.1.1))), (Z, iN N', L, c)) ∧ CI N' S ∧ ∀ a, 144 ≤ a → N' a = N a := by
  have hb := aPr_bd hS.1.1
  obtain ⟨N1, e1, h1, f1⟩ := q_count (L := L) (c := c) (w := 6) hC hI hS (by omega)
  obtain ⟨P, hP⟩ : ∃ P, P = sumN (aPr S.1.1) 0 6 := ⟨_, rfl⟩
  have e1 : ex 78 0 [some (.ref 0), some (.int (nI 6))] [] (Z, iN N, L, c) = some (.inl (some (.int (nI P))), (Z, iN N1, L, c)) := by
    rw [hP]
    exact e1
  have h1 : CI N1 S := h1
  unfold hel
  rw [← hP] at hb ⊢
  by_cases q : P = 0
  · rw [if_pos q]
    rw [q] at e1
    refine ⟨N1, ?_, h1, f1⟩
    simp (disch := omega) only [r_X7_heldShare_0, r_X7_heldShare_1, r_X7_heldShare_3, r_X7_heldShare_6, r_X7_heldShare_7, r_X7_heldShare_8, r_X7_heldShare_11, r_X7_heldShare_12, r_X7_heldShare_13, r_X7_heldShare_14, r_X7_heldShare_16, r_X7_heldShare_19, r_X7_heldShare_20, r_X7_heldShare_21, r_X7_heldShare_22, r_X7_heldShare_23, @id (Z.1 0 = 10) hC.1.1, @id (Z.2.2.1 0 0 = .ref 1) hC.1.2.1, @id (Z.2.2.1 0 1 = .ref 17) hC.1.2.2.1, @id (Z.2.2.1 0 2 = .ref 33) hC.1.2.2.2.1, @id (Z.2.2.1 0 3 = .ref 131) hC.1.2.2.2.2.1, @id (Z.2.2.1 0 4 = .ref 136) hC.1.2.2.2.2.2.1, @id (Z.2.2.1 0 5 = .ref 138) hC.1.2.2.2.2.2.2.1, @id (Z.2.2.1 0 6 = .ref 141) hC.1.2.2.2.2.2.2.2, @id (Z.1 1 = 9) hC.2.1.1, @id (Z.1 17 = 9) hC.2.2.1.1, @id (Z.1 33 = 6) hC.2.2.2.1.1, @id (Z.1 131 = 7) hC.2.2.2.2.1.1, @id (Z.1 136 = 5) hC.2.2.2.2.2.1.1, @id (Z.1 138 = 4) hC.2.2.2.2.2.2.1.1, @id (Z.1 141 = 8) hC.2.2.2.2.2.2.2.1.1, up2_o, up2_e, iN_ap, iN_up, i_ix, i_inb, i_lt, i_lt0, i_0lt, i_eq, i_ne0, i_00, i_11, i_01, i_10, i_b, i_rem2, n_rem, i_add, i_mul, i_sub, i_div, i_max, i_min, rdk_0, rdk_3, kp_none, kp_int, kp_ref, kp_long, kp_double, aK_v, aK_0, aK_ite, if_true, if_false, and_self, and_true, true_and, or_false, false_or, not_true_eq_false, not_false_eq_true, ite_self, ↓reduceIte, e1]
  · rw [if_neg q]
    obtain ⟨N2, e2, h2, f2⟩ := q_count (L := L) (c := c) (w := 8) hC h1 hS (by omega)
    have e2 : ex 78 0 [some (.ref 0), some (.int (nI 8))] [] (Z, iN N1, L, c) = some (.inl (some (.int (nI (sumN (S.1.1 12) 0 144)))), (Z, iN N2, L, c)) := e2
    have qz : (nI P = 0) = False := by
      rw [← nI_0, i_eqU (by omega) (by omega)]
      exact eq_false q
    have hd := hl_dv (a := nI (sumN (S.1.1 12) 0 144)) (b := nI P) (fun z => by rw [qz] at z; exact z)
    refine ⟨N2, ?_, h2, fun a ha => (f2 a ha).trans (f1 a ha)⟩
    simp (disch := omega) only [r_X7_heldShare_0, r_X7_heldShare_1, r_X7_heldShare_3, r_X7_heldShare_6, r_X7_heldShare_7, r_X7_heldShare_8, r_X7_heldShare_11, r_X7_heldShare_12, r_X7_heldShare_13, r_X7_heldShare_14, r_X7_heldShare_16, r_X7_heldShare_19, r_X7_heldShare_20, r_X7_heldShare_21, r_X7_heldShare_23, @id (Z.1 0 = 10) hC.1.1, @id (Z.2.2.1 0 0 = .ref 1) hC.1.2.1, @id (Z.2.2.1 0 1 = .ref 17) hC.1.2.2.1, @id (Z.2.2.1 0 2 = .ref 33) hC.1.2.2.2.1, @id (Z.2.2.1 0 3 = .ref 131) hC.1.2.2.2.2.1, @id (Z.2.2.1 0 4 = .ref 136) hC.1.2.2.2.2.2.1, @id (Z.2.2.1 0 5 = .ref 138) hC.1.2.2.2.2.2.2.1, @id (Z.2.2.1 0 6 = .ref 141) hC.1.2.2.2.2.2.2.2, @id (Z.1 1 = 9) hC.2.1.1, @id (Z.1 17 = 9) hC.2.2.1.1, @id (Z.1 33 = 6) hC.2.2.2.1.1, @id (Z.1 131 = 7) hC.2.2.2.2.1.1, @id (Z.1 136 = 5) hC.2.2.2.2.2.1.1, @id (Z.1 138 = 4) hC.2.2.2.2.2.2.1.1, @id (Z.1 141 = 8) hC.2.2.2.2.2.2.2.1.1, up2_o, up2_e, iN_ap, iN_up, i_ix, i_inb, i_lt, i_lt0, i_0lt, i_eq, i_ne0, i_00, i_11, i_01, i_10, i_b, i_rem2, n_rem, i_add, i_mul, i_sub, i_div, i_max, i_min, rdk_0, rdk_3, kp_none, kp_int, kp_ref, kp_long, kp_double, aK_v, aK_0, aK_ite, if_true, if_false, and_self, and_true, true_and, or_false, false_or, not_true_eq_false, not_false_eq_true, ite_self, ↓reduceIte, e1, e2, qz]
    rw [r_X7_heldShare_22, if_pos (of_eq_true hd)]
    simp only [r_X7_heldShare_23]
theorem s_mHeldNow {R : aY} {q : List Nat} {B : Nat → Nat} {o : Nat} (hM : MAt Z) (hk : MK N R q B o) : ex 182 0 [some (.ref 144), none] [] (Z, iN N, L, c) = some (.inl (some (.double (hel R))), (Z, iN N, L, c)) := by
  have hb := aPr_bd hk.2.1
  have k1 := s_mPricesSet (L := L) (c := c) hM (MK_Zb hk)
  have k2 := s_mOfTrades (L := L) (c := c) (w := 3) hM (MK_Zb hk) (by omega)
  rw [zPs_R hk.1 hk.2.1] at k1
  rw [(zOt_R hk.1 hk.2.1).1] at k2
  unfold hel
  obtain ⟨P, hP⟩ : ∃ P, P = sumN (aPr R) 0 6 := ⟨_, rfl⟩
  rw [← hP] at hb k1 ⊢
  by_cases q : P = 0
  · rw [if_pos q]
    rw [q] at k1
    simp (disch := omega) only [r_X8_heldNow_0, r_X8_heldNow_1, r_X8_heldNow_4, r_X8_heldNow_5, r_X8_heldNow_6, r_X8_heldNow_9, r_X8_heldNow_10, r_X8_heldNow_13, r_X8_heldNow_14, r_X8_heldNow_15, r_X8_heldNow_18, r_X8_heldNow_19, r_X8_heldNow_20, r_X8_heldNow_21, r_X8_heldNow_22, hM.1.1, @id (Z.2.2.1 144 0 = .ref 145) hM.1.2.1, @id (Z.2.2.1 144 1 = .ref 146) hM.1.2.2.1, @id (Z.2.2.1 144 2 = .ref 147) hM.1.2.2.2.1, @id (Z.2.2.1 144 3 = .ref 148) hM.1.2.2.2.2.1, @id (Z.2.2.1 144 4 = .ref 149) hM.1.2.2.2.2.2.1, @id (Z.2.2.1 144 5 = .ref 150) hM.1.2.2.2.2.2.2.1, @id (Z.2.2.1 144 6 = .ref 151) hM.1.2.2.2.2.2.2.2, @id (Z.1 145 = 0) hM.2.1.1, @id (Z.1 146 = 0) hM.2.1.2.1, @id (Z.1 147 = 0) hM.2.1.2.2.1, @id (Z.1 148 = 0) hM.2.1.2.2.2.1, @id (Z.1 149 = 0) hM.2.1.2.2.2.2.1, @id (Z.1 150 = 0) hM.2.1.2.2.2.2.2.1, @id (Z.1 151 = 0) hM.2.1.2.2.2.2.2.2, @id (Z.2.1 145 = 667) hM.2.2.1, @id (Z.2.1 146 = 667) hM.2.2.2.1, @id (Z.2.1 147 = 4002) hM.2.2.2.2.1, @id (Z.2.1 148 = 60) hM.2.2.2.2.2.1, @id (Z.2.1 149 = 32) hM.2.2.2.2.2.2.1, @id (Z.2.1 150 = 32) hM.2.2.2.2.2.2.2.1, @id (Z.2.1 151 = 36) hM.2.2.2.2.2.2.2.2, up2_o, up2_e, iN_ap, iN_up, i_ix, i_inb, i_lt, i_lt0, i_0lt, i_eq, i_ne0, i_00, i_11, i_01, i_10, i_b, i_rem2, n_rem, i_add, i_mul, i_sub, i_div, i_max, i_min, rdk_0, rdk_3, kp_none, kp_int, kp_ref, kp_long, kp_double, aK_v, aK_0, aK_ite, if_true, if_false, and_self, and_true, true_and, or_false, false_or, not_true_eq_false, not_false_eq_true, ite_self, ↓reduceIte, k1]
  · rw [if_neg q]
    have qz : (nI P = 0) = False := by
      rw [← nI_0, i_eqU (by omega) (by omega)]
      exact eq_false q
    have hd := hl_dv (a := nI (sumN (R 12) 0 144)) (b := nI P) (fun z => by rw [qz] at z; exact z)
    simp (disch := omega) only [r_X8_heldNow_0, r_X8_heldNow_1, r_X8_heldNow_4, r_X8_heldNow_5, r_X8_heldNow_6, r_X8_heldNow_9, r_X8_heldNow_10, r_X8_heldNow_13, r_X8_heldNow_14, r_X8_heldNow_15, r_X8_heldNow_18, r_X8_heldNow_19, r_X8_heldNow_20, r_X8_heldNow_22, hM.1.1, @id (Z.2.2.1 144 0 = .ref 145) hM.1.2.1, @id (Z.2.2.1 144 1 = .ref 146) hM.1.2.2.1, @id (Z.2.2.1 144 2 = .ref 147) hM.1.2.2.2.1, @id (Z.2.2.1 144 3 = .ref 148) hM.1.2.2.2.2.1, @id (Z.2.2.1 144 4 = .ref 149) hM.1.2.2.2.2.2.1, @id (Z.2.2.1 144 5 = .ref 150) hM.1.2.2.2.2.2.2.1, @id (Z.2.2.1 144 6 = .ref 151) hM.1.2.2.2.2.2.2.2, @id (Z.1 145 = 0) hM.2.1.1, @id (Z.1 146 = 0) hM.2.1.2.1, @id (Z.1 147 = 0) hM.2.1.2.2.1, @id (Z.1 148 = 0) hM.2.1.2.2.2.1, @id (Z.1 149 = 0) hM.2.1.2.2.2.2.1, @id (Z.1 150 = 0) hM.2.1.2.2.2.2.2.1, @id (Z.1 151 = 0) hM.2.1.2.2.2.2.2.2, @id (Z.2.1 145 = 667) hM.2.2.1, @id (Z.2.1 146 = 667) hM.2.2.2.1, @id (Z.2.1 147 = 4002) hM.2.2.2.2.1, @id (Z.2.1 148 = 60) hM.2.2.2.2.2.1, @id (Z.2.1 149 = 32) hM.2.2.2.2.2.2.1, @id (Z.2.1 150 = 32) hM.2.2.2.2.2.2.2.1, @id (Z.2.1 151 = 36) hM.2.2.2.2.2.2.2.2, up2_o, up2_e, iN_ap, iN_up, i_ix, i_inb, i_lt, i_lt0, i_0lt, i_eq, i_ne0, i_00, i_11, i_01, i_10, i_b, i_rem2, n_rem, i_add, i_mul, i_sub, i_div, i_max, i_min, rdk_0, rdk_3, kp_none, kp_int, kp_ref, kp_long, kp_double, aK_v, aK_0, aK_ite, if_true, if_false, and_self, and_true, true_and, or_false, false_or, not_true_eq_false, not_false_eq_true, ite_self, ↓reduceIte, k1, k2, qz]
    rw [r_X8_heldNow_21, if_pos (of_eq_true hd)]
    simp only [r_X8_heldNow_22]
end He
theorem heldOK : HeldOK := fun Z N L c S g i Ls a5 a6 a7 a8 H => by
  obtain ⟨hC, hM, ⟨z1, z2⟩, ⟨y0, y1⟩, ⟨k2, k3⟩, k4, hI, hO, hS, hK, hg⟩ := H
  have z0 := hC.1.1
  have z4 := hM.1.1
  obtain ⟨N1, w1, w2, w3⟩ := q_held (L := L) (c := c) hC hI hS
  have hO1 := MO_thr (j := 11) (v := 0) (MO_cg hO (fun a h _ => w3 a h)) (by omega)
  obtain ⟨N0, hN0⟩ : ∃ N0, N0 = up2 N1 144 11 0 := ⟨_, rfl⟩
  rw [← hN0] at hO1
  obtain ⟨B, o, hk, hog⟩ := MK_of hO1
  have r1 := s_mHeldNow (L := L) (c := c) hM hk
  have r2 : ex 183 0 [some (.ref 144)] [] (Z, iN N1, L, c) = some (.inl (some (.double (hel S.1.1))), (Z, iN N0, L, c)) := by
    rw [r_X8_heldShare_0, r_X8_heldShare_1, r_X8_heldShare_2, if_pos z4, iN_up, ← hN0]
    simp (disch := omega) only [r_X8_heldShare_5, r_X8_heldShare_6, r_X8_heldShare_9, hM.1.1, @id (Z.2.2.1 144 0 = .ref 145) hM.1.2.1, @id (Z.2.2.1 144 1 = .ref 146) hM.1.2.2.1, @id (Z.2.2.1 144 2 = .ref 147) hM.1.2.2.2.1, @id (Z.2.2.1 144 3 = .ref 148) hM.1.2.2.2.2.1, @id (Z.2.2.1 144 4 = .ref 149) hM.1.2.2.2.2.2.1, @id (Z.2.2.1 144 5 = .ref 150) hM.1.2.2.2.2.2.2.1, @id (Z.2.2.1 144 6 = .ref 151) hM.1.2.2.2.2.2.2.2, @id (Z.1 145 = 0) hM.2.1.1, @id (Z.1 146 = 0) hM.2.1.2.1, @id (Z.1 147 = 0) hM.2.1.2.2.1, @id (Z.1 148 = 0) hM.2.1.2.2.2.1, @id (Z.1 149 = 0) hM.2.1.2.2.2.2.1, @id (Z.1 150 = 0) hM.2.1.2.2.2.2.2.1, @id (Z.1 151 = 0) hM.2.1.2.2.2.2.2.2, @id (Z.2.1 145 = 667) hM.2.2.1, @id (Z.2.1 146 = 667) hM.2.2.2.1, @id (Z.2.1 147 = 4002) hM.2.2.2.2.1, @id (Z.2.1 148 = 60) hM.2.2.2.2.2.1, @id (Z.2.1 149 = 32) hM.2.2.2.2.2.2.1, @id (Z.2.1 150 = 32) hM.2.2.2.2.2.2.2.1, @id (Z.2.1 151 = 36) hM.2.2.2.2.2.2.2.2, up2_o, up2_e, iN_ap, iN_up, i_ix, i_inb, i_lt, i_lt0, i_0lt, i_eq, i_ne0, i_00, i_11, i_01, i_10, i_b, i_rem2, n_rem, i_add, i_mul, i_sub, i_div, i_max, i_min, rdk_0, rdk_3, kp_none, kp_int, kp_ref, kp_long, kp_double, aK_v, aK_0, aK_ite, if_true, if_false, and_self, and_true, true_and, or_false, false_or, not_true_eq_false, not_false_eq_true, ite_self, ↓reduceIte, r1]
  have r4 : ∀ a, (a < 144 ∨ 151 < a) → N0 a = N1 a := fun a ha => by
    rw [hN0]
    exact up144 (by omega)
  obtain ⟨v, hv⟩ : ∃ v, v = hel S.1.1 := ⟨_, rfl⟩
  rw [← hv] at w1 r2
  by_cases q : Op.cmpValue (FP.dcmp v v) .l = 0
  · simp (disch := omega) only [r_L_law_1648, r_L_law_1649, r_L_law_1652, r_L_law_1654, r_L_law_1655, r_L_law_1658, r_L_law_1660, r_L_law_1662, r_L_law_1664, r_L_law_1665, r_L_law_1668, r_L_law_1670, r_L_law_1672, r_L_law_1673, r_L_law_1676, r_L_law_1678, r_L_law_1680, r_L_law_1681, r_L_law_1684, r_L_law_1685, r_L_law_1686, up2_o, up2_e, iN_ap, iN_up, i_ix, i_inb, i_lt, i_lt0, i_0lt, i_eq, i_ne0, i_00, i_11, i_01, i_10, i_b, i_rem2, n_rem, i_add, i_mul, i_sub, i_div, i_max, i_min, rdk_0, rdk_3, kp_none, kp_int, kp_ref, kp_long, kp_double, aK_v, aK_0, aK_ite, if_true, if_false, and_self, and_true, true_and, or_false, false_or, not_true_eq_false, not_false_eq_true, ite_self, ↓reduceIte, z0, z4, w1, r2, eq_true q]
    exact NX_mk w2 w3 (MV_le hO1.1) r4 hS hK (Or.inl rfl) hg
  · simp (disch := omega) only [r_L_law_1648, r_L_law_1649, r_L_law_1652, r_L_law_1654, r_L_law_1655, r_L_law_1658, r_L_law_1660, r_L_law_1662, r_L_law_1664, r_L_law_1665, r_L_law_1668, r_L_law_1670, r_L_law_1672, r_L_law_1673, r_L_law_1676, r_L_law_1678, r_L_law_1680, r_L_law_1681, r_L_law_1684, r_L_law_1685, r_L_law_1686, up2_o, up2_e, iN_ap, iN_up, i_ix, i_inb, i_lt, i_lt0, i_0lt, i_eq, i_ne0, i_00, i_11, i_01, i_10, i_b, i_rem2, n_rem, i_add, i_mul, i_sub, i_div, i_max, i_min, rdk_0, rdk_3, kp_none, kp_int, kp_ref, kp_long, kp_double, aK_v, aK_0, aK_ite, if_true, if_false, and_self, and_true, true_and, or_false, false_or, not_true_eq_false, not_false_eq_true, ite_self, ↓reduceIte, z0, z4, w1, r2, eq_false q]
    exact NX_mk w2 w3 (MV_le hO1.1) r4 hS hK (Or.inl rfl) hg
