/-! the share that is held: one division on both sides -/
theorem hl_dv {a b : Int32} (hb : b ≠ 0) : (FP.ddiv (FP.i2d a) (FP.i2d b) &&& 0x7fffffffffffffff ≤ 0x7ff0000000000000) = True := by
  refine eq_true ?_
  have ha : Jvm.FP.Core.dIsNaN (Jvm.FP.Core.i2d a) = false := (Jvm.FP.Core.notNaN_iff _).mpr (Jvm.FP.Core.DFin.ne_nan (Jvm.FP.Core.i2d_fin a))
  have hz : ¬ Jvm.FP.Core.DZero (Jvm.FP.Core.i2d b) := fun h => Jvm.FP.Core.i2d_ne_zero hb ((Jvm.FP.Core.zero_bits2 _).mp h)
  have h := (Jvm.FP.Core.notNaN_iff _).mp (Jvm.FP.Core.ddiv_out ha (Jvm.FP.Core.i2d_fin b) hz)
  rw [Jvm.FP.Core.ne_nan] at h
  rw [UInt64.le_iff_toNat_le]
  exact (Jvm.FP.Core.mask_toNat _).symm ▸ h
def hel (R : aY) : UInt64 := if sumN (aPr R) 0 6 = 0 then FP.dconst0 else FP.ddiv (FP.i2d (nI (sumN (R 12) 0 144))) (FP.i2d (nI (sumN (aPr R) 0 6)))
theorem aPr_bd {R : aY} {q : List Nat} (hw : WF R q) : sumN (aPr R) 0 6 ≤ 59994 * 6 := sumN_bd (fun i hi => by
  have h5 := hw.2.1 (0 + i) (by omega)
  have h7 : sumN (R 7) ((0 + i) * 6) (R 5 (0 + i)) ≤ 9999 * R 5 (0 + i) := sumN_bd (fun j hj => (hw.2.2.1 ((0 + i) * 6 + j) (by omega)).2.1)
  show sumN (R 7) ((0 + i) * 6) (R 5 (0 + i)) ≤ 59994
  omega)
section He
variable {Z : aZ} {N : Nat → Nat → Nat} {L : Nat → Nat → Int64} {c : Nat × Nat}
theorem q_held {S : aSt} (hC : ZC Z) (hI : CI N S) (hS : SOK S) :
    ex 81 0 [some (.ref 0), none] [] (Z, iN N, L, c) = some (.inl (some (.double (hel S.1.1))), (Z, iN N, L, c)) := by
  have hb := aPr_bd hS.1.1
  have e1 := q_count (L := L) (c := c) (w := 6) hC hI hS (by omega)
  obtain ⟨P, hP⟩ : ∃ P, P = sumN (aPr S.1.1) 0 6 := ⟨_, rfl⟩
  have e1 : ex 75 0 [some (.ref 0), some (.int (nI 6))] [] (Z, iN N, L, c) = some (.inl (some (.int (nI P))), (Z, iN N, L, c)) := by
    rw [hP]
    exact e1
  unfold hel
  rw [← hP] at hb ⊢
  by_cases q : P = 0
  · rw [if_pos q]
    rw [q] at e1
    simp (disch := omega) only [r_X7_heldShare_0, r_X7_heldShare_1, r_X7_heldShare_3, r_X7_heldShare_6, r_X7_heldShare_7, r_X7_heldShare_8, r_X7_heldShare_11, r_X7_heldShare_12, r_X7_heldShare_13, r_X7_heldShare_14, r_X7_heldShare_16, r_X7_heldShare_19, r_X7_heldShare_20, r_X7_heldShare_21, r_X7_heldShare_22, r_X7_heldShare_23, @id (Z.1 0 = 10) hC.1.1, @id (Z.2.2.1 0 0 = .ref 1) hC.1.2.1, @id (Z.2.2.1 0 1 = .ref 17) hC.1.2.2.1, @id (Z.2.2.1 0 2 = .ref 33) hC.1.2.2.2.1, @id (Z.2.2.1 0 3 = .ref 131) hC.1.2.2.2.2.1, @id (Z.2.2.1 0 4 = .ref 136) hC.1.2.2.2.2.2.1, @id (Z.2.2.1 0 5 = .ref 138) hC.1.2.2.2.2.2.2.1, @id (Z.2.2.1 0 6 = .ref 141) hC.1.2.2.2.2.2.2.2, @id (Z.1 1 = 9) hC.2.1.1, @id (Z.1 17 = 9) hC.2.2.1.1, @id (Z.1 33 = 6) hC.2.2.2.1.1, @id (Z.1 131 = 7) hC.2.2.2.2.1.1, @id (Z.1 136 = 5) hC.2.2.2.2.2.1.1, @id (Z.1 138 = 4) hC.2.2.2.2.2.2.1.1, @id (Z.1 141 = 8) hC.2.2.2.2.2.2.2.1.1, up2_o, up2_e, iN_ap, iN_up, i_ix, i_inb, i_lt, i_lt0, i_0lt, i_eq, i_ne0, i_00, i_11, i_01, i_10, i_b, i_rem2, n_rem, i_add, i_mul, i_sub, i_div, i_max, i_min, rdk_0, rdk_3, kp_none, kp_int, kp_ref, kp_long, kp_double, aK_v, aK_0, aK_ite, if_true, if_false, and_self, and_true, true_and, or_false, false_or, not_true_eq_false, not_false_eq_true, ite_self, ↓reduceIte, e1]
  · rw [if_neg q]
    have e2 : ex 75 0 [some (.ref 0), some (.int (nI 8))] [] (Z, iN N, L, c) = some (.inl (some (.int (nI (sumN (S.1.1 12) 0 144)))), (Z, iN N, L, c)) := q_count (L := L) (c := c) (w := 8) hC hI hS (by omega)
    have qz : (nI P = 0) = False := by
      rw [← nI_0, i_eqU (by omega) (by omega)]
      exact eq_false q
    have hd := hl_dv (a := nI (sumN (S.1.1 12) 0 144)) (b := nI P) (fun z => by rw [qz] at z; exact z)
    simp (disch := omega) only [r_X7_heldShare_0, r_X7_heldShare_1, r_X7_heldShare_3, r_X7_heldShare_6, r_X7_heldShare_7, r_X7_heldShare_8, r_X7_heldShare_11, r_X7_heldShare_12, r_X7_heldShare_13, r_X7_heldShare_14, r_X7_heldShare_16, r_X7_heldShare_19, r_X7_heldShare_20, r_X7_heldShare_21, r_X7_heldShare_23, @id (Z.1 0 = 10) hC.1.1, @id (Z.2.2.1 0 0 = .ref 1) hC.1.2.1, @id (Z.2.2.1 0 1 = .ref 17) hC.1.2.2.1, @id (Z.2.2.1 0 2 = .ref 33) hC.1.2.2.2.1, @id (Z.2.2.1 0 3 = .ref 131) hC.1.2.2.2.2.1, @id (Z.2.2.1 0 4 = .ref 136) hC.1.2.2.2.2.2.1, @id (Z.2.2.1 0 5 = .ref 138) hC.1.2.2.2.2.2.2.1, @id (Z.2.2.1 0 6 = .ref 141) hC.1.2.2.2.2.2.2.2, @id (Z.1 1 = 9) hC.2.1.1, @id (Z.1 17 = 9) hC.2.2.1.1, @id (Z.1 33 = 6) hC.2.2.2.1.1, @id (Z.1 131 = 7) hC.2.2.2.2.1.1, @id (Z.1 136 = 5) hC.2.2.2.2.2.1.1, @id (Z.1 138 = 4) hC.2.2.2.2.2.2.1.1, @id (Z.1 141 = 8) hC.2.2.2.2.2.2.2.1.1, up2_o, up2_e, iN_ap, iN_up, i_ix, i_inb, i_lt, i_lt0, i_0lt, i_eq, i_ne0, i_00, i_11, i_01, i_10, i_b, i_rem2, n_rem, i_add, i_mul, i_sub, i_div, i_max, i_min, rdk_0, rdk_3, kp_none, kp_int, kp_ref, kp_long, kp_double, aK_v, aK_0, aK_ite, if_true, if_false, and_self, and_true, true_and, or_false, false_or, not_true_eq_false, not_false_eq_true, ite_self, ↓reduceIte, e1, e2, qz]
    rw [r_X7_heldShare_22, if_pos (of_eq_true hd)]
    simp only [r_X7_heldShare_23]
end He
