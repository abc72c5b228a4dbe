/-! the held share's bits, the reference's side; it is no more than one -/
theorem HS_sum {R : aY} (h : HS R) (hw : ∀ i, i < 6 → R 5 i ≤ 6) : sumN (R 12) 0 144 ≤ sumN (aPr R) 0 6 := by
  have e1 : sumN (R 12) 0 144 = sumN (fun p => sumN (R 12) (4 * p) 4) 0 36 := sumN_blk (b := 4) 36
  have e2 : sumN (fun p => if p % 6 < R 5 (p / 6) then R 7 p else 0) 0 36 = sumN (fun i => sumN (fun p => if p % 6 < R 5 (p / 6) then R 7 p else 0) (6 * i) 6) 0 6 := sumN_blk (b := 6) 6
  have e3 : sumN (fun i => sumN (fun p => if p % 6 < R 5 (p / 6) then R 7 p else 0) (6 * i) 6) 0 6 = sumN (aPr R) 0 6 := sumN_congr (fun i hi => by
    rw [Nat.zero_add]
    show sumN (fun p => if p % 6 < R 5 (p / 6) then R 7 p else 0) (6 * i) 6 = sumN (R 7) (i * 6) (R 5 i)
    rw [Nat.mul_comm 6 i]
    refine sumN_cut (f := R 7) 6 (hw i hi) (fun j hj => ?_) (fun j h1 h2 => ?_)
    · have := hw i hi
      rw [show (i * 6 + j) / 6 = i by omega, show (i * 6 + j) % 6 = j by omega, if_pos hj]
    · rw [show (i * 6 + j) / 6 = i by omega, show (i * 6 + j) % 6 = j by omega, if_neg (by omega)])
  rw [e1, ← e3, ← e2]
  exact sumN_mono 36 (fun p hp => by
    rw [Nat.zero_add, Nat.mul_comm 4 p]
    exact h p hp)
theorem dtl_bits {v : UInt64} {h : aH} (hn : Jvm.FP.Core.dIsNaN v = false) : ex 188 0 [some (.double v), none] [] h = some (.inl (some (.long v.toInt64)), h) := by
  have hc : Op.cmpValue (FP.dcmp v v) .l = 0 := by
    rw [show FP.dcmp v v = some .eq from Jvm.FP.Core.dcmp_refl hn]
    rfl
  have k1 : ex 187 0 [some (.double v), none] [] h = some (.inl (some (.int (nI 0))), h) := by
    simp (disch := omega) only [r_Jxe99ae_isNaN_b9ae7_0, r_Jxe99ae_isNaN_b9ae7_1, r_Jxe99ae_isNaN_b9ae7_2, r_Jxe99ae_isNaN_b9ae7_3, r_Jxe99ae_isNaN_b9ae7_6, r_Jxe99ae_isNaN_b9ae7_7, r_Jxe99ae_isNaN_b9ae7_10, r_Jxe99ae_isNaN_b9ae7_11, up2_o, up2_e, iN_ap, iN_up, i_ix, i_inb, i_lt, i_lt0, i_0lt, i_eq, i_ne0, i_00, i_11, i_01, i_10, i_b, i_rem2, n_rem, i_add, i_mul, i_sub, i_div, i_max, i_min, rdk_0, rdk_3, kp_none, kp_int, kp_ref, kp_long, kp_double, aK_v, aK_0, aK_ite, if_true, if_false, and_self, and_true, true_and, or_false, false_or, not_true_eq_false, not_false_eq_true, ite_self, ↓reduceIte, eq_true hc]
  simp (disch := omega) only [r_Jxe99ae_doubleToLongBits_ccdee_0, r_Jxe99ae_doubleToLongBits_ccdee_1, r_Jxe99ae_doubleToLongBits_ccdee_4, r_Jxe99ae_doubleToLongBits_ccdee_7, r_Jxe99ae_doubleToLongBits_ccdee_8, r_Jxe99ae_doubleToLongBits_ccdee_11, r_Jxe99ae_doubleToLongBits_ccdee_12, r_Jxe99ae_doubleToLongBits_ccdee_15, up2_o, up2_e, iN_ap, iN_up, i_ix, i_inb, i_lt, i_lt0, i_0lt, i_eq, i_ne0, i_00, i_11, i_01, i_10, i_b, i_rem2, n_rem, i_add, i_mul, i_sub, i_div, i_max, i_min, rdk_0, rdk_3, kp_none, kp_int, kp_ref, kp_long, kp_double, aK_v, aK_0, aK_ite, if_true, if_false, and_self, and_true, true_and, or_false, false_or, not_true_eq_false, not_false_eq_true, ite_self, ↓reduceIte, k1]
theorem hel_nn {R : aY} {q : List Nat} (hw : WF R q) : Jvm.FP.Core.dIsNaN (hel R) = false := by
  have hb := aPr_bd hw
  unfold hel
  by_cases z : sumN (aPr R) 0 6 = 0
  · rw [if_pos z]
    decide +kernel
  · rw [if_neg z]
    have hz : nI (sumN (aPr R) 0 6) ≠ 0 := fun w => z (by rw [← nI_0, i_eqU (by omega) (by omega)] at w; exact w)
    have ha : Jvm.FP.Core.dIsNaN (Jvm.FP.Core.i2d (nI (sumN (R 12) 0 144))) = false := (Jvm.FP.Core.notNaN_iff _).mpr (Jvm.FP.Core.DFin.ne_nan (Jvm.FP.Core.i2d_fin _))
    exact Jvm.FP.Core.ddiv_out ha (Jvm.FP.Core.i2d_fin _) (fun h => Jvm.FP.Core.i2d_ne_zero hz ((Jvm.FP.Core.zero_bits2 _).mp h))
/-- what is left: the class's bits -/
def CBits (v : UInt64) : Prop := ∀ h, ex 92 0 [some (.double v), none, none, none, none, none, none, none] [] h = some (.inl (some (.long v.toInt64)), h)
theorem CBits_0 : CBits FP.dconst0 := fun h => by
  have hc : Op.cmpValue (FP.dcmp FP.dconst0 FP.dconst0) .l = 0 := by decide +kernel
  have hl : ¬ (0 : Int32) < Op.cmpValue (FP.dcmp FP.dconst0 FP.dconst0) .l := by rw [hc]; decide
  rw [show FP.dconst0.toInt64 = 0 from by decide +kernel]
  simp (disch := omega) only [r_X7_bitsOf_0, r_X7_bitsOf_1, r_X7_bitsOf_2, r_X7_bitsOf_3, r_X7_bitsOf_6, r_X7_bitsOf_7, up2_o, up2_e, iN_ap, iN_up, i_ix, i_inb, i_lt, i_lt0, i_0lt, i_eq, i_ne0, i_00, i_11, i_01, i_10, i_b, i_rem2, n_rem, i_add, i_mul, i_sub, i_div, i_max, i_min, rdk_0, rdk_3, kp_none, kp_int, kp_ref, kp_long, kp_double, aK_v, aK_0, aK_ite, if_true, if_false, and_self, and_true, true_and, or_false, false_or, not_true_eq_false, not_false_eq_true, ite_self, ↓reduceIte, eq_false hl]
theorem bits_of (hb : ∀ a b : Nat, 1 ≤ b → a ≤ b → b < 1000000 → CBits (FP.ddiv (FP.i2d (nI a)) (FP.i2d (nI b)))) (R : aY) (q : List Nat) (hw : WF R q) (h : HS R) : BitsOK R := by
  refine ⟨(hel R).toInt64, ?_, fun x => dtl_bits (hel_nn hw)⟩
  have h1 := aPr_bd hw
  have h2 := HS_sum h (fun i hi => by have := hw.2.1 i hi; omega)
  unfold hel
  by_cases z : sumN (aPr R) 0 6 = 0
  · rw [if_pos z]
    exact CBits_0
  · rw [if_neg z]
    exact hb _ _ (by omega) h2 (by omega)
