/-! the class's bits of a double from 2^-1000 to 2 -/
theorem sh52 : ∀ E, E < 1024 → nL E <<< (52 : Int64) = nL (E * 4503599627370496) := by decide +kernel
theorem k52 : ((nI 52).toInt64 &&& 63 : Int64) = 52 := by decide +kernel
theorem nL_add {a b : Nat} : nL a + nL b = nL (a + b) := (Int64.ofNat_add a b).symm
theorem dW_long {E t : Nat} (h1 : 1 ≤ E) (h2 : E ≤ 1100) (ht : t < 4503599627370496) : (dW E t).toInt64 = nL (E * 4503599627370496 + t) := by
  have e : dW E t = UInt64.ofNat (E * 4503599627370496 + t) := by
    apply UInt64.toNat_inj.mp
    rw [dW_toNat h1 h2 ht, UInt64.toNat_ofNat_of_lt' (by show _ < 18446744073709551616; omega)]
  rw [e]
  rfl
theorem nL_toInt {t : Nat} (ht : t < 4503599627370496) : (nL t).toInt = (t : Int) := by
  unfold nL
  exact Int64.toInt_ofNat_of_lt (by omega)
theorem CBits_W {E t : Nat} (h1 : 23 ≤ E) (h2 : E ≤ 1023) (ht : t < 4503599627370496) : CBits (dW E t) := fun h => by
  have hg : FP.dcmp (dW E t) FP.dconst0 = some .gt := by
    refine (Jvm.FP.Core.dcmp_gt_key (dW_nn (by omega) (by omega) ht) (by decide +kernel)).mpr ?_
    rw [dW_key (by omega) (by omega) ht, show Jvm.FP.Core.dkey FP.dconst0 = 0 from by decide +kernel]
    omega
  have hc : (0 < Op.cmpValue (FP.dcmp (dW E t) FP.dconst0) .l) = True := by
    rw [hg]
    decide +kernel
  have lp := cb_loop (v := dW E t) (h := h) ht (1023 - E) E 0 (by omega) (by omega) (by omega)
  rw [show 1023 - (0 + (1023 - E)) = E by omega, Nat.sub_zero] at lp
  obtain ⟨n1, di⟩ := dm_int ht
  have n2 : Jvm.FP.Core.val64 (FP.dmul (FP.dsub (dW 1023 t) FP.dconst1) 0x4330000000000000) ≠ .nan := Jvm.FP.Core.DInt_ne_nan di
  have hl : FP.d2l (FP.dmul (FP.dsub (dW 1023 t) FP.dconst1) 0x4330000000000000) = nL t := Jvm.FP.Core.d2l_int (by rw [nL_toInt ht]; exact di)
  have r52 := r_X7_bitsOf_52 (dW 1023 t) FP.dconst1
  have r56 := r_X7_bitsOf_56 (FP.dsub (dW 1023 t) FP.dconst1) 0x4330000000000000
  simp only [if_pos (of_eq_true (nn_ok n1))] at r52
  simp only [if_pos (of_eq_true (nn_ok n2))] at r56
  have hfin : nL E <<< ((nI 52).toInt64 &&& 63) + nL t = (dW E t).toInt64 := by
    rw [k52, sh52 E (by omega), nL_add, dW_long (by omega) (by omega) ht]
  simp (disch := omega) only [r_X7_bitsOf_0, r_X7_bitsOf_1, r_X7_bitsOf_2, r_X7_bitsOf_3, r_X7_bitsOf_6, r_X7_bitsOf_7, r_X7_bitsOf_8, r_X7_bitsOf_9, r_X7_bitsOf_10, r_X7_bitsOf_13, r_X7_bitsOf_15, r_X7_bitsOf_16, up2_o, up2_e, iN_ap, iN_up, i_ix, i_inb, i_lt, i_lt0, i_0lt, i_eq, i_ne0, i_00, i_11, i_01, i_10, i_b, i_rem2, n_rem, i_add, i_mul, i_sub, i_div, i_max, i_min, rdk_0, rdk_3, kp_none, kp_int, kp_ref, kp_long, kp_double, aK_v, aK_0, aK_ite, if_true, if_false, and_self, and_true, true_and, or_false, false_or, not_true_eq_false, not_false_eq_true, ite_self, ↓reduceIte, hc]
  rw [show (1023 : Int64) = nL 1023 from rfl, lp]
  simp (disch := omega) only [r_X7_bitsOf_50, r_X7_bitsOf_51, r_X7_bitsOf_53, r_X7_bitsOf_57, r_X7_bitsOf_58, r_X7_bitsOf_60, r_X7_bitsOf_62, r_X7_bitsOf_64, r_X7_bitsOf_65, r_X7_bitsOf_67, r_X7_bitsOf_68, up2_o, up2_e, iN_ap, iN_up, i_ix, i_inb, i_lt, i_lt0, i_0lt, i_eq, i_ne0, i_00, i_11, i_01, i_10, i_b, i_rem2, n_rem, i_add, i_mul, i_sub, i_div, i_max, i_min, rdk_0, rdk_3, kp_none, kp_int, kp_ref, kp_long, kp_double, aK_v, aK_0, aK_ite, if_true, if_false, and_self, and_true, true_and, or_false, false_or, not_true_eq_false, not_false_eq_true, ite_self, ↓reduceIte, r52, r56, hl, hfin]
