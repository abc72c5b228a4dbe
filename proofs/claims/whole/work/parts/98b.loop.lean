/-! the loop that looks for the exponent -/
def nL (n : Nat) : Int64 := Int64.ofNat n
theorem nL_1 {n : Nat} : nL (n + 1) - 1 = nL n := by
  unfold nL
  have h : Int64.ofNat (n + 1) = Int64.ofNat n + 1 := Int64.ofNat_add n 1
  rw [h]
  apply Int64.toBitVec_inj.mp
  simp
theorem dW_key {E t : Nat} (h1 : 1 ≤ E) (h2 : E ≤ 1100) (ht : t < 4503599627370496) : Jvm.FP.Core.dkey (dW E t) = ((E * 4503599627370496 + t : Nat) : Int) := by
  unfold Jvm.FP.Core.dkey
  rw [dW_toNat h1 h2 ht, if_neg (by omega)]
theorem k1_key : Jvm.FP.Core.dkey FP.dconst1 = ((1023 * 4503599627370496 : Nat) : Int) := by decide +kernel
theorem k1_nn : Jvm.FP.Core.val64 FP.dconst1 ≠ .nan := by
  rw [d1_val]
  exact fun h => by cases h
theorem dW_lt {E t : Nat} (h1 : 1 ≤ E) (h2 : E < 1023) (ht : t < 4503599627370496) : FP.dcmp (dW E t) FP.dconst1 = some .lt := by
  refine (Jvm.FP.Core.dcmp_lt_key (dW_nn h1 (by omega) ht) k1_nn).mpr ?_
  rw [dW_key h1 (by omega) ht, k1_key]
  omega
theorem dW_ge {t : Nat} (ht : t < 4503599627370496) : ¬ FP.dcmp (dW 1023 t) FP.dconst1 = some .lt := fun h => by
  have := (Jvm.FP.Core.dcmp_lt_key (dW_nn (by omega) (by omega) ht) k1_nn).mp h
  rw [dW_key (by omega) (by omega) ht, k1_key] at this
  omega
theorem nn_ok {v : UInt64} (h : Jvm.FP.Core.val64 v ≠ .nan) : (v &&& 0x7fffffffffffffff ≤ 0x7ff0000000000000) = True := by
  refine eq_true ?_
  rw [Jvm.FP.Core.ne_nan] at h
  rw [UInt64.le_iff_toNat_le]
  exact (Jvm.FP.Core.mask_toNat _).symm ▸ h
theorem cm_lt : Op.cmpValue (some .lt) .g = -1 := by decide +kernel
theorem cb_loop {t : Nat} {v : UInt64} {h : aH} (ht : t < 4503599627370496) : ∀ (n E i : Nat), E + n = 1023 → 1 ≤ E → i + n ≤ 1000 →
    ex 92 18 [some (.double v), none, some (.double (dW E t)), none, some (.long (nL (1023 - i))), none, some (.int (nI i)), none] [] h = ex 92 50 [some (.double v), none, some (.double (dW 1023 t)), none, some (.long (nL (1023 - (i + n)))), none, some (.int (nI (i + n))), none] [] h
  | 0, E, i, h1, h2, h3 => by
    have e : E = 1023 := by omega
    subst e
    have hc : (Op.cmpValue (FP.dcmp (dW 1023 t) FP.dconst1) .g < 0) = False := by
      have hg := dW_ge ht
      have hn := Jvm.FP.Core.dcmp_none (dW 1023 t) FP.dconst1
      cases hd : FP.dcmp (dW 1023 t) FP.dconst1 with
      | none => exact absurd (hn.mp hd) (fun w => w.elim (dW_nn (by omega) (by omega) ht) k1_nn)
      | some x =>
        cases x with
        | lt => exact absurd hd hg
        | eq => decide +kernel
        | gt => decide +kernel
    rw [r_X7_bitsOf_18]
    simp (disch := omega) only [r_X7_bitsOf_20, r_X7_bitsOf_23, r_X7_bitsOf_26, r_X7_bitsOf_27, r_X7_bitsOf_28, r_X7_bitsOf_29, r_X7_bitsOf_32, r_X7_bitsOf_33, r_X7_bitsOf_36, r_X7_bitsOf_37, r_X7_bitsOf_38, r_X7_bitsOf_40, r_X7_bitsOf_41, r_X7_bitsOf_42, r_X7_bitsOf_44, r_X7_bitsOf_47, up2_o, up2_e, iN_ap, iN_up, i_ix, i_inb, i_lt, i_lt0, i_0lt, i_eq, i_ne0, i_00, i_11, i_01, i_10, i_b, i_rem2, n_rem, i_add, i_mul, i_sub, i_div, i_max, i_min, rdk_0, rdk_3, kp_none, kp_int, kp_ref, kp_long, kp_double, aK_v, aK_0, aK_ite, if_true, if_false, and_self, and_true, true_and, or_false, false_or, not_true_eq_false, not_false_eq_true, ite_self, ↓reduceIte, n_lt, hc, Nat.add_zero]
  | n + 1, E, i, h1, h2, h3 => by
    have ih := cb_loop (v := v) (h := h) ht n (E + 1) (i + 1) (by omega) (by omega) (by omega)
    have hc : (Op.cmpValue (FP.dcmp (dW E t) FP.dconst1) .g < 0) = True := by
      rw [dW_lt h2 (by omega) ht, cm_lt]
      decide +kernel
    have hd := dW_2 h2 (by omega : E ≤ 1023) ht
    have hm := nn_ok (dW_nn (E := E + 1) (by omega) (by omega) ht)
    have hl : nL (1023 - i) - 1 = nL (1023 - (i + 1)) := by
      rw [show 1023 - i = (1023 - (i + 1)) + 1 by omega]
      exact nL_1
    have r36 := r_X7_bitsOf_36 (dW E t) 0x4000000000000000
    rw [hd] at r36
    simp only [if_pos (of_eq_true hm)] at r36
    rw [show i + (n + 1) = i + 1 + n by omega]
    rw [r_X7_bitsOf_18]
    simp (disch := omega) only [r_X7_bitsOf_20, r_X7_bitsOf_23, r_X7_bitsOf_26, r_X7_bitsOf_27, r_X7_bitsOf_28, r_X7_bitsOf_29, r_X7_bitsOf_32, r_X7_bitsOf_33, r_X7_bitsOf_37, r_X7_bitsOf_38, r_X7_bitsOf_40, r_X7_bitsOf_41, r_X7_bitsOf_42, r_X7_bitsOf_44, r_X7_bitsOf_47, up2_o, up2_e, iN_ap, iN_up, i_ix, i_inb, i_lt, i_lt0, i_0lt, i_eq, i_ne0, i_00, i_11, i_01, i_10, i_b, i_rem2, n_rem, i_add, i_mul, i_sub, i_div, i_max, i_min, rdk_0, rdk_3, kp_none, kp_int, kp_ref, kp_long, kp_double, aK_v, aK_0, aK_ite, if_true, if_false, and_self, and_true, true_and, or_false, false_or, not_true_eq_false, not_false_eq_true, ite_self, ↓reduceIte, n_lt, hc, r36, hl]
    exact ih
