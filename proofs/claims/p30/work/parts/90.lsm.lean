/-! the law's small methods -/
def lTh (C : Nat → Nat) (m : Nat) : Bool := Nat.blt (m / 4) (C 0) && Nat.blt (m % 4) (C (4 + m / 4))
theorem lTh_iff {C : Nat → Nat} {m : Nat} : lTh C m = true ↔ m / 4 < C 0 ∧ m % 4 < C (4 + m / 4) := by
  unfold lTh
  simp [Nat.blt, Nat.succ_le_iff]
/-- the law's rows, by their addresses: modules, money, shares, counts; settings 149, winds 150 -/
def LA (Z : aZ) (mo mi sh cc : Nat) : Prop := (Z.1 mo = 0 ∧ Z.2.1 mo = 60) ∧ (Z.1 mi = 0 ∧ Z.2.1 mi = 36) ∧ (Z.1 sh = 0 ∧ Z.2.1 sh = 48) ∧ (Z.1 cc = 0 ∧ Z.2.1 cc = 7) ∧ (Z.1 149 = 0 ∧ Z.2.1 149 = 5) ∧ (Z.1 150 = 0 ∧ Z.2.1 150 = 60)
def LD (mo mi sh cc : Nat) : Prop := mo ≠ mi ∧ mo ≠ sh ∧ mo ≠ cc ∧ mi ≠ sh ∧ mi ≠ cc ∧ sh ≠ cc ∧ mo ≠ 149 ∧ mi ≠ 149 ∧ sh ≠ 149 ∧ cc ≠ 149 ∧ mo ≠ 150 ∧ mi ≠ 150 ∧ sh ≠ 150 ∧ cc ≠ 150
def LB (N : Nat → Nat → Nat) (mo cc : Nat) : Prop := N cc 0 ≤ 3 ∧ (∀ h, h < 3 → N cc (4 + h) ≤ 4) ∧ (∀ m, m < 12 → N mo (5 * m) ≤ 3 ∧ N mo (5 * m + 2) ≤ 3 ∧ N mo (5 * m + 3) < 2000 ∧ N mo (5 * m + 4) < 2000) ∧ N cc 1 < 2000 ∧ 1 ≤ N cc 3 ∧ N cc 3 ≤ 60
theorem lz_ush (x : Int32) : ∃ y, y < 2147483648 ∧ (x.toUInt32 >>> ((nI 1).toUInt32 &&& Int32.toUInt32 31)).toInt32 = nI y := by
  have e : ((nI 1).toUInt32 &&& Int32.toUInt32 31) = 1 := by decide
  rw [e]
  refine ⟨(x.toUInt32 >>> 1).toNat, ?_, ?_⟩
  · rw [UInt32.toNat_shiftRight, show (1 : UInt32).toNat % 32 = 1 from rfl, Nat.shiftRight_eq_div_pow]
    have := x.toUInt32.toNat_lt
    omega
  · apply Int32.toBitVec_inj.mp
    apply BitVec.eq_of_toNat_eq
    show (x.toUInt32 >>> 1).toNat = (BitVec.ofNat 32 (x.toUInt32 >>> 1).toNat).toNat
    rw [BitVec.toNat_ofNat, Nat.mod_eq_of_lt (x.toUInt32 >>> 1).toNat_lt]
theorem lz_at {x : Int32} {n : Nat} {h : aH} (h0 : 0 < n) (hn : n < 2147483648) : ∃ r, r < n ∧ ex 96 0 [some (.int x), some (.int (nI n))] [] h = some (.inl (some (.int (nI r))), h) := by
  obtain ⟨y, hy, e⟩ := lz_ush x
  refine ⟨y % n, Nat.mod_lt _ h0, ?_⟩
  simp (disch := omega) only [r_L_at_0, r_L_at_1, r_L_at_2, r_L_at_3, r_L_at_4, r_L_at_5, e, up2_o, up2_e, iN_ap, iN_up, i_ix, i_inb, i_lt, i_lt0, i_0lt, i_eq, i_ne0, i_00, i_11, i_01, i_10, i_b, i_rem2, n_rem, i_add, i_mul, i_sub, i_div, i_max, i_min, rdk_0, rdk_3, kp_none, kp_int, kp_ref, kp_long, kp_double, aK_v, aK_0, aK_ite, if_true, if_false, and_self, and_true, true_and, or_false, false_or, not_true_eq_false, not_false_eq_true, ite_self, ↓reduceIte, eq_self, Bool.false_eq_true]
section Ls
variable {Z : aZ} {N : Nat → Nat → Nat} {L : Nat → Nat → Int64} {u : Nat × Nat} {mo mi sh cc : Nat}
theorem lz_cell {k Ls : Nat} (h1 : Z.1 100000 = 3) (h2 : Z.2.1 100000 = Ls) (h3 : Ls ≤ 260) (hk : k < 1000) : ∃ v : Int32, ex 95 0 [some (.ref 100000), some (.int (nI k))] [] (Z, iN N, L, u) = some (.inl (some (.int v)), (Z, iN N, L, u)) := by
  by_cases q : k < Ls
  · refine ⟨nI (N 100000 k), ?_⟩
    simp (disch := omega) only [r_L_cell_0, r_L_cell_1, r_L_cell_2, r_L_cell_3, r_L_cell_6, r_L_cell_7, r_L_cell_8, r_L_cell_9, r_L_cell_12, r_L_cell_14, r_L_cell_15, r_L_cell_16, r_L_cell_17, r_L_cell_18, up2_o, up2_e, iN_ap, iN_up, i_ix, i_inb, i_lt, i_lt0, i_0lt, i_eq, i_ne0, i_00, i_11, i_01, i_10, i_b, i_rem2, n_rem, i_add, i_mul, i_sub, i_div, i_max, i_min, rdk_0, rdk_3, kp_none, kp_int, kp_ref, kp_long, kp_double, aK_v, aK_0, aK_ite, if_true, if_false, and_self, and_true, true_and, or_false, false_or, not_true_eq_false, not_false_eq_true, ite_self, ↓reduceIte, eq_self, Bool.false_eq_true, h1, h2, q]
  · refine ⟨952534627 * nI (k + 1), ?_⟩
    simp (disch := omega) only [r_L_cell_0, r_L_cell_1, r_L_cell_2, r_L_cell_3, r_L_cell_6, r_L_cell_7, r_L_cell_8, r_L_cell_9, r_L_cell_12, r_L_cell_14, r_L_cell_15, r_L_cell_16, r_L_cell_17, r_L_cell_18, up2_o, up2_e, iN_ap, iN_up, i_ix, i_inb, i_lt, i_lt0, i_0lt, i_eq, i_ne0, i_00, i_11, i_01, i_10, i_b, i_rem2, n_rem, i_add, i_mul, i_sub, i_div, i_max, i_min, rdk_0, rdk_3, kp_none, kp_int, kp_ref, kp_long, kp_double, aK_v, aK_0, aK_ite, if_true, if_false, and_self, and_true, true_and, or_false, false_or, not_true_eq_false, not_false_eq_true, ite_self, ↓reduceIte, eq_self, Bool.false_eq_true, h1, h2, q]
theorem lz_there {m : Nat} (hc : Z.1 cc = 0 ∧ Z.2.1 cc = 7) (hm : m < 12) (hb : LB N mo cc) : ex 97 0 [some (.int (nI m)), some (.ref cc)] [] (Z, iN N, L, u) = some (.inl (some (.int (nI (if lTh (N cc) m = true then 1 else 0)))), (Z, iN N, L, u)) := by
  obtain ⟨k0, l0⟩ := hc
  have h0 := hb.1
  have hd : m / 4 < 3 := by omega
  have hs := hb.2.1 (m / 4) hd
  have hm4 : m % 4 < 4 := by omega
  by_cases q1 : m / 4 < N cc 0
  · by_cases q2 : m % 4 < N cc (4 + m / 4)
    · have q : lTh (N cc) m = true := lTh_iff.mpr ⟨q1, q2⟩
      simp (disch := omega) only [r_L_there_0, r_L_there_1, r_L_there_2, r_L_there_3, r_L_there_4, r_L_there_5, r_L_there_6, r_L_there_9, r_L_there_10, r_L_there_11, r_L_there_12, r_L_there_13, r_L_there_14, r_L_there_15, r_L_there_16, r_L_there_17, r_L_there_18, r_L_there_19, r_L_there_22, r_L_there_23, r_L_there_26, r_L_there_27, up2_o, up2_e, iN_ap, iN_up, i_ix, i_inb, i_lt, i_lt0, i_0lt, i_eq, i_ne0, i_00, i_11, i_01, i_10, i_b, i_rem2, n_rem, i_add, i_mul, i_sub, i_div, i_max, i_min, rdk_0, rdk_3, kp_none, kp_int, kp_ref, kp_long, kp_double, aK_v, aK_0, aK_ite, if_true, if_false, and_self, and_true, true_and, or_false, false_or, not_true_eq_false, not_false_eq_true, ite_self, ↓reduceIte, eq_self, Bool.false_eq_true, k0, l0, q1, q2, q]
    · have q : ¬ lTh (N cc) m = true := fun z => q2 (lTh_iff.mp z).2
      simp (disch := omega) only [r_L_there_0, r_L_there_1, r_L_there_2, r_L_there_3, r_L_there_4, r_L_there_5, r_L_there_6, r_L_there_9, r_L_there_10, r_L_there_11, r_L_there_12, r_L_there_13, r_L_there_14, r_L_there_15, r_L_there_16, r_L_there_17, r_L_there_18, r_L_there_19, r_L_there_22, r_L_there_23, r_L_there_26, r_L_there_27, up2_o, up2_e, iN_ap, iN_up, i_ix, i_inb, i_lt, i_lt0, i_0lt, i_eq, i_ne0, i_00, i_11, i_01, i_10, i_b, i_rem2, n_rem, i_add, i_mul, i_sub, i_div, i_max, i_min, rdk_0, rdk_3, kp_none, kp_int, kp_ref, kp_long, kp_double, aK_v, aK_0, aK_ite, if_true, if_false, and_self, and_true, true_and, or_false, false_or, not_true_eq_false, not_false_eq_true, ite_self, ↓reduceIte, eq_self, Bool.false_eq_true, k0, l0, q1, q2, q]
  · have q : ¬ lTh (N cc) m = true := fun z => q1 (lTh_iff.mp z).1
    simp (disch := omega) only [r_L_there_0, r_L_there_1, r_L_there_2, r_L_there_3, r_L_there_4, r_L_there_5, r_L_there_6, r_L_there_9, r_L_there_10, r_L_there_11, r_L_there_12, r_L_there_13, r_L_there_14, r_L_there_15, r_L_there_16, r_L_there_17, r_L_there_18, r_L_there_19, r_L_there_22, r_L_there_23, r_L_there_26, r_L_there_27, up2_o, up2_e, iN_ap, iN_up, i_ix, i_inb, i_lt, i_lt0, i_0lt, i_eq, i_ne0, i_00, i_11, i_01, i_10, i_b, i_rem2, n_rem, i_add, i_mul, i_sub, i_div, i_max, i_min, rdk_0, rdk_3, kp_none, kp_int, kp_ref, kp_long, kp_double, aK_v, aK_0, aK_ite, if_true, if_false, and_self, and_true, true_and, or_false, false_or, not_true_eq_false, not_false_eq_true, ite_self, ↓reduceIte, eq_self, Bool.false_eq_true, k0, l0, q1, q]
theorem lz_wind {d : Nat} (hA : LA Z mo mi sh cc) (hb : LB N mo cc) (hd : d < 2147483648) : ex 98 0 [some (.int (nI d)), some (.ref 150), some (.ref cc)] [] (Z, iN N, L, u) = some (.inl (some (.int (nI (N 150 (d % N cc 3))))), (Z, iN N, L, u)) := by
  obtain ⟨-, -, -, -, h1, h2⟩ := hb
  have hm : d % N cc 3 < 60 := Nat.lt_of_lt_of_le (Nat.mod_lt _ h1) h2
  simp (disch := omega) only [r_L_wind_0, r_L_wind_1, r_L_wind_2, r_L_wind_3, r_L_wind_4, r_L_wind_5, r_L_wind_6, r_L_wind_7, up2_o, up2_e, iN_ap, iN_up, i_ix, i_inb, i_lt, i_lt0, i_0lt, i_eq, i_ne0, i_00, i_11, i_01, i_10, i_b, i_rem2, n_rem, i_add, i_mul, i_sub, i_div, i_max, i_min, rdk_0, rdk_3, kp_none, kp_int, kp_ref, kp_long, kp_double, aK_v, aK_0, aK_ite, if_true, if_false, and_self, and_true, true_and, or_false, false_or, not_true_eq_false, not_false_eq_true, ite_self, ↓reduceIte, eq_self, Bool.false_eq_true, hA.1.1, hA.1.2, hA.2.1.1, hA.2.1.2, hA.2.2.1.1, hA.2.2.1.2, hA.2.2.2.1.1, hA.2.2.2.1.2, hA.2.2.2.2.1.1, hA.2.2.2.2.1.2, hA.2.2.2.2.2.1, hA.2.2.2.2.2.2]
def lLf (N : Nat → Nat → Nat) (mo cc d hv m : Nat) : Nat := if lTh (N cc) m = true ∧ N mo (5 * m + 2) = 1 ∧ N mo (5 * m + 3) = d then (if hv = 0 then 1 else N mo (5 * m)) else 0
def lLd (N : Nat → Nat → Nat) (mo cc d hv : Nat) : Nat := sumN (lLf N mo cc d hv) 0 12
theorem lLf_le {d hv m : Nat} (hb : LB N mo cc) (hm : m < 12) : lLf N mo cc d hv m ≤ 3 := by
  have := (hb.2.2.1 m hm).1
  unfold lLf
  split
  · split <;> omega
  · omega
theorem lLd_le {d hv : Nat} (hb : LB N mo cc) : lLd N mo cc d hv ≤ 36 := by
  have := sumN_bd (f := lLf N mo cc d hv) (a := 0) (b := 3) (n := 12) (fun i hi => lLf_le hb (by omega))
  unfold lLd
  omega
theorem lz_load_loop {d hv : Nat} (hA : LA Z mo mi sh cc) (hb : LB N mo cc) (hd : d < 2147483648) (hv1 : hv ≤ 1) : ∀ (k i : Nat), i + k = 12 →
    ex 99 6 [some (.int (nI d)), some (.int (nI hv)), some (.ref mo), some (.ref cc), some (.int (nI (sumN (lLf N mo cc d hv) 0 i))), some (.int (nI i))] [] (Z, iN N, L, u) = some (.inl (some (.int (nI (lLd N mo cc d hv)))), (Z, iN N, L, u))
  | 0, i, h => by
    have e : i = 12 := by omega
    subst e
    unfold lLd
    simp (disch := omega) only [r_L_load_0, r_L_load_1, r_L_load_3, r_L_load_4, r_L_load_6, r_L_load_8, r_L_load_10, r_L_load_13, r_L_load_15, r_L_load_16, r_L_load_19, r_L_load_22, r_L_load_23, r_L_load_24, r_L_load_26, r_L_load_27, r_L_load_28, r_L_load_29, r_L_load_30, r_L_load_31, r_L_load_34, r_L_load_35, r_L_load_36, r_L_load_38, r_L_load_39, r_L_load_40, r_L_load_41, r_L_load_42, r_L_load_43, r_L_load_46, r_L_load_48, r_L_load_49, r_L_load_52, r_L_load_53, r_L_load_54, r_L_load_56, r_L_load_57, r_L_load_58, r_L_load_61, r_L_load_62, r_L_load_63, r_L_load_65, r_L_load_68, r_L_load_71, r_L_load_73, up2_o, up2_e, iN_ap, iN_up, i_ix, i_inb, i_lt, i_lt0, i_0lt, i_eq, i_ne0, i_00, i_11, i_01, i_10, i_b, i_rem2, n_rem, i_add, i_mul, i_sub, i_div, i_max, i_min, rdk_0, rdk_3, kp_none, kp_int, kp_ref, kp_long, kp_double, aK_v, aK_0, aK_ite, if_true, if_false, and_self, and_true, true_and, or_false, false_or, not_true_eq_false, not_false_eq_true, ite_self, ↓reduceIte, eq_self, Bool.false_eq_true, Nat.lt_irrefl]
  | k + 1, i, h => by
    have e : i < 12 := by omega
    have ih := lz_load_loop hA hb hd hv1 k (i + 1) (by omega)
    have es : sumN (lLf N mo cc d hv) 0 (i + 1) = sumN (lLf N mo cc d hv) 0 i + lLf N mo cc d hv i := by rw [sumN_succ, Nat.zero_add]
    obtain ⟨b1, b2, b3, b4⟩ := hb.2.2.1 i e
    have ht := lz_there (L := L) (u := u) hA.2.2.2.1 e hb
    rw [es] at ih
    rw [r_L_load_6]
    by_cases t : lTh (N cc) i = true
    · by_cases s1 : N mo (5 * i + 2) = 1
      · by_cases s3 : N mo (5 * i + 3) = d
        · rcases (show hv = 0 ∨ hv = 1 by omega) with rfl | rfl
          · have ef : lLf N mo cc d 0 i = 1 := by
              unfold lLf
              rw [if_pos ⟨t, s1, s3⟩, if_pos rfl]
            rw [ef] at ih
            simp (disch := omega) only [r_L_load_0, r_L_load_1, r_L_load_3, r_L_load_4, r_L_load_8, r_L_load_10, r_L_load_13, r_L_load_15, r_L_load_16, r_L_load_19, r_L_load_22, r_L_load_23, r_L_load_24, r_L_load_26, r_L_load_27, r_L_load_28, r_L_load_29, r_L_load_30, r_L_load_31, r_L_load_34, r_L_load_35, r_L_load_36, r_L_load_38, r_L_load_39, r_L_load_40, r_L_load_41, r_L_load_42, r_L_load_43, r_L_load_46, r_L_load_48, r_L_load_49, r_L_load_52, r_L_load_53, r_L_load_54, r_L_load_56, r_L_load_57, r_L_load_58, r_L_load_61, r_L_load_62, r_L_load_63, r_L_load_65, r_L_load_68, r_L_load_71, r_L_load_73, up2_o, up2_e, iN_ap, iN_up, i_ix, i_inb, i_lt, i_lt0, i_0lt, i_eq, i_ne0, i_00, i_11, i_01, i_10, i_b, i_rem2, n_rem, i_add, i_mul, i_sub, i_div, i_max, i_min, rdk_0, rdk_3, kp_none, kp_int, kp_ref, kp_long, kp_double, aK_v, aK_0, aK_ite, if_true, if_false, and_self, and_true, true_and, or_false, false_or, not_true_eq_false, not_false_eq_true, ite_self, ↓reduceIte, eq_self, Bool.false_eq_true, hA.1.1, hA.1.2, hA.2.1.1, hA.2.1.2, hA.2.2.1.1, hA.2.2.1.2, hA.2.2.2.1.1, hA.2.2.2.1.2, hA.2.2.2.2.1.1, hA.2.2.2.2.1.2, hA.2.2.2.2.2.1, hA.2.2.2.2.2.2, e, ht, t, s1, s3]
            exact ih
          · have ef : lLf N mo cc d 1 i = N mo (5 * i) := by
              unfold lLf
              rw [if_pos ⟨t, s1, s3⟩, if_neg (by omega)]
            rw [ef] at ih
            simp (disch := omega) only [r_L_load_0, r_L_load_1, r_L_load_3, r_L_load_4, r_L_load_8, r_L_load_10, r_L_load_13, r_L_load_15, r_L_load_16, r_L_load_19, r_L_load_22, r_L_load_23, r_L_load_24, r_L_load_26, r_L_load_27, r_L_load_28, r_L_load_29, r_L_load_30, r_L_load_31, r_L_load_34, r_L_load_35, r_L_load_36, r_L_load_38, r_L_load_39, r_L_load_40, r_L_load_41, r_L_load_42, r_L_load_43, r_L_load_46, r_L_load_48, r_L_load_49, r_L_load_52, r_L_load_53, r_L_load_54, r_L_load_56, r_L_load_57, r_L_load_58, r_L_load_61, r_L_load_62, r_L_load_63, r_L_load_65, r_L_load_68, r_L_load_71, r_L_load_73, up2_o, up2_e, iN_ap, iN_up, i_ix, i_inb, i_lt, i_lt0, i_0lt, i_eq, i_ne0, i_00, i_11, i_01, i_10, i_b, i_rem2, n_rem, i_add, i_mul, i_sub, i_div, i_max, i_min, rdk_0, rdk_3, kp_none, kp_int, kp_ref, kp_long, kp_double, aK_v, aK_0, aK_ite, if_true, if_false, and_self, and_true, true_and, or_false, false_or, not_true_eq_false, not_false_eq_true, ite_self, ↓reduceIte, eq_self, Bool.false_eq_true, hA.1.1, hA.1.2, hA.2.1.1, hA.2.1.2, hA.2.2.1.1, hA.2.2.1.2, hA.2.2.2.1.1, hA.2.2.2.1.2, hA.2.2.2.2.1.1, hA.2.2.2.2.1.2, hA.2.2.2.2.2.1, hA.2.2.2.2.2.2, e, ht, t, s1, s3]
            exact ih
        · have ef : lLf N mo cc d hv i = 0 := by
            unfold lLf
            rw [if_neg (fun z => s3 z.2.2)]
          rw [ef, Nat.add_zero] at ih
          simp (disch := omega) only [r_L_load_0, r_L_load_1, r_L_load_3, r_L_load_4, r_L_load_8, r_L_load_10, r_L_load_13, r_L_load_15, r_L_load_16, r_L_load_19, r_L_load_22, r_L_load_23, r_L_load_24, r_L_load_26, r_L_load_27, r_L_load_28, r_L_load_29, r_L_load_30, r_L_load_31, r_L_load_34, r_L_load_35, r_L_load_36, r_L_load_38, r_L_load_39, r_L_load_40, r_L_load_41, r_L_load_42, r_L_load_43, r_L_load_46, r_L_load_48, r_L_load_49, r_L_load_52, r_L_load_53, r_L_load_54, r_L_load_56, r_L_load_57, r_L_load_58, r_L_load_61, r_L_load_62, r_L_load_63, r_L_load_65, r_L_load_68, r_L_load_71, r_L_load_73, up2_o, up2_e, iN_ap, iN_up, i_ix, i_inb, i_lt, i_lt0, i_0lt, i_eq, i_ne0, i_00, i_11, i_01, i_10, i_b, i_rem2, n_rem, i_add, i_mul, i_sub, i_div, i_max, i_min, rdk_0, rdk_3, kp_none, kp_int, kp_ref, kp_long, kp_double, aK_v, aK_0, aK_ite, if_true, if_false, and_self, and_true, true_and, or_false, false_or, not_true_eq_false, not_false_eq_true, ite_self, ↓reduceIte, eq_self, Bool.false_eq_true, hA.1.1, hA.1.2, hA.2.1.1, hA.2.1.2, hA.2.2.1.1, hA.2.2.1.2, hA.2.2.2.1.1, hA.2.2.2.1.2, hA.2.2.2.2.1.1, hA.2.2.2.2.1.2, hA.2.2.2.2.2.1, hA.2.2.2.2.2.2, e, ht, t, s1, s3]
          exact ih
      · have ef : lLf N mo cc d hv i = 0 := by
          unfold lLf
          rw [if_neg (fun z => s1 z.2.1)]
        rw [ef, Nat.add_zero] at ih
        simp (disch := omega) only [r_L_load_0, r_L_load_1, r_L_load_3, r_L_load_4, r_L_load_8, r_L_load_10, r_L_load_13, r_L_load_15, r_L_load_16, r_L_load_19, r_L_load_22, r_L_load_23, r_L_load_24, r_L_load_26, r_L_load_27, r_L_load_28, r_L_load_29, r_L_load_30, r_L_load_31, r_L_load_34, r_L_load_35, r_L_load_36, r_L_load_38, r_L_load_39, r_L_load_40, r_L_load_41, r_L_load_42, r_L_load_43, r_L_load_46, r_L_load_48, r_L_load_49, r_L_load_52, r_L_load_53, r_L_load_54, r_L_load_56, r_L_load_57, r_L_load_58, r_L_load_61, r_L_load_62, r_L_load_63, r_L_load_65, r_L_load_68, r_L_load_71, r_L_load_73, up2_o, up2_e, iN_ap, iN_up, i_ix, i_inb, i_lt, i_lt0, i_0lt, i_eq, i_ne0, i_00, i_11, i_01, i_10, i_b, i_rem2, n_rem, i_add, i_mul, i_sub, i_div, i_max, i_min, rdk_0, rdk_3, kp_none, kp_int, kp_ref, kp_long, kp_double, aK_v, aK_0, aK_ite, if_true, if_false, and_self, and_true, true_and, or_false, false_or, not_true_eq_false, not_false_eq_true, ite_self, ↓reduceIte, eq_self, Bool.false_eq_true, hA.1.1, hA.1.2, hA.2.1.1, hA.2.1.2, hA.2.2.1.1, hA.2.2.1.2, hA.2.2.2.1.1, hA.2.2.2.1.2, hA.2.2.2.2.1.1, hA.2.2.2.2.1.2, hA.2.2.2.2.2.1, hA.2.2.2.2.2.2, e, ht, t, s1]
        exact ih
    · have ef : lLf N mo cc d hv i = 0 := by
        unfold lLf
        rw [if_neg (fun z => t z.1)]
      rw [ef, Nat.add_zero] at ih
      simp (disch := omega) only [r_L_load_0, r_L_load_1, r_L_load_3, r_L_load_4, r_L_load_8, r_L_load_10, r_L_load_13, r_L_load_15, r_L_load_16, r_L_load_19, r_L_load_22, r_L_load_23, r_L_load_24, r_L_load_26, r_L_load_27, r_L_load_28, r_L_load_29, r_L_load_30, r_L_load_31, r_L_load_34, r_L_load_35, r_L_load_36, r_L_load_38, r_L_load_39, r_L_load_40, r_L_load_41, r_L_load_42, r_L_load_43, r_L_load_46, r_L_load_48, r_L_load_49, r_L_load_52, r_L_load_53, r_L_load_54, r_L_load_56, r_L_load_57, r_L_load_58, r_L_load_61, r_L_load_62, r_L_load_63, r_L_load_65, r_L_load_68, r_L_load_71, r_L_load_73, up2_o, up2_e, iN_ap, iN_up, i_ix, i_inb, i_lt, i_lt0, i_0lt, i_eq, i_ne0, i_00, i_11, i_01, i_10, i_b, i_rem2, n_rem, i_add, i_mul, i_sub, i_div, i_max, i_min, rdk_0, rdk_3, kp_none, kp_int, kp_ref, kp_long, kp_double, aK_v, aK_0, aK_ite, if_true, if_false, and_self, and_true, true_and, or_false, false_or, not_true_eq_false, not_false_eq_true, ite_self, ↓reduceIte, eq_self, Bool.false_eq_true, hA.1.1, hA.1.2, hA.2.1.1, hA.2.1.2, hA.2.2.1.1, hA.2.2.1.2, hA.2.2.2.1.1, hA.2.2.2.1.2, hA.2.2.2.2.1.1, hA.2.2.2.2.1.2, hA.2.2.2.2.2.1, hA.2.2.2.2.2.2, e, ht, t]
      exact ih
theorem lz_load {d hv : Nat} (hA : LA Z mo mi sh cc) (hb : LB N mo cc) (hd : d < 2147483648) (hv1 : hv ≤ 1) :
    ex 99 0 [some (.int (nI d)), some (.int (nI hv)), some (.ref mo), some (.ref cc), none, none] [] (Z, iN N, L, u) = some (.inl (some (.int (nI (lLd N mo cc d hv)))), (Z, iN N, L, u)) := by
  rw [r_L_load_0, r_L_load_1, r_L_load_3, r_L_load_4]
  exact lz_load_loop hA hb hd hv1 12 0 rfl
def lRm (N : Nat → Nat → Nat) (mo cc m d : Nat) : Bool := Nat.blt (lLd N mo cc d 0) (N 149 0) && Nat.ble (lLd N mo cc d 1 + N mo (5 * m)) (N 149 1)
theorem lRm_iff {m d : Nat} : lRm N mo cc m d = true ↔ lLd N mo cc d 0 < N 149 0 ∧ lLd N mo cc d 1 + N mo (5 * m) ≤ N 149 1 := by
  unfold lRm
  simp [Nat.blt, Nat.succ_le_iff]
theorem lz_room {m d : Nat} (hA : LA Z mo mi sh cc) (hb : LB N mo cc) (hd : d < 2147483648) (hm : m < 12) (h0 : N 149 0 < 1000) (h1 : N 149 1 < 1000) :
    ex 100 0 [some (.int (nI m)), some (.int (nI d)), some (.ref mo), some (.ref 149), some (.ref cc)] [] (Z, iN N, L, u) = some (.inl (some (.int (nI (if lRm N mo cc m d = true then 1 else 0)))), (Z, iN N, L, u)) := by
  have l0 := lz_load (L := L) (u := u) (hv := 0) hA hb hd (by omega)
  have l1 := lz_load (L := L) (u := u) (hv := 1) hA hb hd (by omega)
  have g0 := lLd_le (d := d) (hv := 0) hb
  have g1 := lLd_le (d := d) (hv := 1) hb
  obtain ⟨b1, b2, b3, b4⟩ := hb.2.2.1 m hm
  by_cases q1 : lLd N mo cc d 0 < N 149 0
  · by_cases q2 : N 149 1 < lLd N mo cc d 1 + N mo (5 * m)
    · have q : ¬ lRm N mo cc m d = true := fun z => by have := (lRm_iff.mp z).2; omega
      simp (disch := omega) only [r_L_room_0, r_L_room_1, r_L_room_2, r_L_room_3, r_L_room_5, r_L_room_8, r_L_room_9, r_L_room_10, r_L_room_11, r_L_room_14, r_L_room_15, r_L_room_16, r_L_room_17, r_L_room_19, r_L_room_22, r_L_room_23, r_L_room_24, r_L_room_25, r_L_room_26, r_L_room_27, r_L_room_28, r_L_room_29, r_L_room_30, r_L_room_31, r_L_room_34, r_L_room_35, r_L_room_38, r_L_room_39, up2_o, up2_e, iN_ap, iN_up, i_ix, i_inb, i_lt, i_lt0, i_0lt, i_eq, i_ne0, i_00, i_11, i_01, i_10, i_b, i_rem2, n_rem, i_add, i_mul, i_sub, i_div, i_max, i_min, rdk_0, rdk_3, kp_none, kp_int, kp_ref, kp_long, kp_double, aK_v, aK_0, aK_ite, if_true, if_false, and_self, and_true, true_and, or_false, false_or, not_true_eq_false, not_false_eq_true, ite_self, ↓reduceIte, eq_self, Bool.false_eq_true, hA.1.1, hA.1.2, hA.2.1.1, hA.2.1.2, hA.2.2.1.1, hA.2.2.1.2, hA.2.2.2.1.1, hA.2.2.2.1.2, hA.2.2.2.2.1.1, hA.2.2.2.2.1.2, hA.2.2.2.2.2.1, hA.2.2.2.2.2.2, l0, l1, q1, q2, q]
    · have q : lRm N mo cc m d = true := lRm_iff.mpr ⟨q1, by omega⟩
      simp (disch := omega) only [r_L_room_0, r_L_room_1, r_L_room_2, r_L_room_3, r_L_room_5, r_L_room_8, r_L_room_9, r_L_room_10, r_L_room_11, r_L_room_14, r_L_room_15, r_L_room_16, r_L_room_17, r_L_room_19, r_L_room_22, r_L_room_23, r_L_room_24, r_L_room_25, r_L_room_26, r_L_room_27, r_L_room_28, r_L_room_29, r_L_room_30, r_L_room_31, r_L_room_34, r_L_room_35, r_L_room_38, r_L_room_39, up2_o, up2_e, iN_ap, iN_up, i_ix, i_inb, i_lt, i_lt0, i_0lt, i_eq, i_ne0, i_00, i_11, i_01, i_10, i_b, i_rem2, n_rem, i_add, i_mul, i_sub, i_div, i_max, i_min, rdk_0, rdk_3, kp_none, kp_int, kp_ref, kp_long, kp_double, aK_v, aK_0, aK_ite, if_true, if_false, and_self, and_true, true_and, or_false, false_or, not_true_eq_false, not_false_eq_true, ite_self, ↓reduceIte, eq_self, Bool.false_eq_true, hA.1.1, hA.1.2, hA.2.1.1, hA.2.1.2, hA.2.2.1.1, hA.2.2.1.2, hA.2.2.2.1.1, hA.2.2.2.1.2, hA.2.2.2.2.1.1, hA.2.2.2.2.1.2, hA.2.2.2.2.2.1, hA.2.2.2.2.2.2, l0, l1, q1, q2, q]
  · have q : ¬ lRm N mo cc m d = true := fun z => q1 (lRm_iff.mp z).1
    simp (disch := omega) only [r_L_room_0, r_L_room_1, r_L_room_2, r_L_room_3, r_L_room_5, r_L_room_8, r_L_room_9, r_L_room_10, r_L_room_11, r_L_room_14, r_L_room_15, r_L_room_16, r_L_room_17, r_L_room_19, r_L_room_22, r_L_room_23, r_L_room_24, r_L_room_25, r_L_room_26, r_L_room_27, r_L_room_28, r_L_room_29, r_L_room_30, r_L_room_31, r_L_room_34, r_L_room_35, r_L_room_38, r_L_room_39, up2_o, up2_e, iN_ap, iN_up, i_ix, i_inb, i_lt, i_lt0, i_0lt, i_eq, i_ne0, i_00, i_11, i_01, i_10, i_b, i_rem2, n_rem, i_add, i_mul, i_sub, i_div, i_max, i_min, rdk_0, rdk_3, kp_none, kp_int, kp_ref, kp_long, kp_double, aK_v, aK_0, aK_ite, if_true, if_false, and_self, and_true, true_and, or_false, false_or, not_true_eq_false, not_false_eq_true, ite_self, ↓reduceIte, eq_self, Bool.false_eq_true, hA.1.1, hA.1.2, hA.2.1.1, hA.2.1.2, hA.2.2.1.1, hA.2.2.1.2, hA.2.2.2.1.1, hA.2.2.2.1.2, hA.2.2.2.2.1.1, hA.2.2.2.2.1.2, hA.2.2.2.2.2.1, hA.2.2.2.2.2.2, l0, l1, q1, q]
theorem lz_next {h K : Nat} (hA : LA Z mo mi sh cc) (hb : LB N mo cc) (hh : h < 3) (hk : K ≤ N cc (4 + h)) (h1 : ∀ j, j < K → 0 < N mo (5 * (4 * h + j) + 2)) (h2 : K = N cc (4 + h) ∨ N mo (5 * (4 * h + K) + 2) = 0) : ∀ (n j : Nat), j + n = K →
    ex 101 2 [some (.int (nI h)), some (.ref mo), some (.ref cc), some (.int (nI j))] [] (Z, iN N, L, u) = some (.inl (some (.int (nI K))), (Z, iN N, L, u))
  | 0, j, e => by
    have ej : j = K := by omega
    subst ej
    have hs := hb.2.1 h hh
    by_cases q : j < N cc (4 + h)
    · have z : N mo (5 * (4 * h + j) + 2) = 0 := by omega
      simp (disch := omega) only [r_L_next_0, r_L_next_1, r_L_next_2, r_L_next_3, r_L_next_4, r_L_next_5, r_L_next_6, r_L_next_7, r_L_next_8, r_L_next_11, r_L_next_12, r_L_next_13, r_L_next_14, r_L_next_15, r_L_next_16, r_L_next_17, r_L_next_18, r_L_next_19, r_L_next_20, r_L_next_21, r_L_next_22, r_L_next_25, r_L_next_28, r_L_next_31, r_L_next_32, up2_o, up2_e, iN_ap, iN_up, i_ix, i_inb, i_lt, i_lt0, i_0lt, i_eq, i_ne0, i_00, i_11, i_01, i_10, i_b, i_rem2, n_rem, i_add, i_mul, i_sub, i_div, i_max, i_min, rdk_0, rdk_3, kp_none, kp_int, kp_ref, kp_long, kp_double, aK_v, aK_0, aK_ite, if_true, if_false, and_self, and_true, true_and, or_false, false_or, not_true_eq_false, not_false_eq_true, ite_self, ↓reduceIte, eq_self, Bool.false_eq_true, hA.1.1, hA.1.2, hA.2.1.1, hA.2.1.2, hA.2.2.1.1, hA.2.2.1.2, hA.2.2.2.1.1, hA.2.2.2.1.2, hA.2.2.2.2.1.1, hA.2.2.2.2.1.2, hA.2.2.2.2.2.1, hA.2.2.2.2.2.2, q, z, Nat.lt_irrefl]
    · simp (disch := omega) only [r_L_next_0, r_L_next_1, r_L_next_2, r_L_next_3, r_L_next_4, r_L_next_5, r_L_next_6, r_L_next_7, r_L_next_8, r_L_next_11, r_L_next_12, r_L_next_13, r_L_next_14, r_L_next_15, r_L_next_16, r_L_next_17, r_L_next_18, r_L_next_19, r_L_next_20, r_L_next_21, r_L_next_22, r_L_next_25, r_L_next_28, r_L_next_31, r_L_next_32, up2_o, up2_e, iN_ap, iN_up, i_ix, i_inb, i_lt, i_lt0, i_0lt, i_eq, i_ne0, i_00, i_11, i_01, i_10, i_b, i_rem2, n_rem, i_add, i_mul, i_sub, i_div, i_max, i_min, rdk_0, rdk_3, kp_none, kp_int, kp_ref, kp_long, kp_double, aK_v, aK_0, aK_ite, if_true, if_false, and_self, and_true, true_and, or_false, false_or, not_true_eq_false, not_false_eq_true, ite_self, ↓reduceIte, eq_self, Bool.false_eq_true, hA.1.1, hA.1.2, hA.2.1.1, hA.2.1.2, hA.2.2.1.1, hA.2.2.1.2, hA.2.2.2.1.1, hA.2.2.2.1.2, hA.2.2.2.2.1.1, hA.2.2.2.2.1.2, hA.2.2.2.2.2.1, hA.2.2.2.2.2.2, q]
  | n + 1, j, e => by
    have ih := lz_next hA hb hh hk h1 h2 n (j + 1) (by omega)
    have hs := hb.2.1 h hh
    have q : j < N cc (4 + h) := by omega
    have z := h1 j (by omega)
    have b2 := (hb.2.2.1 (4 * h + j) (by omega)).2.1
    rw [r_L_next_2]
    simp (disch := omega) only [r_L_next_0, r_L_next_1, r_L_next_3, r_L_next_4, r_L_next_5, r_L_next_6, r_L_next_7, r_L_next_8, r_L_next_11, r_L_next_12, r_L_next_13, r_L_next_14, r_L_next_15, r_L_next_16, r_L_next_17, r_L_next_18, r_L_next_19, r_L_next_20, r_L_next_21, r_L_next_22, r_L_next_25, r_L_next_28, r_L_next_31, r_L_next_32, up2_o, up2_e, iN_ap, iN_up, i_ix, i_inb, i_lt, i_lt0, i_0lt, i_eq, i_ne0, i_00, i_11, i_01, i_10, i_b, i_rem2, n_rem, i_add, i_mul, i_sub, i_div, i_max, i_min, rdk_0, rdk_3, kp_none, kp_int, kp_ref, kp_long, kp_double, aK_v, aK_0, aK_ite, if_true, if_false, and_self, and_true, true_and, or_false, false_or, not_true_eq_false, not_false_eq_true, ite_self, ↓reduceIte, eq_self, Bool.false_eq_true, hA.1.1, hA.1.2, hA.2.1.1, hA.2.1.2, hA.2.2.1.1, hA.2.2.1.2, hA.2.2.2.1.1, hA.2.2.2.1.2, hA.2.2.2.2.1.1, hA.2.2.2.2.1.2, hA.2.2.2.2.2.1, hA.2.2.2.2.2.2, q, z]
    exact ih
theorem lz_next0 {h K : Nat} (hA : LA Z mo mi sh cc) (hb : LB N mo cc) (hh : h < 3) (hk : K ≤ N cc (4 + h)) (h1 : ∀ j, j < K → 0 < N mo (5 * (4 * h + j) + 2)) (h2 : K = N cc (4 + h) ∨ N mo (5 * (4 * h + K) + 2) = 0) :
    ex 101 0 [some (.int (nI h)), some (.ref mo), some (.ref cc), none] [] (Z, iN N, L, u) = some (.inl (some (.int (nI K))), (Z, iN N, L, u)) := by
  rw [r_L_next_0, r_L_next_1]
  exact lz_next hA hb hh hk h1 h2 K 0 (by omega)
theorem lz_sum {a n fr : Nat} (h0 : Z.1 a = 0) (hl : Z.2.1 a = n) (hn : n ≤ 100) (hf : fr + 3 < n) :
    ex 102 0 [some (.ref a), some (.int (nI fr))] [] (Z, iN N, L, u) = some (.inl (some (.int (nI (N a fr + N a (fr + 1) + N a (fr + 2) + N a (fr + 3))))), (Z, iN N, L, u)) := by
  simp (disch := omega) only [r_L_sum_0, r_L_sum_1, r_L_sum_2, r_L_sum_3, r_L_sum_4, r_L_sum_5, r_L_sum_6, r_L_sum_7, r_L_sum_8, r_L_sum_9, r_L_sum_10, r_L_sum_11, r_L_sum_12, r_L_sum_13, r_L_sum_14, r_L_sum_15, r_L_sum_16, r_L_sum_17, r_L_sum_18, r_L_sum_19, r_L_sum_20, r_L_sum_21, up2_o, up2_e, iN_ap, iN_up, i_ix, i_inb, i_lt, i_lt0, i_0lt, i_eq, i_ne0, i_00, i_11, i_01, i_10, i_b, i_rem2, n_rem, i_add, i_mul, i_sub, i_div, i_max, i_min, rdk_0, rdk_3, kp_none, kp_int, kp_ref, kp_long, kp_double, aK_v, aK_0, aK_ite, if_true, if_false, and_self, and_true, true_and, or_false, false_or, not_true_eq_false, not_false_eq_true, ite_self, ↓reduceIte, eq_self, Bool.false_eq_true, h0, hl]
def cpS (N : Nat → Nat → Nat) (t f i : Nat) : Nat → Nat → Nat := fun b j => if b = t ∧ j < i then N f j else N b j
theorem cpS_s {t f i : Nat} (h : t ≠ f) : up2 (cpS N t f i) t i (N f i) = cpS N t f (i + 1) := by
  funext b j
  unfold cpS up2
  dsimp only
  by_cases q : b = t ∧ j = i
  · rw [if_pos q, if_pos ⟨q.1, by omega⟩, q.2]
  · rw [if_neg q]
    by_cases w : b = t ∧ j < i
    · rw [if_pos w, if_pos ⟨w.1, by omega⟩]
    · rw [if_neg w, if_neg (fun z => by omega)]
theorem cpS_f {t f i j : Nat} (h : t ≠ f) : cpS N t f i f j = N f j := by
  unfold cpS
  rw [if_neg (fun z => h z.1.symm)]
theorem lz_same {t f n : Nat} (htf : t ≠ f) (h0 : Z.1 t = 0) (h1 : Z.1 f = 0) (l0 : Z.2.1 t = n) (l1 : Z.2.1 f = n) (hn : n ≤ 100) : ∀ (k i : Nat), i + k = n →
    ex 107 2 [some (.ref t), some (.ref f), some (.int (nI i))] [] (Z, iN (cpS N t f i), L, u) = some (.inl none, (Z, iN (cpS N t f n), L, u))
  | 0, i, e => by
    have ei : i = n := by omega
    subst ei
    simp (disch := omega) only [r_L_same_0, r_L_same_1, r_L_same_2, r_L_same_3, r_L_same_4, r_L_same_5, r_L_same_8, r_L_same_9, r_L_same_10, r_L_same_11, r_L_same_12, r_L_same_13, r_L_same_14, r_L_same_17, r_L_same_20, up2_o, up2_e, iN_ap, iN_up, i_ix, i_inb, i_lt, i_lt0, i_0lt, i_eq, i_ne0, i_00, i_11, i_01, i_10, i_b, i_rem2, n_rem, i_add, i_mul, i_sub, i_div, i_max, i_min, rdk_0, rdk_3, kp_none, kp_int, kp_ref, kp_long, kp_double, aK_v, aK_0, aK_ite, if_true, if_false, and_self, and_true, true_and, or_false, false_or, not_true_eq_false, not_false_eq_true, ite_self, ↓reduceIte, eq_self, Bool.false_eq_true, h0, h1, l0, l1, Nat.lt_irrefl]
  | k + 1, i, e => by
    have ih := lz_same htf h0 h1 l0 l1 hn k (i + 1) (by omega)
    have q : i < n := by omega
    rw [r_L_same_2]
    simp (disch := omega) only [r_L_same_0, r_L_same_1, r_L_same_3, r_L_same_4, r_L_same_5, r_L_same_8, r_L_same_9, r_L_same_10, r_L_same_11, r_L_same_12, r_L_same_13, r_L_same_14, r_L_same_17, r_L_same_20, up2_o, up2_e, iN_ap, iN_up, i_ix, i_inb, i_lt, i_lt0, i_0lt, i_eq, i_ne0, i_00, i_11, i_01, i_10, i_b, i_rem2, n_rem, i_add, i_mul, i_sub, i_div, i_max, i_min, rdk_0, rdk_3, kp_none, kp_int, kp_ref, kp_long, kp_double, aK_v, aK_0, aK_ite, if_true, if_false, and_self, and_true, true_and, or_false, false_or, not_true_eq_false, not_false_eq_true, ite_self, ↓reduceIte, eq_self, Bool.false_eq_true, h0, h1, l0, l1, q, cpS_f htf, cpS_s htf]
    exact ih
theorem lz_same0 {t f n : Nat} (htf : t ≠ f) (h0 : Z.1 t = 0) (h1 : Z.1 f = 0) (l0 : Z.2.1 t = n) (l1 : Z.2.1 f = n) (hn : n ≤ 100) :
    ex 107 0 [some (.ref t), some (.ref f), none] [] (Z, iN N, L, u) = some (.inl none, (Z, iN (cpS N t f n), L, u)) := by
  have h := lz_same (N := N) (L := L) (u := u) htf h0 h1 l0 l1 hn n 0 (by omega)
  have e : cpS N t f 0 = N := by
    funext b j
    unfold cpS
    rw [if_neg (by omega)]
  rw [e] at h
  rw [r_L_same_0, r_L_same_1]
  exact h
def lOp (N : Nat → Nat → Nat) (mo cc : Nat) : Nat → Bool
  | 0 => false
  | i + 1 => lOp N mo cc i || (lTh (N cc) i && Nat.beq (N mo (5 * i + 2)) 1)
theorem lOp_iff : ∀ {n : Nat}, lOp N mo cc n = true ↔ ∃ m, m < n ∧ lTh (N cc) m = true ∧ N mo (5 * m + 2) = 1
  | 0 => ⟨fun h => absurd h (by unfold lOp; decide), fun ⟨m, h, _⟩ => absurd h (Nat.not_lt_zero m)⟩
  | n + 1 => by
    unfold lOp
    rw [Bool.or_eq_true, Bool.and_eq_true, lOp_iff (n := n), Nat.beq_eq]
    refine ⟨fun h => ?_, fun ⟨m, h1, h2, h3⟩ => ?_⟩
    · rcases h with ⟨m, h1, h2⟩ | ⟨h1, h2⟩
      · exact ⟨m, by omega, h2⟩
      · exact ⟨n, by omega, h1, h2⟩
    · by_cases q : m = n
      · subst q
        exact Or.inr ⟨h2, h3⟩
      · exact Or.inl ⟨m, by omega, h2, h3⟩
theorem lz_open_loop (hA : LA Z mo mi sh cc) (hb : LB N mo cc) : ∀ (k i : Nat), i + k = 12 →
    ex 108 4 [some (.ref mo), some (.ref cc), some (.int (nI (if lOp N mo cc i = true then 1 else 0))), some (.int (nI i))] [] (Z, iN N, L, u) = some (.inl (some (.int (nI (if lOp N mo cc 12 = true then 1 else 0)))), (Z, iN N, L, u))
  | 0, i, e => by
    have ei : i = 12 := by omega
    subst ei
    have hq : (if lOp N mo cc 12 = true then 1 else 0) ≤ 1 := by split <;> omega
    simp (disch := omega) only [r_L_open_0, r_L_open_1, r_L_open_2, r_L_open_3, r_L_open_4, r_L_open_5, r_L_open_7, r_L_open_10, r_L_open_11, r_L_open_14, r_L_open_15, r_L_open_16, r_L_open_19, r_L_open_22, r_L_open_23, r_L_open_24, r_L_open_25, r_L_open_26, r_L_open_27, r_L_open_28, r_L_open_29, r_L_open_30, r_L_open_33, r_L_open_34, r_L_open_37, r_L_open_38, r_L_open_39, r_L_open_42, r_L_open_45, r_L_open_46, up2_o, up2_e, iN_ap, iN_up, i_ix, i_inb, i_lt, i_lt0, i_0lt, i_eq, i_ne0, i_00, i_11, i_01, i_10, i_b, i_rem2, n_rem, i_add, i_mul, i_sub, i_div, i_max, i_min, rdk_0, rdk_3, kp_none, kp_int, kp_ref, kp_long, kp_double, aK_v, aK_0, aK_ite, if_true, if_false, and_self, and_true, true_and, or_false, false_or, not_true_eq_false, not_false_eq_true, ite_self, ↓reduceIte, eq_self, Bool.false_eq_true, Nat.lt_irrefl]
  | k + 1, i, e => by
    have q : i < 12 := by omega
    have ih := lz_open_loop hA hb k (i + 1) (by omega)
    obtain ⟨b1, b2, b3, b4⟩ := hb.2.2.1 i q
    have ht := lz_there (L := L) (u := u) hA.2.2.2.1 q hb
    have eo : lOp N mo cc (i + 1) = (lOp N mo cc i || (lTh (N cc) i && Nat.beq (N mo (5 * i + 2)) 1)) := rfl
    rw [eo] at ih
    rw [r_L_open_4]
    by_cases o : lOp N mo cc i = true
    · rw [o, Bool.true_or, if_pos rfl] at ih
      rw [o, if_pos rfl]
      simp (disch := omega) only [r_L_open_0, r_L_open_1, r_L_open_2, r_L_open_3, r_L_open_5, r_L_open_7, r_L_open_10, r_L_open_11, r_L_open_14, r_L_open_15, r_L_open_16, r_L_open_19, r_L_open_22, r_L_open_23, r_L_open_24, r_L_open_25, r_L_open_26, r_L_open_27, r_L_open_28, r_L_open_29, r_L_open_30, r_L_open_33, r_L_open_34, r_L_open_37, r_L_open_38, r_L_open_39, r_L_open_42, r_L_open_45, r_L_open_46, up2_o, up2_e, iN_ap, iN_up, i_ix, i_inb, i_lt, i_lt0, i_0lt, i_eq, i_ne0, i_00, i_11, i_01, i_10, i_b, i_rem2, n_rem, i_add, i_mul, i_sub, i_div, i_max, i_min, rdk_0, rdk_3, kp_none, kp_int, kp_ref, kp_long, kp_double, aK_v, aK_0, aK_ite, if_true, if_false, and_self, and_true, true_and, or_false, false_or, not_true_eq_false, not_false_eq_true, ite_self, ↓reduceIte, eq_self, Bool.false_eq_true, hA.1.1, hA.1.2, hA.2.1.1, hA.2.1.2, hA.2.2.1.1, hA.2.2.1.2, hA.2.2.2.1.1, hA.2.2.2.1.2, hA.2.2.2.2.1.1, hA.2.2.2.2.1.2, hA.2.2.2.2.2.1, hA.2.2.2.2.2.2, q]
      exact ih
    · rw [Bool.eq_false_iff.mpr o, Bool.false_or] at ih
      rw [if_neg o]
      by_cases t : lTh (N cc) i = true
      · rw [t, Bool.true_and] at ih
        by_cases s1 : N mo (5 * i + 2) = 1
        · rw [s1, show Nat.beq 1 1 = true from rfl, if_pos rfl] at ih
          simp (disch := omega) only [r_L_open_0, r_L_open_1, r_L_open_2, r_L_open_3, r_L_open_5, r_L_open_7, r_L_open_10, r_L_open_11, r_L_open_14, r_L_open_15, r_L_open_16, r_L_open_19, r_L_open_22, r_L_open_23, r_L_open_24, r_L_open_25, r_L_open_26, r_L_open_27, r_L_open_28, r_L_open_29, r_L_open_30, r_L_open_33, r_L_open_34, r_L_open_37, r_L_open_38, r_L_open_39, r_L_open_42, r_L_open_45, r_L_open_46, up2_o, up2_e, iN_ap, iN_up, i_ix, i_inb, i_lt, i_lt0, i_0lt, i_eq, i_ne0, i_00, i_11, i_01, i_10, i_b, i_rem2, n_rem, i_add, i_mul, i_sub, i_div, i_max, i_min, rdk_0, rdk_3, kp_none, kp_int, kp_ref, kp_long, kp_double, aK_v, aK_0, aK_ite, if_true, if_false, and_self, and_true, true_and, or_false, false_or, not_true_eq_false, not_false_eq_true, ite_self, ↓reduceIte, eq_self, Bool.false_eq_true, hA.1.1, hA.1.2, hA.2.1.1, hA.2.1.2, hA.2.2.1.1, hA.2.2.1.2, hA.2.2.2.1.1, hA.2.2.2.1.2, hA.2.2.2.2.1.1, hA.2.2.2.2.1.2, hA.2.2.2.2.2.1, hA.2.2.2.2.2.2, q, ht, t, s1]
          exact ih
        · rw [if_neg (fun z => s1 (Nat.beq_eq.mp z))] at ih
          simp (disch := omega) only [r_L_open_0, r_L_open_1, r_L_open_2, r_L_open_3, r_L_open_5, r_L_open_7, r_L_open_10, r_L_open_11, r_L_open_14, r_L_open_15, r_L_open_16, r_L_open_19, r_L_open_22, r_L_open_23, r_L_open_24, r_L_open_25, r_L_open_26, r_L_open_27, r_L_open_28, r_L_open_29, r_L_open_30, r_L_open_33, r_L_open_34, r_L_open_37, r_L_open_38, r_L_open_39, r_L_open_42, r_L_open_45, r_L_open_46, up2_o, up2_e, iN_ap, iN_up, i_ix, i_inb, i_lt, i_lt0, i_0lt, i_eq, i_ne0, i_00, i_11, i_01, i_10, i_b, i_rem2, n_rem, i_add, i_mul, i_sub, i_div, i_max, i_min, rdk_0, rdk_3, kp_none, kp_int, kp_ref, kp_long, kp_double, aK_v, aK_0, aK_ite, if_true, if_false, and_self, and_true, true_and, or_false, false_or, not_true_eq_false, not_false_eq_true, ite_self, ↓reduceIte, eq_self, Bool.false_eq_true, hA.1.1, hA.1.2, hA.2.1.1, hA.2.1.2, hA.2.2.1.1, hA.2.2.1.2, hA.2.2.2.1.1, hA.2.2.2.1.2, hA.2.2.2.2.1.1, hA.2.2.2.2.1.2, hA.2.2.2.2.2.1, hA.2.2.2.2.2.2, q, ht, t, s1]
          exact ih
      · rw [Bool.eq_false_iff.mpr t, Bool.false_and, if_neg (by decide)] at ih
        simp (disch := omega) only [r_L_open_0, r_L_open_1, r_L_open_2, r_L_open_3, r_L_open_5, r_L_open_7, r_L_open_10, r_L_open_11, r_L_open_14, r_L_open_15, r_L_open_16, r_L_open_19, r_L_open_22, r_L_open_23, r_L_open_24, r_L_open_25, r_L_open_26, r_L_open_27, r_L_open_28, r_L_open_29, r_L_open_30, r_L_open_33, r_L_open_34, r_L_open_37, r_L_open_38, r_L_open_39, r_L_open_42, r_L_open_45, r_L_open_46, up2_o, up2_e, iN_ap, iN_up, i_ix, i_inb, i_lt, i_lt0, i_0lt, i_eq, i_ne0, i_00, i_11, i_01, i_10, i_b, i_rem2, n_rem, i_add, i_mul, i_sub, i_div, i_max, i_min, rdk_0, rdk_3, kp_none, kp_int, kp_ref, kp_long, kp_double, aK_v, aK_0, aK_ite, if_true, if_false, and_self, and_true, true_and, or_false, false_or, not_true_eq_false, not_false_eq_true, ite_self, ↓reduceIte, eq_self, Bool.false_eq_true, hA.1.1, hA.1.2, hA.2.1.1, hA.2.1.2, hA.2.2.1.1, hA.2.2.1.2, hA.2.2.2.1.1, hA.2.2.2.1.2, hA.2.2.2.2.1.1, hA.2.2.2.2.1.2, hA.2.2.2.2.2.1, hA.2.2.2.2.2.2, q, ht, t]
        exact ih
theorem lz_open (hA : LA Z mo mi sh cc) (hb : LB N mo cc) :
    ex 108 0 [some (.ref mo), some (.ref cc), none, none] [] (Z, iN N, L, u) = some (.inl (some (.int (nI (if lOp N mo cc 12 = true then 1 else 0)))), (Z, iN N, L, u)) := by
  rw [r_L_open_0, r_L_open_1, r_L_open_2, r_L_open_3]
  exact lz_open_loop hA hb 12 0 rfl
end Ls
