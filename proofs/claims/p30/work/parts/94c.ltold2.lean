/-! what is told, whole -/
def fO (R : aY) (d p : Nat) : Nat := if stg R p = 2 ∧ R 8 p = d then 1 else 0
section Lr
variable {Z : aZ} {N : Nat → Nat → Nat} {L : Nat → Nat → Int64} {u : Nat × Nat} {S : aSt} {B : Nat → Nat} {o : Nat}
theorem lz_tC {x z22 : Int32} {z10 z11 z12 z13 z14 z15 z16 z17 z18 z19 : Int32} {b20 b21 : Option Value} {K : Nat} (hZ : LZ Z) (H : LW N S B o) (hK : K < 2000) : ∀ (n i : Nat), i + n = 12 →
    ex 106 461 [some (.ref 0), some (.int x), some (.ref 144), some (.ref 145), some (.ref 146), some (.ref 147), some (.ref 148), some (.ref 149), some (.ref 150), some (.ref 151), some (.int z10), some (.int z11), some (.int z12), some (.int z13), some (.int z14), some (.int z15), some (.int z16), some (.int z17), some (.int z18), some (.int z19), b20, b21, some (.int z22), some (.int (nI (lS S.1.1 (fO S.1.1 K) i))), some (.int (nI (K))), some (.int (nI (i)))] [] (Z, iN N, L, u) =
    ex 106 519 [some (.ref 0), some (.int x), some (.ref 144), some (.ref 145), some (.ref 146), some (.ref 147), some (.ref 148), some (.ref 149), some (.ref 150), some (.ref 151), some (.int z10), some (.int z11), some (.int z12), some (.int z13), some (.int z14), some (.int z15), some (.int z16), some (.int z17), some (.int z18), some (.int z19), b20, b21, some (.int z22), some (.int (nI (lS S.1.1 (fO S.1.1 K) 12))), some (.int (nI (K))), some (.int (nI (12)))] [] (Z, iN N, L, u)
  | 0, i, e => by
    have ei : i = 12 := by omega
    subst ei
    rw [r_L_told_461]
    simp (disch := omega) only [r_L_told_463, r_L_told_465, up2_o, up2_e, iN_ap, iN_up, i_ix, i_inb, i_lt, i_lt0, i_0lt, i_eq, i_ne0, i_00, i_11, i_01, i_10, i_b, i_rem2, n_rem, i_add, i_mul, i_sub, i_div, i_max, i_min, rdk_0, rdk_3, kp_none, kp_int, kp_ref, kp_long, kp_double, aK_v, aK_0, aK_ite, if_true, if_false, and_self, and_true, true_and, or_false, false_or, not_true_eq_false, not_false_eq_true, ite_self, ↓reduceIte, eq_self, Bool.false_eq_true, Nat.lt_irrefl]
  | n + 1, i, e => by
    have hi : i < 12 := by omega
    have hA := hZ.2.1
    have hb := LW_LB H
    have hp := pl_lt hi
    obtain ⟨b1, b2, b3, b4⟩ := hb.2.2.1 i hi
    have ht := lz_there (L := L) (u := u) hA.2.2.2.1 hi hb
    have hR := lTh_R H.1 H.2.2.2.1.1.1.2.1 hi
    have f2 := (H.1.2.2.2.1 i hi).2.2.1
    have g2 := (H.1.2.2.2.2.1 i hi).2
    have ih := lz_tC (x := x) (z22 := z22) (b20 := b20) (b21 := b21) (z10 := z10) (z11 := z11) (z12 := z12) (z13 := z13) (z14 := z14) (z15 := z15) (z16 := z16) (z17 := z17) (z18 := z18) (z19 := z19) hZ H hK n (i + 1) (by omega)
    rw [← ih, r_L_told_461]
    by_cases t : lTh (N 151) i = true
    · have t2 := hR.mp t
      by_cases s2 : stg S.1.1 (pl i) = 2
      · have g2 := g2 (by
          unfold stg at s2
          have := (H.2.2.2.1.1.1.2.1 (pl i / 6) (by omega)).1
          split at s2
          · omega
          · split at s2 <;> omega)
        rw [s2] at f2
        by_cases s3 : S.1.1 8 (pl i) = K
        · have e0 : lS S.1.1 (fO S.1.1 K) (i + 1) = lS S.1.1 (fO S.1.1 K) i + 1 := by
            rw [lS_s, if_pos t2]
            unfold fO
            rw [if_pos ⟨s2, s3⟩]
          rw [e0]
          simp (disch := omega) only [r_L_told_463, r_L_told_465, r_L_told_468, r_L_told_470, r_L_told_472, r_L_told_474, r_L_told_477, r_L_told_480, r_L_told_481, r_L_told_482, r_L_told_484, r_L_told_485, r_L_told_486, r_L_told_487, r_L_told_488, r_L_told_489, r_L_told_492, r_L_told_493, r_L_told_494, r_L_told_496, r_L_told_497, r_L_told_498, r_L_told_499, r_L_told_500, r_L_told_502, r_L_told_505, r_L_told_506, r_L_told_509, r_L_told_510, r_L_told_511, r_L_told_513, r_L_told_516, up2_o, up2_e, iN_ap, iN_up, i_ix, i_inb, i_lt, i_lt0, i_0lt, i_eq, i_ne0, i_00, i_11, i_01, i_10, i_b, i_rem2, n_rem, i_add, i_mul, i_sub, i_div, i_max, i_min, rdk_0, rdk_3, kp_none, kp_int, kp_ref, kp_long, kp_double, aK_v, aK_0, aK_ite, if_true, if_false, and_self, and_true, true_and, or_false, false_or, not_true_eq_false, not_false_eq_true, ite_self, ↓reduceIte, eq_self, Bool.false_eq_true, hA.1.1, hA.1.2, hA.2.1.1, hA.2.1.2, hA.2.2.1.1, hA.2.2.1.2, hA.2.2.2.1.1, hA.2.2.2.1.2, hA.2.2.2.2.1.1, hA.2.2.2.2.1.2, hA.2.2.2.2.2.1, hA.2.2.2.2.2.2, kp_int, hi, ht, t, f2, g2, s3]
        · have e0 : lS S.1.1 (fO S.1.1 K) (i + 1) = lS S.1.1 (fO S.1.1 K) i + 0 := by
            rw [lS_s, if_pos t2]
            unfold fO
            rw [if_neg (fun z => s3 z.2)]
          rw [e0]
          rw [g2] at b3
          simp (disch := omega) only [r_L_told_463, r_L_told_465, r_L_told_468, r_L_told_470, r_L_told_472, r_L_told_474, r_L_told_477, r_L_told_480, r_L_told_481, r_L_told_482, r_L_told_484, r_L_told_485, r_L_told_486, r_L_told_487, r_L_told_488, r_L_told_489, r_L_told_492, r_L_told_493, r_L_told_494, r_L_told_496, r_L_told_497, r_L_told_498, r_L_told_499, r_L_told_500, r_L_told_502, r_L_told_505, r_L_told_506, r_L_told_509, r_L_told_510, r_L_told_511, r_L_told_513, r_L_told_516, up2_o, up2_e, iN_ap, iN_up, i_ix, i_inb, i_lt, i_lt0, i_0lt, i_eq, i_ne0, i_00, i_11, i_01, i_10, i_b, i_rem2, n_rem, i_add, i_mul, i_sub, i_div, i_max, i_min, rdk_0, rdk_3, kp_none, kp_int, kp_ref, kp_long, kp_double, aK_v, aK_0, aK_ite, if_true, if_false, and_self, and_true, true_and, or_false, false_or, not_true_eq_false, not_false_eq_true, ite_self, ↓reduceIte, eq_self, Bool.false_eq_true, hA.1.1, hA.1.2, hA.2.1.1, hA.2.1.2, hA.2.2.1.1, hA.2.2.1.2, hA.2.2.2.1.1, hA.2.2.2.1.2, hA.2.2.2.2.1.1, hA.2.2.2.2.1.2, hA.2.2.2.2.2.1, hA.2.2.2.2.2.2, kp_int, hi, ht, t, f2, g2, s3]
      · have e0 : lS S.1.1 (fO S.1.1 K) (i + 1) = lS S.1.1 (fO S.1.1 K) i + 0 := by
          rw [lS_s, if_pos t2]
          unfold fO
          rw [if_neg (fun z => s2 z.1)]
        rw [e0]
        rw [← f2] at s2
        simp (disch := omega) only [r_L_told_463, r_L_told_465, r_L_told_468, r_L_told_470, r_L_told_472, r_L_told_474, r_L_told_477, r_L_told_480, r_L_told_481, r_L_told_482, r_L_told_484, r_L_told_485, r_L_told_486, r_L_told_487, r_L_told_488, r_L_told_489, r_L_told_492, r_L_told_493, r_L_told_494, r_L_told_496, r_L_told_497, r_L_told_498, r_L_told_499, r_L_told_500, r_L_told_502, r_L_told_505, r_L_told_506, r_L_told_509, r_L_told_510, r_L_told_511, r_L_told_513, r_L_told_516, up2_o, up2_e, iN_ap, iN_up, i_ix, i_inb, i_lt, i_lt0, i_0lt, i_eq, i_ne0, i_00, i_11, i_01, i_10, i_b, i_rem2, n_rem, i_add, i_mul, i_sub, i_div, i_max, i_min, rdk_0, rdk_3, kp_none, kp_int, kp_ref, kp_long, kp_double, aK_v, aK_0, aK_ite, if_true, if_false, and_self, and_true, true_and, or_false, false_or, not_true_eq_false, not_false_eq_true, ite_self, ↓reduceIte, eq_self, Bool.false_eq_true, hA.1.1, hA.1.2, hA.2.1.1, hA.2.1.2, hA.2.2.1.1, hA.2.2.1.2, hA.2.2.2.1.1, hA.2.2.2.1.2, hA.2.2.2.2.1.1, hA.2.2.2.2.1.2, hA.2.2.2.2.2.1, hA.2.2.2.2.2.2, kp_int, hi, ht, t, s2]
    · have t2 : ¬ pl i % 6 < S.1.1 3 (pl i / 6) := fun z => t (hR.mpr z)
      have e0 : lS S.1.1 (fO S.1.1 K) (i + 1) = lS S.1.1 (fO S.1.1 K) i + 0 := by
        rw [lS_s, if_neg t2]
      rw [e0]
      simp (disch := omega) only [r_L_told_463, r_L_told_465, r_L_told_468, r_L_told_470, r_L_told_472, r_L_told_474, r_L_told_477, r_L_told_480, r_L_told_481, r_L_told_482, r_L_told_484, r_L_told_485, r_L_told_486, r_L_told_487, r_L_told_488, r_L_told_489, r_L_told_492, r_L_told_493, r_L_told_494, r_L_told_496, r_L_told_497, r_L_told_498, r_L_told_499, r_L_told_500, r_L_told_502, r_L_told_505, r_L_told_506, r_L_told_509, r_L_told_510, r_L_told_511, r_L_told_513, r_L_told_516, up2_o, up2_e, iN_ap, iN_up, i_ix, i_inb, i_lt, i_lt0, i_0lt, i_eq, i_ne0, i_00, i_11, i_01, i_10, i_b, i_rem2, n_rem, i_add, i_mul, i_sub, i_div, i_max, i_min, rdk_0, rdk_3, kp_none, kp_int, kp_ref, kp_long, kp_double, aK_v, aK_0, aK_ite, if_true, if_false, and_self, and_true, true_and, or_false, false_or, not_true_eq_false, not_false_eq_true, ite_self, ↓reduceIte, eq_self, Bool.false_eq_true, hA.1.1, hA.1.2, hA.2.1.1, hA.2.1.2, hA.2.2.1.1, hA.2.2.1.2, hA.2.2.2.1.1, hA.2.2.2.1.2, hA.2.2.2.2.1.1, hA.2.2.2.2.1.2, hA.2.2.2.2.2.1, hA.2.2.2.2.2.2, kp_int, hi, ht, t]
theorem lz_tD {x z24 : Int32} {z10 z11 z12 z13 z14 z15 z16 z17 z18 z19 : Int32} {b20 b21 b22 b23 : Option Value} (hZ : LZ Z) (H : LW N S B o) : ∀ (n i : Nat), i + n = 5 →
    ex 106 593 [some (.ref 0), some (.int x), some (.ref 144), some (.ref 145), some (.ref 146), some (.ref 147), some (.ref 148), some (.ref 149), some (.ref 150), some (.ref 151), some (.int z10), some (.int z11), some (.int z12), some (.int z13), some (.int z14), some (.int z15), some (.int z16), some (.int z17), some (.int z18), some (.int z19), b20, b21, b22, b23, some (.int z24), some (.int (nI (i)))] [] (Z, iN N, L, u) =
    ex 106 621 [some (.ref 0), some (.int x), some (.ref 144), some (.ref 145), some (.ref 146), some (.ref 147), some (.ref 148), some (.ref 149), some (.ref 150), some (.ref 151), some (.int z10), some (.int z11), some (.int z12), some (.int z13), some (.int z14), some (.int z15), some (.int z16), some (.int z17), some (.int z18), some (.int z19), b20, b21, b22, b23, some (.int z24), some (.int (nI (5)))] [] (Z, iN N, L, u)
  | 0, i, e => by
    have ei : i = 5 := by omega
    subst ei
    rw [r_L_told_593]
    simp (disch := omega) only [r_L_told_595, r_L_told_596, up2_o, up2_e, iN_ap, iN_up, i_ix, i_inb, i_lt, i_lt0, i_0lt, i_eq, i_ne0, i_00, i_11, i_01, i_10, i_b, i_rem2, n_rem, i_add, i_mul, i_sub, i_div, i_max, i_min, rdk_0, rdk_3, kp_none, kp_int, kp_ref, kp_long, kp_double, aK_v, aK_0, aK_ite, if_true, if_false, and_self, and_true, true_and, or_false, false_or, not_true_eq_false, not_false_eq_true, ite_self, ↓reduceIte, eq_self, Bool.false_eq_true, Nat.lt_irrefl]
  | n + 1, i, e => by
    have hi : i < 5 := by omega
    have hA := hZ.2.1
    have z0 := hZ.1.1.1
    have q0 := ce_setting (L := L) (c := u) hZ.1 H.2.2.1 hi
    have q1 := H.1.2.2.1 i hi
    have ih := lz_tD (x := x) (z24 := z24) (b20 := b20) (b21 := b21) (b22 := b22) (b23 := b23) (z10 := z10) (z11 := z11) (z12 := z12) (z13 := z13) (z14 := z14) (z15 := z15) (z16 := z16) (z17 := z17) (z18 := z18) (z19 := z19) hZ H n (i + 1) (by omega)
    rw [← ih, r_L_told_593]
    simp (disch := omega) only [r_L_told_595, r_L_told_596, r_L_told_599, r_L_told_600, r_L_told_602, r_L_told_605, r_L_told_607, r_L_told_609, r_L_told_610, r_L_told_613, r_L_told_614, r_L_told_615, r_L_told_618, up2_o, up2_e, iN_ap, iN_up, i_ix, i_inb, i_lt, i_lt0, i_0lt, i_eq, i_ne0, i_00, i_11, i_01, i_10, i_b, i_rem2, n_rem, i_add, i_mul, i_sub, i_div, i_max, i_min, rdk_0, rdk_3, kp_none, kp_int, kp_ref, kp_long, kp_double, aK_v, aK_0, aK_ite, if_true, if_false, and_self, and_true, true_and, or_false, false_or, not_true_eq_false, not_false_eq_true, ite_self, ↓reduceIte, eq_self, Bool.false_eq_true, hA.1.1, hA.1.2, hA.2.1.1, hA.2.1.2, hA.2.2.1.1, hA.2.2.1.2, hA.2.2.2.1.1, hA.2.2.2.1.2, hA.2.2.2.2.1.1, hA.2.2.2.2.1.2, hA.2.2.2.2.2.1, hA.2.2.2.2.2.2, kp_int, z0, hi, q0, q1]
theorem lz_tE {x z24 : Int32} {b20 b21 b22 b23 : Option Value} (hZ : LZ Z) (H : LW N S B o) :
    ex 106 621 [some (.ref 0), some (.int x), some (.ref 144), some (.ref 145), some (.ref 146), some (.ref 147), some (.ref 148), some (.ref 149), some (.ref 150), some (.ref 151), some (.int (nI (lS S.1.1 (fun _ => 1) 12))), some (.int (nI (lS S.1.1 (fB S.1.1) 12))), some (.int (nI (lS S.1.1 (fS S.1.1) 12))), some (.int (nI (lS S.1.1 (fP S.1.1) 12))), some (.int (nI (lS S.1.1 (S.1.1 9) 12))), some (.int (nI (lS S.1.1 (fH S.1.1) 12))), some (.int (nI (lS S.1.1 (S.1.1 10) 12))), some (.int (nI (lS S.1.1 (fG S.1.1) 12))), some (.int (nI (lS S.1.1 (S.1.1 11) 12))), some (.int (nI (aWo (fun t => aTr S.1.1 t 2) (fun t => aTr S.1.1 t 3) 4 0 4294967295))), b20, b21, b22, b23, some (.int z24), some (.int (nI (5)))] [] (Z, iN N, L, u) = some (.inl (some (.int (nI 1))), (Z, iN N, L, u)) := by
  have hA := hZ.2.1
  have z0 := hZ.1.1.1
  have hw := H.2.2.2.1.1.1
  have h3 := H.2.2.2.2.1
  have hb := aPr_bd hw
  have md : ∀ w v, w ≤ 12 → aCn S.1.1 S.1.2 S.2.1.length w = v → ex 75 0 [some (.ref 0), some (.int (nI w))] [] (Z, iN N, L, u) = some (.inl (some (.int (nI v))), (Z, iN N, L, u)) := fun w v hw hv => by
    rw [← hv]
    exact ce_count hZ.1 H.2.2.1 H.2.2.2.1 hw
  have m0 := md 0 (S.1.1 0 1) (by omega) rfl
  have m1 := md 1 (lS S.1.1 (fun _ => 1) 12) (by omega) (lc_mod hw h3).symm
  have m2 := md 2 (lS S.1.1 (fB S.1.1) 12) (by omega) (lc_bkd hw h3).symm
  have m3 := md 3 (lS S.1.1 (fS S.1.1) 12) (by omega) (lc_st hw h3).symm
  have m4 := md 4 (S.1.1 0 0) (by omega) rfl
  have m5 := md 5 (S.1.1 0 2) (by omega) rfl
  have m6 := md 6 (lS S.1.1 (fP S.1.1) 12) (by omega) (lc_prc hw h3).symm
  have m7 := md 7 (lS S.1.1 (S.1.1 9) 12) (by omega) (lc_9 hw h3).1.symm
  have m8 := md 8 (lS S.1.1 (fH S.1.1) 12) (by omega) (lc_12 hw h3).1.symm
  have m9 := md 9 (lS S.1.1 (S.1.1 10) 12) (by omega) (lc_9 hw h3).2.1.symm
  have m10 := md 10 (lS S.1.1 (fG S.1.1) 12) (by omega) (lc_12 hw h3).2.symm
  have m11 := md 11 (lS S.1.1 (S.1.1 11) 12) (by omega) (lc_9 hw h3).2.2.symm
  have c0 := H.1.1.1
  have c1 := H.1.1.2.1
  have c3 := H.1.1.2.2.2.1
  have qw := ce_worst (L := L) (c := u) hZ.1 H.2.2.1 H.2.2.2.1
  have qh := q_held (L := L) (c := u) hZ.1 H.2.2.1 H.2.2.2.1
  have eP : sumN (aPr S.1.1) 0 6 = lS S.1.1 (fP S.1.1) 12 := (lc_prc hw h3).symm
  have eH : sumN (S.1.1 12) 0 144 = lS S.1.1 (fH S.1.1) 12 := (lc_12 hw h3).1.symm
  unfold hel at qh
  rw [eP] at qh hb
  rw [eH] at qh
  obtain ⟨P, hP⟩ : ∃ P, P = lS S.1.1 (fP S.1.1) 12 := ⟨_, rfl⟩
  obtain ⟨Q, hQ⟩ : ∃ Q, Q = lS S.1.1 (fH S.1.1) 12 := ⟨_, rfl⟩
  rw [← hP] at m6 qh hb
  rw [← hQ] at m8 qh
  rw [← hP, ← hQ]
  have g : ex 106 621 [some (.ref 0), some (.int x), some (.ref 144), some (.ref 145), some (.ref 146), some (.ref 147), some (.ref 148), some (.ref 149), some (.ref 150), some (.ref 151), some (.int (nI (lS S.1.1 (fun _ => 1) 12))), some (.int (nI (lS S.1.1 (fB S.1.1) 12))), some (.int (nI (lS S.1.1 (fS S.1.1) 12))), some (.int (nI (P))), some (.int (nI (lS S.1.1 (S.1.1 9) 12))), some (.int (nI (Q))), some (.int (nI (lS S.1.1 (S.1.1 10) 12))), some (.int (nI (lS S.1.1 (fG S.1.1) 12))), some (.int (nI (lS S.1.1 (S.1.1 11) 12))), some (.int (nI (aWo (fun t => aTr S.1.1 t 2) (fun t => aTr S.1.1 t 3) 4 0 4294967295))), b20, b21, b22, b23, some (.int z24), some (.int (nI (5)))] [] (Z, iN N, L, u) = ex 106 766 [some (.ref 0), some (.int x), some (.ref 144), some (.ref 145), some (.ref 146), some (.ref 147), some (.ref 148), some (.ref 149), some (.ref 150), some (.ref 151), some (.int (nI (lS S.1.1 (fun _ => 1) 12))), some (.int (nI (lS S.1.1 (fB S.1.1) 12))), some (.int (nI (lS S.1.1 (fS S.1.1) 12))), some (.int (nI (P))), some (.int (nI (lS S.1.1 (S.1.1 9) 12))), some (.int (nI (Q))), some (.int (nI (lS S.1.1 (S.1.1 10) 12))), some (.int (nI (lS S.1.1 (fG S.1.1) 12))), some (.int (nI (lS S.1.1 (S.1.1 11) 12))), some (.int (nI (aWo (fun t => aTr S.1.1 t 2) (fun t => aTr S.1.1 t 3) 4 0 4294967295))), b20, b21, b22, b23, some (.int z24), some (.int (nI (5)))] [] (Z, iN N, L, u) := by
    simp (disch := omega) only [r_L_told_621, r_L_told_622, r_L_told_623, r_L_told_626, r_L_told_628, r_L_told_629, r_L_told_630, r_L_told_633, r_L_told_634, r_L_told_635, r_L_told_638, r_L_told_640, r_L_told_643, r_L_told_644, r_L_told_645, r_L_told_648, r_L_told_650, r_L_told_653, r_L_told_654, r_L_told_655, r_L_told_658, r_L_told_660, r_L_told_663, r_L_told_664, r_L_told_665, r_L_told_668, r_L_told_670, r_L_told_671, r_L_told_672, r_L_told_675, r_L_told_676, r_L_told_677, r_L_told_680, r_L_told_682, r_L_told_683, r_L_told_684, r_L_told_687, r_L_told_688, r_L_told_689, r_L_told_690, r_L_told_692, r_L_told_695, r_L_told_697, r_L_told_700, r_L_told_701, r_L_told_703, r_L_told_706, r_L_told_708, r_L_told_711, r_L_told_712, r_L_told_714, r_L_told_717, r_L_told_719, r_L_told_722, r_L_told_723, r_L_told_725, r_L_told_728, r_L_told_730, r_L_told_733, r_L_told_734, r_L_told_736, r_L_told_739, r_L_told_741, r_L_told_744, r_L_told_745, r_L_told_747, r_L_told_750, r_L_told_752, r_L_told_755, r_L_told_756, r_L_told_759, r_L_told_761, up2_o, up2_e, iN_ap, iN_up, i_ix, i_inb, i_lt, i_lt0, i_0lt, i_eq, i_ne0, i_00, i_11, i_01, i_10, i_b, i_rem2, n_rem, i_add, i_mul, i_sub, i_div, i_max, i_min, rdk_0, rdk_3, kp_none, kp_int, kp_ref, kp_long, kp_double, aK_v, aK_0, aK_ite, if_true, if_false, and_self, and_true, true_and, or_false, false_or, not_true_eq_false, not_false_eq_true, ite_self, ↓reduceIte, eq_self, Bool.false_eq_true, hA.1.1, hA.1.2, hA.2.1.1, hA.2.1.2, hA.2.2.1.1, hA.2.2.1.2, hA.2.2.2.1.1, hA.2.2.2.1.2, hA.2.2.2.2.1.1, hA.2.2.2.2.1.2, hA.2.2.2.2.2.1, hA.2.2.2.2.2.2, kp_int, z0, m0, m1, m2, m3, m4, m5, m6, m7, m8, m9, m10, m11, c0, c1, c3, qw]
  rw [g]
  by_cases q : P = 0
  · rw [if_pos q] at qh
    have s := fl_self (v := FP.dconst0) (by decide)
    subst q
    simp (disch := omega) only [r_L_told_766, r_L_told_767, r_L_told_770, r_L_told_772, r_L_told_775, r_L_told_776, r_L_told_779, r_L_told_780, r_L_told_782, r_L_told_783, r_L_told_784, r_L_told_786, r_L_told_787, r_L_told_788, r_L_told_789, r_L_told_792, r_L_told_793, r_L_told_796, r_L_told_797, up2_o, up2_e, iN_ap, iN_up, i_ix, i_inb, i_lt, i_lt0, i_0lt, i_eq, i_ne0, i_00, i_11, i_01, i_10, i_b, i_rem2, n_rem, i_add, i_mul, i_sub, i_div, i_max, i_min, rdk_0, rdk_3, kp_none, kp_int, kp_ref, kp_long, kp_double, aK_v, aK_0, aK_ite, if_true, if_false, and_self, and_true, true_and, or_false, false_or, not_true_eq_false, not_false_eq_true, ite_self, ↓reduceIte, eq_self, Bool.false_eq_true, kp_int, z0, qh, s]
  · rw [if_neg q] at qh
    have qz : (nI P = 0) = False := by
      rw [← nI_0, i_eqU (by omega) (by omega)]
      exact eq_false q
    have hn := fl_div (a := nI Q) (b := nI P) (fun z => by rw [qz] at z; exact z)
    have s := fl_self hn
    have n1 := fl_mk (fl_i2d (nI Q))
    have n2 := fl_mk hn
    obtain ⟨v, hv⟩ : ∃ v, v = FP.ddiv (FP.i2d (nI Q)) (FP.i2d (nI P)) := ⟨_, rfl⟩
    rw [← hv] at qh s n2
    have g1 : ∀ (ls : aL) (st : List Value), ex 106 779 [some (.ref 0), some (.int x), some (.ref 144), some (.ref 145), some (.ref 146), some (.ref 147), some (.ref 148), some (.ref 149), some (.ref 150), some (.ref 151), some (.int (nI (lS S.1.1 (fun _ => 1) 12))), some (.int (nI (lS S.1.1 (fB S.1.1) 12))), some (.int (nI (lS S.1.1 (fS S.1.1) 12))), some (.int (nI (P))), some (.int (nI (lS S.1.1 (S.1.1 9) 12))), some (.int (nI (Q))), some (.int (nI (lS S.1.1 (S.1.1 10) 12))), some (.int (nI (lS S.1.1 (fG S.1.1) 12))), some (.int (nI (lS S.1.1 (S.1.1 11) 12))), some (.int (nI (aWo (fun t => aTr S.1.1 t 2) (fun t => aTr S.1.1 t 3) 4 0 4294967295))), b20, b21, b22, b23, some (.int z24), some (.int (nI (5)))] (.double v :: []) (Z, iN N, L, u) = some (.inl (some (.int (nI 1))), (Z, iN N, L, u)) := fun _ _ => by
      rw [r_L_told_779, r_L_told_780, r_L_told_782, r_L_told_783, fl_one, if_pos (of_eq_true n1), r_L_told_784, r_L_told_786, r_L_told_787, ← hv, if_pos (of_eq_true n2)]
      simp (disch := omega) only [r_L_told_788, r_L_told_789, r_L_told_792, r_L_told_793, r_L_told_796, r_L_told_797, up2_o, up2_e, iN_ap, iN_up, i_ix, i_inb, i_lt, i_lt0, i_0lt, i_eq, i_ne0, i_00, i_11, i_01, i_10, i_b, i_rem2, n_rem, i_add, i_mul, i_sub, i_div, i_max, i_min, rdk_0, rdk_3, kp_none, kp_int, kp_ref, kp_long, kp_double, aK_v, aK_0, aK_ite, if_true, if_false, and_self, and_true, true_and, or_false, false_or, not_true_eq_false, not_false_eq_true, ite_self, ↓reduceIte, eq_self, Bool.false_eq_true, s]
    rw [← g1 [] []]
    simp (disch := omega) only [r_L_told_766, r_L_told_767, r_L_told_770, r_L_told_772, up2_o, up2_e, iN_ap, iN_up, i_ix, i_inb, i_lt, i_lt0, i_0lt, i_eq, i_ne0, i_00, i_11, i_01, i_10, i_b, i_rem2, n_rem, i_add, i_mul, i_sub, i_div, i_max, i_min, rdk_0, rdk_3, kp_none, kp_int, kp_ref, kp_long, kp_double, aK_v, aK_0, aK_ite, if_true, if_false, and_self, and_true, true_and, or_false, false_or, not_true_eq_false, not_false_eq_true, ite_self, ↓reduceIte, eq_self, Bool.false_eq_true, kp_int, z0, qh, qz]
theorem lz_told {x : Int32} (hZ : LZ Z) (H : LW N S B o) :
    ex 106 0 [some (.ref 0), some (.int x), some (.ref 144), some (.ref 145), some (.ref 146), some (.ref 147), some (.ref 148), some (.ref 149), some (.ref 150), some (.ref 151), none, none, none, none, none, none, none, none, none, none, none, none, none, none, none, none] [] (Z, iN N, L, u) = some (.inl (some (.int (nI 1))), (Z, iN N, L, u)) := by
  have hA := hZ.2.1
  have z0 := hZ.1.1.1
  have hw := H.2.2.2.1.1.1
  have h3 := H.2.2.2.2.1
  have hb := LW_LB H
  have hh := lz_houses (L := L) (u := u) hZ H
  have tA := lz_tA (L := L) (u := u) (x := x) (a20 := none) (a21 := none) (a22 := none) (a23 := none) (a24 := none) (a25 := none) hZ H 12 0 rfl
  obtain ⟨b20, b21, b23, b24, b25, tB⟩ := lz_tB (L := L) (u := u) (x := x) (z10 := nI (lS S.1.1 (fun _ => 1) 12)) (z11 := nI (lS S.1.1 (fB S.1.1) 12)) (z12 := nI (lS S.1.1 (fS S.1.1) 12)) (z13 := nI (lS S.1.1 (fP S.1.1) 12)) (z14 := nI (lS S.1.1 (S.1.1 9) 12)) (z15 := nI (lS S.1.1 (fH S.1.1) 12)) (z16 := nI (lS S.1.1 (S.1.1 10) 12)) (z17 := nI (lS S.1.1 (fG S.1.1) 12)) (z18 := nI (lS S.1.1 (S.1.1 11) 12)) hZ H 4 0 4294967295 0 0 none none none rfl (Or.inl rfl) (by rw [if_pos rfl]) (by rw [if_pos rfl])
  have c1 := H.1.1.2.1
  have c3 := H.1.1.2.2.2.1
  have ht := H.2.2.2.1.1.2
  obtain ⟨r, hr, r1⟩ := lz_at (x := x) (n := 6) (h := (Z, iN N, L, u)) (by omega) (by omega)
  obtain ⟨K, hK, r2⟩ := lz_at (x := x >>> (nI 3 &&& 31)) (n := S.1.1 0 0 + 1) (h := (Z, iN N, L, u)) (by omega) (by omega)
  have tC := lz_tC (L := L) (u := u) (x := x) (z22 := nI (S.1.1 0 0 + r)) (z10 := nI (lS S.1.1 (fun _ => 1) 12)) (z11 := nI (lS S.1.1 (fB S.1.1) 12)) (z12 := nI (lS S.1.1 (fS S.1.1) 12)) (z13 := nI (lS S.1.1 (fP S.1.1) 12)) (z14 := nI (lS S.1.1 (S.1.1 9) 12)) (z15 := nI (lS S.1.1 (fH S.1.1) 12)) (z16 := nI (lS S.1.1 (S.1.1 10) 12)) (z17 := nI (lS S.1.1 (fG S.1.1) 12)) (z18 := nI (lS S.1.1 (S.1.1 11) 12)) (z19 := nI (aWo (fun t => aTr S.1.1 t 2) (fun t => aTr S.1.1 t 3) 4 0 4294967295)) (b20 := b20) (b21 := some (.int b21)) (K := K) hZ H (by omega) 12 0 rfl
  have tD := lz_tD (L := L) (u := u) (x := x) (z24 := nI K) (z10 := nI (lS S.1.1 (fun _ => 1) 12)) (z11 := nI (lS S.1.1 (fB S.1.1) 12)) (z12 := nI (lS S.1.1 (fS S.1.1) 12)) (z13 := nI (lS S.1.1 (fP S.1.1) 12)) (z14 := nI (lS S.1.1 (S.1.1 9) 12)) (z15 := nI (lS S.1.1 (fH S.1.1) 12)) (z16 := nI (lS S.1.1 (S.1.1 10) 12)) (z17 := nI (lS S.1.1 (fG S.1.1) 12)) (z18 := nI (lS S.1.1 (S.1.1 11) 12)) (z19 := nI (aWo (fun t => aTr S.1.1 t 2) (fun t => aTr S.1.1 t 3) 4 0 4294967295)) (b20 := b20) (b21 := some (.int b21)) (b22 := some (.int (nI (S.1.1 0 0 + r)))) (b23 := some (.int (nI (lS S.1.1 (fO S.1.1 K) 12)))) hZ H 5 0 rfl
  have tE := lz_tE (L := L) (u := u) (x := x) (z24 := nI K) (b20 := b20) (b21 := some (.int b21)) (b22 := some (.int (nI (S.1.1 0 0 + r)))) (b23 := some (.int (nI (lS S.1.1 (fO S.1.1 K) 12)))) hZ H
  have e0 : ∀ f, lS S.1.1 f 0 = 0 := fun _ => rfl
  simp only [e0] at tA tC
  have w9 : aWind S.1.1 (S.1.1 0 0 + r) = N 150 ((S.1.1 0 0 + r) % N 151 3) := by
    unfold aWind
    rw [c3]
    exact (H.1.2.1 _ (Nat.mod_lt _ hw.1.1.2.1)).symm
  have lw := lz_wind (N := N) (L := L) (u := u) (d := S.1.1 0 0 + r) hA hb (by omega)
  rw [← w9] at lw
  obtain ⟨lc0, lc1⟩ := lLd_cnt H.1 hw.2.1 h3 (l := S.1.2) (fun y hy => by have := (hw.2.2.2.2.2.2.1 y).mp hy; exact ⟨this.1, this.2.2⟩) hw.2.2.2.2.2.1 (fun y hy => stg_1 hw hy) (S.1.1 0 0 + r)
  have l0 := lz_load (N := N) (L := L) (u := u) (d := S.1.1 0 0 + r) (hv := 0) hA hb (by omega) (by omega)
  have l1 := lz_load (N := N) (L := L) (u := u) (d := S.1.1 0 0 + r) (hv := 1) hA hb (by omega) (by omega)
  rw [lc0] at l0
  rw [lc1] at l1
  have d0 : ex 74 0 [some (.ref 0), some (.int (nI (S.1.1 0 0 + r))), some (.int (nI 0))] [] (Z, iN N, L, u) = some (.inl (some (.int (nI (aWind S.1.1 (S.1.1 0 0 + r))))), (Z, iN N, L, u)) := ce_day hZ.1 H.2.2.1 H.2.2.2.1 (by omega) (by omega)
  have d1 : ex 74 0 [some (.ref 0), some (.int (nI (S.1.1 0 0 + r))), some (.int (nI 1))] [] (Z, iN N, L, u) = some (.inl (some (.int (nI (cnt S.1.1 S.1.2 (S.1.1 0 0 + r))))), (Z, iN N, L, u)) := ce_day hZ.1 H.2.2.1 H.2.2.2.1 (by omega) (by omega)
  have d2 : ex 74 0 [some (.ref 0), some (.int (nI (S.1.1 0 0 + r))), some (.int (nI 2))] [] (Z, iN N, L, u) = some (.inl (some (.int (nI (wgt S.1.1 S.1.2 (S.1.1 0 0 + r))))), (Z, iN N, L, u)) := ce_day hZ.1 H.2.2.1 H.2.2.2.1 (by omega) (by omega)
  have d3 : ex 74 0 [some (.ref 0), some (.int (nI K)), some (.int (nI 3))] [] (Z, iN N, L, u) = some (.inl (some (.int (nI (lS S.1.1 (fO S.1.1 K) 12)))), (Z, iN N, L, u)) := by
    have k := ce_day (L := L) (c := u) (d := K) (w := 3) hZ.1 H.2.2.1 H.2.2.2.1 (by omega) (by omega)
    have e : aDn S.1.1 S.1.2 K 3 = lS S.1.1 (fO S.1.1 K) 12 := (lc_on hw h3 K).symm
    rw [e] at k
    exact k
  have s1 : ex 106 0 [some (.ref 0), some (.int x), some (.ref 144), some (.ref 145), some (.ref 146), some (.ref 147), some (.ref 148), some (.ref 149), some (.ref 150), some (.ref 151), none, none, none, none, none, none, none, none, none, none, none, none, none, none, none, none] [] (Z, iN N, L, u) = ex 106 47 [some (.ref 0), some (.int x), some (.ref 144), some (.ref 145), some (.ref 146), some (.ref 147), some (.ref 148), some (.ref 149), some (.ref 150), some (.ref 151), some (.int (nI (0))), some (.int (nI (0))), some (.int (nI (0))), some (.int (nI (0))), some (.int (nI (0))), some (.int (nI (0))), some (.int (nI (0))), some (.int (nI (0))), some (.int (nI (0))), some (.int (nI (0))), none, none, none, none, none, none] [] (Z, iN N, L, u) := by
    simp (disch := omega) only [r_L_told_0, r_L_told_1, r_L_told_2, r_L_told_3, r_L_told_5, r_L_told_7, r_L_told_9, r_L_told_12, r_L_told_15, r_L_told_16, r_L_told_17, r_L_told_18, r_L_told_20, r_L_told_21, r_L_told_23, r_L_told_24, r_L_told_26, r_L_told_27, r_L_told_29, r_L_told_30, r_L_told_32, r_L_told_33, r_L_told_35, r_L_told_36, r_L_told_38, r_L_told_39, r_L_told_41, r_L_told_42, r_L_told_44, r_L_told_45, up2_o, up2_e, iN_ap, iN_up, i_ix, i_inb, i_lt, i_lt0, i_0lt, i_eq, i_ne0, i_00, i_11, i_01, i_10, i_b, i_rem2, n_rem, i_add, i_mul, i_sub, i_div, i_max, i_min, rdk_0, rdk_3, kp_none, kp_int, kp_ref, kp_long, kp_double, aK_v, aK_0, aK_ite, if_true, if_false, and_self, and_true, true_and, or_false, false_or, not_true_eq_false, not_false_eq_true, ite_self, ↓reduceIte, eq_self, Bool.false_eq_true, kp_int, kp_ref, kp_none, hh]
  rw [s1, tA]
  have s2 : ex 106 214 [some (.ref 0), some (.int x), some (.ref 144), some (.ref 145), some (.ref 146), some (.ref 147), some (.ref 148), some (.ref 149), some (.ref 150), some (.ref 151), some (.int (nI (lS S.1.1 (fun _ => 1) 12))), some (.int (nI (lS S.1.1 (fB S.1.1) 12))), some (.int (nI (lS S.1.1 (fS S.1.1) 12))), some (.int (nI (lS S.1.1 (fP S.1.1) 12))), some (.int (nI (lS S.1.1 (S.1.1 9) 12))), some (.int (nI (lS S.1.1 (fH S.1.1) 12))), some (.int (nI (lS S.1.1 (S.1.1 10) 12))), some (.int (nI (lS S.1.1 (fG S.1.1) 12))), some (.int (nI (lS S.1.1 (S.1.1 11) 12))), some (.int (nI (12))), none, none, none, none, none, none] [] (Z, iN N, L, u) = ex 106 226 [some (.ref 0), some (.int x), some (.ref 144), some (.ref 145), some (.ref 146), some (.ref 147), some (.ref 148), some (.ref 149), some (.ref 150), some (.ref 151), some (.int (nI (lS S.1.1 (fun _ => 1) 12))), some (.int (nI (lS S.1.1 (fB S.1.1) 12))), some (.int (nI (lS S.1.1 (fS S.1.1) 12))), some (.int (nI (lS S.1.1 (fP S.1.1) 12))), some (.int (nI (lS S.1.1 (S.1.1 9) 12))), some (.int (nI (lS S.1.1 (fH S.1.1) 12))), some (.int (nI (lS S.1.1 (S.1.1 10) 12))), some (.int (nI (lS S.1.1 (fG S.1.1) 12))), some (.int (nI (lS S.1.1 (S.1.1 11) 12))), some (.int (nI (4294967295))), some (.int (nI (0))), some (.int (nI (0))), some (.int (nI (0))), none, none, none] [] (Z, iN N, L, u) := by
    simp (disch := omega) only [r_L_told_214, r_L_told_215, r_L_told_217, r_L_told_218, r_L_told_220, r_L_told_221, r_L_told_223, r_L_told_224, up2_o, up2_e, iN_ap, iN_up, i_ix, i_inb, i_lt, i_lt0, i_0lt, i_eq, i_ne0, i_00, i_11, i_01, i_10, i_b, i_rem2, n_rem, i_add, i_mul, i_sub, i_div, i_max, i_min, rdk_0, rdk_3, kp_none, kp_int, kp_ref, kp_long, kp_double, aK_v, aK_0, aK_ite, if_true, if_false, and_self, and_true, true_and, or_false, false_or, not_true_eq_false, not_false_eq_true, ite_self, ↓reduceIte, eq_self, Bool.false_eq_true, kp_int, nM1]
  rw [s2, tB]
  have s3 : ex 106 428 [some (.ref 0), some (.int x), some (.ref 144), some (.ref 145), some (.ref 146), some (.ref 147), some (.ref 148), some (.ref 149), some (.ref 150), some (.ref 151), some (.int (nI (lS S.1.1 (fun _ => 1) 12))), some (.int (nI (lS S.1.1 (fB S.1.1) 12))), some (.int (nI (lS S.1.1 (fS S.1.1) 12))), some (.int (nI (lS S.1.1 (fP S.1.1) 12))), some (.int (nI (lS S.1.1 (S.1.1 9) 12))), some (.int (nI (lS S.1.1 (fH S.1.1) 12))), some (.int (nI (lS S.1.1 (S.1.1 10) 12))), some (.int (nI (lS S.1.1 (fG S.1.1) 12))), some (.int (nI (lS S.1.1 (S.1.1 11) 12))), some (.int (nI (aWo (fun t => aTr S.1.1 t 2) (fun t => aTr S.1.1 t 3) 4 0 4294967295))), b20, some (.int b21), some (.int (nI (4))), b23, b24, b25] [] (Z, iN N, L, u) = ex 106 461 [some (.ref 0), some (.int x), some (.ref 144), some (.ref 145), some (.ref 146), some (.ref 147), some (.ref 148), some (.ref 149), some (.ref 150), some (.ref 151), some (.int (nI (lS S.1.1 (fun _ => 1) 12))), some (.int (nI (lS S.1.1 (fB S.1.1) 12))), some (.int (nI (lS S.1.1 (fS S.1.1) 12))), some (.int (nI (lS S.1.1 (fP S.1.1) 12))), some (.int (nI (lS S.1.1 (S.1.1 9) 12))), some (.int (nI (lS S.1.1 (fH S.1.1) 12))), some (.int (nI (lS S.1.1 (S.1.1 10) 12))), some (.int (nI (lS S.1.1 (fG S.1.1) 12))), some (.int (nI (lS S.1.1 (S.1.1 11) 12))), some (.int (nI (aWo (fun t => aTr S.1.1 t 2) (fun t => aTr S.1.1 t 3) 4 0 4294967295))), b20, some (.int b21), some (.int (nI (S.1.1 0 0 + r))), some (.int (nI (0))), some (.int (nI (K))), some (.int (nI (0)))] [] (Z, iN N, L, u) := by
    simp (disch := omega) only [r_L_told_428, r_L_told_430, r_L_told_431, r_L_told_432, r_L_told_433, r_L_told_435, r_L_told_438, r_L_told_439, r_L_told_441, r_L_told_442, r_L_told_444, r_L_told_445, r_L_told_446, r_L_told_447, r_L_told_449, r_L_told_450, r_L_told_451, r_L_told_452, r_L_told_453, r_L_told_456, r_L_told_458, r_L_told_459, up2_o, up2_e, iN_ap, iN_up, i_ix, i_inb, i_lt, i_lt0, i_0lt, i_eq, i_ne0, i_00, i_11, i_01, i_10, i_b, i_rem2, n_rem, i_add, i_mul, i_sub, i_div, i_max, i_min, rdk_0, rdk_3, kp_none, kp_int, kp_ref, kp_long, kp_double, aK_v, aK_0, aK_ite, if_true, if_false, and_self, and_true, true_and, or_false, false_or, not_true_eq_false, not_false_eq_true, ite_self, ↓reduceIte, eq_self, Bool.false_eq_true, hA.1.1, hA.1.2, hA.2.1.1, hA.2.1.2, hA.2.2.1.1, hA.2.2.1.2, hA.2.2.2.1.1, hA.2.2.2.1.2, hA.2.2.2.2.1.1, hA.2.2.2.2.1.2, hA.2.2.2.2.2.1, hA.2.2.2.2.2.2, kp_int, c1, r1, r2]
  rw [s3, tC]
  rw [← tE, ← tD]
  simp (disch := omega) only [r_L_told_519, r_L_told_520, r_L_told_522, r_L_told_523, r_L_told_526, r_L_told_528, r_L_told_530, r_L_told_532, r_L_told_535, r_L_told_538, r_L_told_539, r_L_told_541, r_L_told_542, r_L_told_545, r_L_told_547, r_L_told_548, r_L_told_549, r_L_told_551, r_L_told_554, r_L_told_557, r_L_told_558, r_L_told_560, r_L_told_561, r_L_told_564, r_L_told_566, r_L_told_567, r_L_told_568, r_L_told_570, r_L_told_573, r_L_told_576, r_L_told_577, r_L_told_579, r_L_told_580, r_L_told_583, r_L_told_585, r_L_told_588, r_L_told_589, r_L_told_590, r_L_told_591, up2_o, up2_e, iN_ap, iN_up, i_ix, i_inb, i_lt, i_lt0, i_0lt, i_eq, i_ne0, i_00, i_11, i_01, i_10, i_b, i_rem2, n_rem, i_add, i_mul, i_sub, i_div, i_max, i_min, rdk_0, rdk_3, kp_none, kp_int, kp_ref, kp_long, kp_double, aK_v, aK_0, aK_ite, if_true, if_false, and_self, and_true, true_and, or_false, false_or, not_true_eq_false, not_false_eq_true, ite_self, ↓reduceIte, eq_self, Bool.false_eq_true, hA.1.1, hA.1.2, hA.2.1.1, hA.2.1.2, hA.2.2.1.1, hA.2.2.1.2, hA.2.2.2.1.1, hA.2.2.2.1.2, hA.2.2.2.2.1.1, hA.2.2.2.2.1.2, hA.2.2.2.2.2.1, hA.2.2.2.2.2.2, kp_int, z0, d0, d1, d2, d3, lw, l0, l1]
end Lr
