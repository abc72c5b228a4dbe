/-! the law's claims and releases; all of money -/
section Ly
variable {Z : aZ} {N : Nat → Nat → Nat} {L : Nat → Nat → Int64} {u : Nat × Nat} {S : aSt} {B : Nat → Nat} {o : Nat}
theorem lz_clmW {h k t b v : Nat} (hMT : MT N S.1.1 B o) (hm : 4 * h + k < 12) (hp : pl (4 * h + k) = 6 * h + k) (ht : t < 4) (hb : b < 4) : MT (up2 (up2 (up2 (up2 N 146 (4 * (4 * h + k) + t) (N 146 (4 * (4 * h + k) + t) - v)) 145 (3 * (4 * h + k) + 2) (N 145 (3 * (4 * h + k) + 2) + v)) 148 (4 * b + 0) (N 148 (4 * b + 0) + v)) 148 (4 * t + 1) (N 148 (4 * t + 1) + v)) (aMov S.1.1 (6 * h + k) b t v) B o := by
  have e12 := hMT.1.2.2.2.2.2 _ hm t ht
  have e10 := (hMT.1.2.2.2.1 _ hm).2.2.2.2.2.2
  rw [hp] at e12 e10
  have m2 := MT_12 (m := 4 * h + k) (t := t) (v := N 146 (4 * (4 * h + k) + t) - v) hMT ht
  have m3 := MT_mi (m := 4 * h + k) (k := 10) (d := 2) (v := N 145 (3 * (4 * h + k) + 2) + v) m2 (Or.inr ⟨rfl, rfl⟩)
  have m4 := MT_tal (t := b) (k := 0) (v := v) m3 (by omega)
  have m5 := MT_tal (t := t) (k := 1) (v := v) m4 (by omega)
  simp (disch := omega) only [up2_o, up2_e, hp, e12, e10] at m5
  unfold aMov
  rw [e12, e10]
  exact m5
theorem lz_clmm {x y : Int32} {h k t b : Nat} {a16 a17 : Option Value} (hZ : LZ Z) (H : LW N S B o) (h1 : LS1 S.1.1) (hh : h < S.1.1 0 1) (hk : k < S.1.1 3 h) (ht : t < 4) (hb : b < 4) : AR Z L u S o (ex 113 344 [some (.ref 0), some (.int (nI 4)), some (.int x), some (.int y), some (.ref 144), some (.ref 145), some (.ref 146), some (.ref 147), some (.ref 148), some (.ref 149), some (.ref 151), some (.int (nI (h))), some (.int (nI (k))), some (.int (nI (4 * h + k))), some (.int (nI (t))), some (.int (nI (b))), a16, a17] [] (Z, iN N, L, u)) := by
  have hA := hZ.2.1
  have z0 := hZ.1.1.1
  obtain ⟨k7, l7⟩ := hZ.2.2.1
  obtain ⟨k8, l8⟩ := hZ.2.2.2
  have hI := H.2.2.1
  have hS := H.2.2.2.1
  have hw := hS.1.1
  have h3 := H.2.2.2.2.1
  have hbk := H.2.2.2.2.2
  have h31 := h3.1
  have h33 := h3.2 h (by omega)
  have hm : 4 * h + k < 12 := by omega
  have hp : pl (4 * h + k) = 6 * h + k := pl_hk (by omega)
  have LB0 := LW_LB H
  obtain ⟨b1, b2, b3, b4⟩ := LB0.2.2.1 _ hm
  have f2 := (H.1.2.2.2.1 _ hm).2.2.1
  have g2 := (H.1.2.2.2.2.1 _ hm).2
  rw [hp, stg_hk (by omega)] at f2
  have w5 := hw.2.1 h (by omega)
  have set2 : N 144 (5 * (4 * h + k) + 2) = 2 ↔ k < S.1.1 5 h := by
    rw [f2]
    by_cases z : k < S.1.1 5 h
    · rw [if_pos z]
      exact ⟨fun _ => z, fun _ => rfl⟩
    · rw [if_neg z]
      refine ⟨fun w => ?_, fun w => absurd w z⟩
      split at w <;> omega
  have e12 := H.1.2.2.2.2.2 _ hm t ht
  have e13 := H.2.1.1 _ hm t ht
  rw [hp] at e12 e13 g2
  have ws := hw.2.2.2.1 (6 * h + k) (by omega) t ht
  have hMT : MT N S.1.1 B o := ⟨H.1, H.2.1⟩
  by_cases q1 : b = t
  · have g : ex 113 344 [some (.ref 0), some (.int (nI 4)), some (.int x), some (.int y), some (.ref 144), some (.ref 145), some (.ref 146), some (.ref 147), some (.ref 148), some (.ref 149), some (.ref 151), some (.int (nI (h))), some (.int (nI (k))), some (.int (nI (4 * h + k))), some (.int (nI (t))), some (.int (nI (b))), a16, a17] [] (Z, iN N, L, u) = some (.inl (some (.int (nI 1))), (Z, iN N, L, u)) := by
      simp (disch := omega) only [r_L_money_344, r_L_money_345, r_L_money_346, r_L_money_349, r_L_money_351, r_L_money_353, r_L_money_356, r_L_money_358, r_L_money_359, r_L_money_361, r_L_money_362, r_L_money_364, r_L_money_365, r_L_money_366, r_L_money_369, r_L_money_370, up2_o, up2_e, iN_ap, iN_up, i_ix, i_inb, i_lt, i_lt0, i_0lt, i_eq, i_ne0, i_00, i_11, i_01, i_10, i_b, i_rem2, n_rem, i_add, i_mul, i_sub, i_div, i_max, i_min, rdk_0, rdk_3, kp_none, kp_int, kp_ref, kp_long, kp_double, aK_v, aK_0, aK_ite, if_true, if_false, and_self, and_true, true_and, or_false, false_or, not_true_eq_false, not_false_eq_true, ite_self, ↓reduceIte, eq_self, Bool.false_eq_true, kp_int, q1]
    rw [g]
    exact AR_rf H h1
  · by_cases q2 : N 146 (4 * (4 * h + k) + t) = 0
    · have g : ex 113 344 [some (.ref 0), some (.int (nI 4)), some (.int x), some (.int y), some (.ref 144), some (.ref 145), some (.ref 146), some (.ref 147), some (.ref 148), some (.ref 149), some (.ref 151), some (.int (nI (h))), some (.int (nI (k))), some (.int (nI (4 * h + k))), some (.int (nI (t))), some (.int (nI (b))), a16, a17] [] (Z, iN N, L, u) = some (.inl (some (.int (nI 1))), (Z, iN N, L, u)) := by
        have q3 : (nI (N 146 (4 * (4 * h + k) + t)) = 0) = True := by rw [q2]; exact i_00
        simp (disch := omega) only [r_L_money_344, r_L_money_345, r_L_money_346, r_L_money_349, r_L_money_351, r_L_money_353, r_L_money_356, r_L_money_358, r_L_money_359, r_L_money_361, r_L_money_362, r_L_money_364, r_L_money_365, r_L_money_366, r_L_money_369, r_L_money_370, up2_o, up2_e, iN_ap, iN_up, i_ix, i_inb, i_lt, i_lt0, i_0lt, i_eq, i_ne0, i_00, i_11, i_01, i_10, i_b, i_rem2, n_rem, i_add, i_mul, i_sub, i_div, i_max, i_min, rdk_0, rdk_3, kp_none, kp_int, kp_ref, kp_long, kp_double, aK_v, aK_0, aK_ite, if_true, if_false, and_self, and_true, true_and, or_false, false_or, not_true_eq_false, not_false_eq_true, ite_self, ↓reduceIte, eq_self, Bool.false_eq_true, hA.1.1, hA.1.2, hA.2.1.1, hA.2.1.2, hA.2.2.1.1, hA.2.2.1.2, hA.2.2.2.1.1, hA.2.2.2.1.2, hA.2.2.2.2.1.1, hA.2.2.2.2.1.2, hA.2.2.2.2.2.1, hA.2.2.2.2.2.2, kp_int, q1, q3]
      rw [g]
      exact AR_rf H h1
    · have q9 : N 146 (4 * (4 * h + k) + t) ≤ 9999 := by rw [e12]; exact ws.1
      have q3 : (nI (N 146 (4 * (4 * h + k) + t)) = 0) = False := i_ne0 (by omega) (by omega)
      obtain ⟨r, hr, r1⟩ := lz_at (x := y >>> (nI 6 &&& 31)) (n := N 146 (4 * (4 * h + k) + t)) (h := (Z, iN N, L, u)) (by omega) (by omega)
      obtain ⟨v, hv⟩ : ∃ v, v = 1 + r := ⟨_, rfl⟩
      have m1 := lz_clmW (v := v) hMT hm hp ht hb
      have h40 : 4 * b + 0 = 4 * b := rfl
      rw [h40] at m1
      obtain ⟨W, hW⟩ : ∃ W, W = up2 (up2 (up2 (up2 N 146 (4 * (4 * h + k) + t) (N 146 (4 * (4 * h + k) + t) - v)) 145 (3 * (4 * h + k) + 2) (N 145 (3 * (4 * h + k) + 2) + v)) 148 (4 * b) (N 148 (4 * b) + v)) 148 (4 * t + 1) (N 148 (4 * t + 1) + v) := ⟨_, rfl⟩
      rw [← hW] at m1
      have W6 : W 146 (4 * (4 * h + k) + t) = S.1.1 12 ((6 * h + k) * 4 + t) - v := by
        rw [hW, up2_o (by omega), up2_o (by omega), up2_o (by omega), up2_e ⟨rfl, rfl⟩, e12]
      have hr0 : oClm S h k b t v = (0, S.1.1 12 ((6 * h + k) * 4 + t) - v, (aMov S.1.1 (6 * h + k) b t v, S.1.2), push S.2.1 S.1, S.2.2) := by
        unfold oClm
        rw [if_neg (not_not_intro ⟨⟨⟨hh, hk⟩, hb⟩, ht⟩), if_neg (by omega), if_neg (by omega)]
      obtain ⟨N2, c1, c2, c3⟩ := CR_0 (q_claim (L := L) (c := u) (h := h) (k := k) (f := b) (a := t) (v := v) hZ.1 (CI_cg hI (N' := W) (fun a ha => by rw [hW]; repeat rw [up2_ne (by omega)])) hS (by omega) (by omega) (by omega) (by omega) (by omega)) hr0
      have hS2 := SOK_clm (h := h) (k := k) (f := b) (a := t) (v := v) hS
      rw [hr0] at hS2
      have o3 : ∀ c j, c ≠ 14 → c ≠ 12 → c ≠ 10 → aMov S.1.1 (6 * h + k) b t v c j = S.1.1 c j := fun c j z2 z3 z4 => by
        unfold aMov aTal
        rw [up2_o (fun z => z2 z.1), up2_o (fun z => z2 z.1), up2_o (fun z => z4 z.1), up2_o (fun z => z3 z.1)]
      have HW := LW_mk m1 c2 c3 hS2 (LS3_o h3 (o3 0 1 (by omega) (by omega) (by omega)) (fun i => o3 3 i (by omega) (by omega) (by omega))) hbk
      refine ⟨N2, _, B, o, ?_, HW, LS1_o h1 (o3 0 1 (by omega) (by omega) (by omega)) (fun i => o3 3 i (by omega) (by omega) (by omega)), by omega, ?_, fun _ => push_pos⟩
      · have v7 : N2 146 (4 * (4 * h + k) + t) = S.1.1 12 ((6 * h + k) * 4 + t) - v := by rw [c3 146 (by omega)]; exact W6
        have r2 : 1 + r = v := hv.symm
        simp (disch := omega) only [r_L_money_344, r_L_money_345, r_L_money_346, r_L_money_349, r_L_money_351, r_L_money_353, r_L_money_356, r_L_money_358, r_L_money_359, r_L_money_361, r_L_money_362, r_L_money_364, r_L_money_365, r_L_money_366, r_L_money_369, r_L_money_370, r_L_money_371, r_L_money_372, r_L_money_373, r_L_money_375, r_L_money_376, r_L_money_378, r_L_money_379, r_L_money_381, r_L_money_382, r_L_money_384, r_L_money_385, r_L_money_386, r_L_money_389, r_L_money_390, r_L_money_392, r_L_money_394, r_L_money_395, r_L_money_397, r_L_money_398, r_L_money_400, r_L_money_401, r_L_money_402, r_L_money_403, r_L_money_405, r_L_money_406, r_L_money_407, r_L_money_409, r_L_money_410, r_L_money_412, r_L_money_413, r_L_money_414, r_L_money_415, r_L_money_416, r_L_money_417, r_L_money_419, r_L_money_420, r_L_money_421, r_L_money_423, r_L_money_424, r_L_money_426, r_L_money_427, r_L_money_428, r_L_money_429, r_L_money_431, r_L_money_432, r_L_money_433, r_L_money_435, r_L_money_436, r_L_money_438, r_L_money_439, r_L_money_440, r_L_money_441, r_L_money_442, r_L_money_443, r_L_money_445, r_L_money_446, up2_o, up2_e, iN_ap, iN_up, i_ix, i_inb, i_lt, i_lt0, i_0lt, i_eq, i_ne0, i_00, i_11, i_01, i_10, i_b, i_rem2, n_rem, i_add, i_mul, i_sub, i_div, i_max, i_min, rdk_0, rdk_3, kp_none, kp_int, kp_ref, kp_long, kp_double, aK_v, aK_0, aK_ite, if_true, if_false, and_self, and_true, true_and, or_false, false_or, not_true_eq_false, not_false_eq_true, ite_self, ↓reduceIte, eq_self, Bool.false_eq_true, hA.1.1, hA.1.2, hA.2.1.1, hA.2.1.2, hA.2.2.1.1, hA.2.2.1.2, hA.2.2.2.1.1, hA.2.2.2.1.2, hA.2.2.2.2.1.1, hA.2.2.2.2.1.2, hA.2.2.2.2.2.1, hA.2.2.2.2.2.2, k8, l8, kp_int, r1, r2, q1, q3]
        rw [← hW]
        simp (disch := omega) only [r_L_money_447, r_L_money_448, r_L_money_450, r_L_money_452, r_L_money_454, r_L_money_456, r_L_money_458, r_L_money_461, r_L_money_463, r_L_money_464, r_L_money_466, r_L_money_467, r_L_money_469, r_L_money_470, r_L_money_471, r_L_money_474, r_L_money_475, r_L_money_478, r_L_money_479, up2_o, up2_e, iN_ap, iN_up, i_ix, i_inb, i_lt, i_lt0, i_0lt, i_eq, i_ne0, i_00, i_11, i_01, i_10, i_b, i_rem2, n_rem, i_add, i_mul, i_sub, i_div, i_max, i_min, rdk_0, rdk_3, kp_none, kp_int, kp_ref, kp_long, kp_double, aK_v, aK_0, aK_ite, if_true, if_false, and_self, and_true, true_and, or_false, false_or, not_true_eq_false, not_false_eq_true, ite_self, ↓reduceIte, eq_self, Bool.false_eq_true, hA.1.1, hA.1.2, hA.2.1.1, hA.2.1.2, hA.2.2.1.1, hA.2.2.1.2, hA.2.2.2.1.1, hA.2.2.2.1.2, hA.2.2.2.2.1.1, hA.2.2.2.2.1.2, hA.2.2.2.2.2.1, hA.2.2.2.2.2.2, kp_int, z0, c1, v7]
      · show aMov S.1.1 (6 * h + k) b t v 0 0 ≤ _
        rw [o3 _ _ (by omega) (by omega) (by omega)]
        omega
theorem lz_relL {x y : Int32} {h k t b p : Nat} (hZ : LZ Z) (hm : 4 * h + k < 12) (hp : pl (4 * h + k) = p) (hs : ∀ R : aY, True) : ∀ (n e s : Nat) (N : Nat → Nat → Nat) (R : aY), e + n = 4 → MT N R B o → (∀ i, i < 4 → R 13 (p * 4 + i) < 2147483648) →
    ∃ N', ex 113 522 [some (.ref 0), some (.int (nI 5)), some (.int x), some (.int y), some (.ref 144), some (.ref 145), some (.ref 146), some (.ref 147), some (.ref 148), some (.ref 149), some (.ref 151), some (.int (nI (h))), some (.int (nI (k))), some (.int (nI (4 * h + k))), some (.int (nI (t))), some (.int (nI (b))), some (.int (nI (s))), some (.int (nI (e)))] [] (Z, iN N, L, u) = ex 113 576 [some (.ref 0), some (.int (nI 5)), some (.int x), some (.int y), some (.ref 144), some (.ref 145), some (.ref 146), some (.ref 147), some (.ref 148), some (.ref 149), some (.ref 151), some (.int (nI (h))), some (.int (nI (k))), some (.int (nI (4 * h + k))), some (.int (nI (t))), some (.int (nI (b))), some (.int (nI ((aPyF p n e s R).1))), some (.int (nI (4)))] [] (Z, iN N', L, u) ∧ MT N' (aPyF p n e s R).2 B o ∧ ∀ a, a ≠ 146 → N' a = N a
  | 0, e, s, N, R, he, hM, _ => by
    have ee : e = 4 := by omega
    subst ee
    refine ⟨N, ?_, hM, fun _ _ => rfl⟩
    rw [r_L_money_522]
    simp (disch := omega) only [r_L_money_524, r_L_money_525, up2_o, up2_e, iN_ap, iN_up, i_ix, i_inb, i_lt, i_lt0, i_0lt, i_eq, i_ne0, i_00, i_11, i_01, i_10, i_b, i_rem2, n_rem, i_add, i_mul, i_sub, i_div, i_max, i_min, rdk_0, rdk_3, kp_none, kp_int, kp_ref, kp_long, kp_double, aK_v, aK_0, aK_ite, if_true, if_false, and_self, and_true, true_and, or_false, false_or, not_true_eq_false, not_false_eq_true, ite_self, ↓reduceIte, eq_self, Bool.false_eq_true, Nat.lt_irrefl, aPyF]
  | n + 1, e, s, N, R, he, hM, hb => by
    have hA := hZ.2.1
    obtain ⟨k7, l7⟩ := hZ.2.2.1
    have q : e < 4 := by omega
    have e12 := hM.1.2.2.2.2.2 _ hm e q
    have e13 := hM.2.1 _ hm e q
    rw [hp] at e12 e13
    have hb13 := hb e q
    by_cases z : R 13 (p * 4 + e) = 0
    · have m1 := MT_12 (m := 4 * h + k) (t := e) (v := 0) hM q
      rw [hp] at m1
      obtain ⟨N', ih, i2, i3⟩ := lz_relL (x := x) (y := y) (h := h) (k := k) (t := t) (b := b) (p := p) hZ hm hp hs n (e + 1) (s + R 12 (p * 4 + e)) _ _ (by omega) m1 (fun i hi => by rw [up2_o (by omega)]; exact hb i hi)
      have ea : aPyF p (n + 1) e s R = aPyF p n (e + 1) (s + R 12 (p * 4 + e)) (up2 R 12 (p * 4 + e) 0) := by
        show (if R 13 (p * 4 + e) = 0 then _ else _) = _
        rw [if_pos z]
      rw [ea]
      refine ⟨N', ?_, i2, fun a ha => (i3 a ha).trans (up2_ne ha)⟩
      rw [← ih, r_L_money_522]
      have e13z : N 147 (4 * (4 * h + k) + e) = 0 := e13.trans z
      simp (disch := omega) only [r_L_money_524, r_L_money_525, r_L_money_528, r_L_money_530, r_L_money_531, r_L_money_533, r_L_money_534, r_L_money_536, r_L_money_537, r_L_money_538, r_L_money_541, r_L_money_544, r_L_money_546, r_L_money_548, r_L_money_549, r_L_money_551, r_L_money_552, r_L_money_554, r_L_money_555, r_L_money_556, r_L_money_557, r_L_money_559, r_L_money_561, r_L_money_562, r_L_money_564, r_L_money_565, r_L_money_567, r_L_money_568, r_L_money_569, r_L_money_570, r_L_money_573, up2_o, up2_e, iN_ap, iN_up, i_ix, i_inb, i_lt, i_lt0, i_0lt, i_eq, i_ne0, i_00, i_11, i_01, i_10, i_b, i_rem2, n_rem, i_add, i_mul, i_sub, i_div, i_max, i_min, rdk_0, rdk_3, kp_none, kp_int, kp_ref, kp_long, kp_double, aK_v, aK_0, aK_ite, if_true, if_false, and_self, and_true, true_and, or_false, false_or, not_true_eq_false, not_false_eq_true, ite_self, ↓reduceIte, eq_self, Bool.false_eq_true, hA.1.1, hA.1.2, hA.2.1.1, hA.2.1.2, hA.2.2.1.1, hA.2.2.1.2, hA.2.2.2.1.1, hA.2.2.2.1.2, hA.2.2.2.2.1.1, hA.2.2.2.2.1.2, hA.2.2.2.2.2.1, hA.2.2.2.2.2.2, k7, l7, kp_int, q, e13z, e12, nn_00]
    · obtain ⟨N', ih, i2, i3⟩ := lz_relL (x := x) (y := y) (h := h) (k := k) (t := t) (b := b) (p := p) hZ hm hp hs n (e + 1) s N R (by omega) hM hb
      have ea : aPyF p (n + 1) e s R = aPyF p n (e + 1) s R := by
        show (if R 13 (p * 4 + e) = 0 then _ else _) = _
        rw [if_neg z]
      rw [ea]
      refine ⟨N', ?_, i2, i3⟩
      rw [← ih, r_L_money_522]
      have e13z : 0 < N 147 (4 * (4 * h + k) + e) := by omega
      have e13y : N 147 (4 * (4 * h + k) + e) < 2147483648 := by omega
      simp (disch := omega) only [r_L_money_524, r_L_money_525, r_L_money_528, r_L_money_530, r_L_money_531, r_L_money_533, r_L_money_534, r_L_money_536, r_L_money_537, r_L_money_538, r_L_money_541, r_L_money_544, r_L_money_546, r_L_money_548, r_L_money_549, r_L_money_551, r_L_money_552, r_L_money_554, r_L_money_555, r_L_money_556, r_L_money_557, r_L_money_559, r_L_money_561, r_L_money_562, r_L_money_564, r_L_money_565, r_L_money_567, r_L_money_568, r_L_money_569, r_L_money_570, r_L_money_573, up2_o, up2_e, iN_ap, iN_up, i_ix, i_inb, i_lt, i_lt0, i_0lt, i_eq, i_ne0, i_00, i_11, i_01, i_10, i_b, i_rem2, n_rem, i_add, i_mul, i_sub, i_div, i_max, i_min, rdk_0, rdk_3, kp_none, kp_int, kp_ref, kp_long, kp_double, aK_v, aK_0, aK_ite, if_true, if_false, and_self, and_true, true_and, or_false, false_or, not_true_eq_false, not_false_eq_true, ite_self, ↓reduceIte, eq_self, Bool.false_eq_true, hA.1.1, hA.1.2, hA.2.1.1, hA.2.1.2, hA.2.2.1.1, hA.2.2.1.2, hA.2.2.2.1.1, hA.2.2.2.1.2, hA.2.2.2.2.1.1, hA.2.2.2.2.1.2, hA.2.2.2.2.2.1, hA.2.2.2.2.2.2, k7, l7, kp_int, q, e13z]
theorem lz_relm {x y : Int32} {h k t b : Nat} {a16 a17 : Option Value} (hZ : LZ Z) (H : LW N S B o) (h1 : LS1 S.1.1) (hh : h < S.1.1 0 1) (hk : k < S.1.1 3 h) (ht : t < 4) (hb : b < 4) : AR Z L u S o (ex 113 480 [some (.ref 0), some (.int (nI 5)), some (.int x), some (.int y), some (.ref 144), some (.ref 145), some (.ref 146), some (.ref 147), some (.ref 148), some (.ref 149), some (.ref 151), some (.int (nI (h))), some (.int (nI (k))), some (.int (nI (4 * h + k))), some (.int (nI (t))), some (.int (nI (b))), a16, a17] [] (Z, iN N, L, u)) := by
  have hA := hZ.2.1
  have z0 := hZ.1.1.1
  obtain ⟨k7, l7⟩ := hZ.2.2.1
  obtain ⟨k8, l8⟩ := hZ.2.2.2
  have hI := H.2.2.1
  have hS := H.2.2.2.1
  have hw := hS.1.1
  have h3 := H.2.2.2.2.1
  have hbk := H.2.2.2.2.2
  have h31 := h3.1
  have h33 := h3.2 h (by omega)
  have hm : 4 * h + k < 12 := by omega
  have hp : pl (4 * h + k) = 6 * h + k := pl_hk (by omega)
  have LB0 := LW_LB H
  obtain ⟨b1, b2, b3, b4⟩ := LB0.2.2.1 _ hm
  have f2 := (H.1.2.2.2.1 _ hm).2.2.1
  have g2 := (H.1.2.2.2.2.1 _ hm).2
  rw [hp, stg_hk (by omega)] at f2
  have w5 := hw.2.1 h (by omega)
  have set2 : N 144 (5 * (4 * h + k) + 2) = 2 ↔ k < S.1.1 5 h := by
    rw [f2]
    by_cases z : k < S.1.1 5 h
    · rw [if_pos z]
      exact ⟨fun _ => z, fun _ => rfl⟩
    · rw [if_neg z]
      refine ⟨fun w => ?_, fun w => absurd w z⟩
      split at w <;> omega
  have e12 := H.1.2.2.2.2.2 _ hm t ht
  have e13 := H.2.1.1 _ hm t ht
  rw [hp] at e12 e13 g2
  have ws := hw.2.2.2.1 (6 * h + k) (by omega) t ht
  have hMT : MT N S.1.1 B o := ⟨H.1, H.2.1⟩
  have c1 := H.1.1.2.1
  have e4 := H.1.2.2.1 4 (by omega)
  have ht0 := hS.1.2
  have h13 : ∀ i, i < 4 → S.1.1 13 ((6 * h + k) * 4 + i) < 2147483648 := fun i hi => by
    have := hw.2.2.2.1 (6 * h + k) (by omega) i hi
    omega
  by_cases q1 : N 144 (5 * (4 * h + k) + 2) = 2
  · have hset := set2.mp q1
    have g2 := g2 (by rw [show (6 * h + k) / 6 = h by omega, show (6 * h + k) % 6 = k by omega]; omega)
    have w4 : S.1.1 2 4 ≤ 30 := hw.1.2.2.2.2.2.2.2.2.2
    by_cases q2 : S.1.1 0 0 < S.1.1 8 (6 * h + k) + S.1.1 2 4
    · rw [g2] at b3
      have g : ex 113 480 [some (.ref 0), some (.int (nI 5)), some (.int x), some (.int y), some (.ref 144), some (.ref 145), some (.ref 146), some (.ref 147), some (.ref 148), some (.ref 149), some (.ref 151), some (.int (nI (h))), some (.int (nI (k))), some (.int (nI (4 * h + k))), some (.int (nI (t))), some (.int (nI (b))), a16, a17] [] (Z, iN N, L, u) = some (.inl (some (.int (nI 1))), (Z, iN N, L, u)) := by
        simp (disch := omega) only [r_L_money_480, r_L_money_482, r_L_money_483, r_L_money_485, r_L_money_486, r_L_money_487, r_L_money_488, r_L_money_489, r_L_money_490, r_L_money_493, r_L_money_495, r_L_money_496, r_L_money_497, r_L_money_499, r_L_money_500, r_L_money_502, r_L_money_503, r_L_money_504, r_L_money_505, r_L_money_506, r_L_money_508, r_L_money_509, r_L_money_510, r_L_money_511, r_L_money_514, r_L_money_515, up2_o, up2_e, iN_ap, iN_up, i_ix, i_inb, i_lt, i_lt0, i_0lt, i_eq, i_ne0, i_00, i_11, i_01, i_10, i_b, i_rem2, n_rem, i_add, i_mul, i_sub, i_div, i_max, i_min, rdk_0, rdk_3, kp_none, kp_int, kp_ref, kp_long, kp_double, aK_v, aK_0, aK_ite, if_true, if_false, and_self, and_true, true_and, or_false, false_or, not_true_eq_false, not_false_eq_true, ite_self, ↓reduceIte, eq_self, Bool.false_eq_true, hA.1.1, hA.1.2, hA.2.1.1, hA.2.1.2, hA.2.2.1.1, hA.2.2.1.2, hA.2.2.2.1.1, hA.2.2.2.1.2, hA.2.2.2.2.1.1, hA.2.2.2.2.1.2, hA.2.2.2.2.2.1, hA.2.2.2.2.2.2, kp_int, q1, c1, e4, g2, q2]
      rw [g]
      exact AR_rf H h1
    · obtain ⟨N1, l1, l2, l3⟩ := lz_relL (L := L) (u := u) (x := x) (y := y) (h := h) (k := k) (t := t) (b := b) (p := 6 * h + k) hZ hm hp (fun _ => trivial) 4 0 0 N S.1.1 rfl hMT h13
      have e9 := (l2.1.2.2.2.1 _ hm).2.2.2.2.1
      rw [hp] at e9
      have m1 := MT_mi (m := 4 * h + k) (k := 9) (d := 0) (v := N1 145 (3 * (4 * h + k) + 0) + (aPyF (6 * h + k) 4 0 0 S.1.1).1) l2 (Or.inl ⟨rfl, rfl⟩)
      rw [hp, Nat.add_zero] at m1
      obtain ⟨W, hW⟩ : ∃ W, W = up2 N1 145 (3 * (4 * h + k)) (N1 145 (3 * (4 * h + k)) + (aPyF (6 * h + k) 4 0 0 S.1.1).1) := ⟨_, rfl⟩
      rw [← hW, e9] at m1
      have hpay : aPay S.1.1 (6 * h + k) = ((aPyF (6 * h + k) 4 0 0 S.1.1).1, up2 (aPyF (6 * h + k) 4 0 0 S.1.1).2 9 (6 * h + k) ((aPyF (6 * h + k) 4 0 0 S.1.1).2 9 (6 * h + k) + (aPyF (6 * h + k) 4 0 0 S.1.1).1)) := rfl
      have hr0 : oRel S h k = (0, (aPyF (6 * h + k) 4 0 0 S.1.1).1, ((aPay S.1.1 (6 * h + k)).2, S.1.2), push S.2.1 S.1, S.2.2) := by
        unfold oRel
        rw [if_neg (not_not_intro ⟨hh, hk⟩), if_neg (by omega)]
        rfl
      have m1 : MT W (aPay S.1.1 (6 * h + k)).2 B o := m1
      obtain ⟨N2, c5, c2, c3⟩ := CR_0 (q_release (L := L) (c := u) (h := h) (k := k) hZ.1 (CI_cg hI (N' := W) (fun a ha => by rw [hW, up2_ne (by omega), l3 a (by omega)])) hS (by omega) (by omega)) hr0
      have hS2 := SOK_rel (h := h) (k := k) hS
      rw [hr0] at hS2
      have o3 : ∀ c j, c ≠ 9 → c ≠ 12 → (aPay S.1.1 (6 * h + k)).2 c j = S.1.1 c j := fun c j z2 z3 => by
        show up2 (aPyF (6 * h + k) 4 0 0 S.1.1).2 9 (6 * h + k) _ c j = _
        rw [up2_o (fun z => z2 z.1)]
        exact (WF_payF 4 0 0 S.1.1 rfl hw (by rw [show (6 * h + k) / 6 = h by omega, show (6 * h + k) % 6 = k by omega]; exact hk)).2 c j z3
      have HW := LW_mk m1 c2 c3 hS2 (LS3_o h3 (o3 0 1 (by omega) (by omega)) (fun i => o3 3 i (by omega) (by omega))) hbk
      refine ⟨N2, _, B, o, ?_, HW, LS1_o h1 (o3 0 1 (by omega) (by omega)) (fun i => o3 3 i (by omega) (by omega)), by omega, ?_, fun _ => push_pos⟩
      · rw [g2] at b3
        have g : ex 113 480 [some (.ref 0), some (.int (nI 5)), some (.int x), some (.int y), some (.ref 144), some (.ref 145), some (.ref 146), some (.ref 147), some (.ref 148), some (.ref 149), some (.ref 151), some (.int (nI (h))), some (.int (nI (k))), some (.int (nI (4 * h + k))), some (.int (nI (t))), some (.int (nI (b))), a16, a17] [] (Z, iN N, L, u) = ex 113 522 [some (.ref 0), some (.int (nI 5)), some (.int x), some (.int y), some (.ref 144), some (.ref 145), some (.ref 146), some (.ref 147), some (.ref 148), some (.ref 149), some (.ref 151), some (.int (nI (h))), some (.int (nI (k))), some (.int (nI (4 * h + k))), some (.int (nI (t))), some (.int (nI (b))), some (.int (nI (0))), some (.int (nI (0)))] [] (Z, iN N, L, u) := by
          simp (disch := omega) only [r_L_money_480, r_L_money_482, r_L_money_483, r_L_money_485, r_L_money_486, r_L_money_487, r_L_money_488, r_L_money_489, r_L_money_490, r_L_money_493, r_L_money_495, r_L_money_496, r_L_money_497, r_L_money_499, r_L_money_500, r_L_money_502, r_L_money_503, r_L_money_504, r_L_money_505, r_L_money_506, r_L_money_508, r_L_money_509, r_L_money_510, r_L_money_511, r_L_money_514, r_L_money_515, r_L_money_516, r_L_money_517, r_L_money_519, r_L_money_520, up2_o, up2_e, iN_ap, iN_up, i_ix, i_inb, i_lt, i_lt0, i_0lt, i_eq, i_ne0, i_00, i_11, i_01, i_10, i_b, i_rem2, n_rem, i_add, i_mul, i_sub, i_div, i_max, i_min, rdk_0, rdk_3, kp_none, kp_int, kp_ref, kp_long, kp_double, aK_v, aK_0, aK_ite, if_true, if_false, and_self, and_true, true_and, or_false, false_or, not_true_eq_false, not_false_eq_true, ite_self, ↓reduceIte, eq_self, Bool.false_eq_true, hA.1.1, hA.1.2, hA.2.1.1, hA.2.1.2, hA.2.2.1.1, hA.2.2.1.2, hA.2.2.2.1.1, hA.2.2.2.1.2, hA.2.2.2.2.1.1, hA.2.2.2.2.1.2, hA.2.2.2.2.2.1, hA.2.2.2.2.2.2, kp_int, q1, c1, e4, g2, q2]
        rw [g, l1]
        simp (disch := omega) only [r_L_money_576, r_L_money_578, r_L_money_579, r_L_money_581, r_L_money_582, r_L_money_583, r_L_money_584, r_L_money_586, r_L_money_587, up2_o, up2_e, iN_ap, iN_up, i_ix, i_inb, i_lt, i_lt0, i_0lt, i_eq, i_ne0, i_00, i_11, i_01, i_10, i_b, i_rem2, n_rem, i_add, i_mul, i_sub, i_div, i_max, i_min, rdk_0, rdk_3, kp_none, kp_int, kp_ref, kp_long, kp_double, aK_v, aK_0, aK_ite, if_true, if_false, and_self, and_true, true_and, or_false, false_or, not_true_eq_false, not_false_eq_true, ite_self, ↓reduceIte, eq_self, Bool.false_eq_true, hA.1.1, hA.1.2, hA.2.1.1, hA.2.1.2, hA.2.2.1.1, hA.2.2.1.2, hA.2.2.2.1.1, hA.2.2.2.1.2, hA.2.2.2.2.1.1, hA.2.2.2.2.1.2, hA.2.2.2.2.2.1, hA.2.2.2.2.2.2, kp_int]
        rw [← hW]
        simp (disch := omega) only [r_L_money_588, r_L_money_589, r_L_money_591, r_L_money_593, r_L_money_596, r_L_money_598, r_L_money_601, r_L_money_602, r_L_money_605, r_L_money_606, up2_o, up2_e, iN_ap, iN_up, i_ix, i_inb, i_lt, i_lt0, i_0lt, i_eq, i_ne0, i_00, i_11, i_01, i_10, i_b, i_rem2, n_rem, i_add, i_mul, i_sub, i_div, i_max, i_min, rdk_0, rdk_3, kp_none, kp_int, kp_ref, kp_long, kp_double, aK_v, aK_0, aK_ite, if_true, if_false, and_self, and_true, true_and, or_false, false_or, not_true_eq_false, not_false_eq_true, ite_self, ↓reduceIte, eq_self, Bool.false_eq_true, kp_int, z0, c5]
      · show (aPay S.1.1 (6 * h + k)).2 0 0 ≤ _
        rw [o3 _ _ (by omega) (by omega)]
        omega
  · have g : ex 113 480 [some (.ref 0), some (.int (nI 5)), some (.int x), some (.int y), some (.ref 144), some (.ref 145), some (.ref 146), some (.ref 147), some (.ref 148), some (.ref 149), some (.ref 151), some (.int (nI (h))), some (.int (nI (k))), some (.int (nI (4 * h + k))), some (.int (nI (t))), some (.int (nI (b))), a16, a17] [] (Z, iN N, L, u) = some (.inl (some (.int (nI 1))), (Z, iN N, L, u)) := by
      simp (disch := omega) only [r_L_money_480, r_L_money_482, r_L_money_483, r_L_money_485, r_L_money_486, r_L_money_487, r_L_money_488, r_L_money_489, r_L_money_490, r_L_money_493, r_L_money_495, r_L_money_496, r_L_money_497, r_L_money_499, r_L_money_500, r_L_money_502, r_L_money_503, r_L_money_504, r_L_money_505, r_L_money_506, r_L_money_508, r_L_money_509, r_L_money_510, r_L_money_511, r_L_money_514, r_L_money_515, up2_o, up2_e, iN_ap, iN_up, i_ix, i_inb, i_lt, i_lt0, i_0lt, i_eq, i_ne0, i_00, i_11, i_01, i_10, i_b, i_rem2, n_rem, i_add, i_mul, i_sub, i_div, i_max, i_min, rdk_0, rdk_3, kp_none, kp_int, kp_ref, kp_long, kp_double, aK_v, aK_0, aK_ite, if_true, if_false, and_self, and_true, true_and, or_false, false_or, not_true_eq_false, not_false_eq_true, ite_self, ↓reduceIte, eq_self, Bool.false_eq_true, hA.1.1, hA.1.2, hA.2.1.1, hA.2.1.2, hA.2.2.1.1, hA.2.2.1.2, hA.2.2.2.1.1, hA.2.2.2.1.2, hA.2.2.2.2.1.1, hA.2.2.2.2.1.2, hA.2.2.2.2.2.1, hA.2.2.2.2.2.2, kp_int, q1]
    rw [g]
    exact AR_rf H h1
theorem lz_money {x y : Int32} {a : Nat} (hZ : LZ Z) (H : LW N S B o) (h1 : LS1 S.1.1) (h0 : 1 ≤ S.1.1 0 1) (ha : a < 6) : AR Z L u S o (ex 113 0 [some (.ref 0), some (.int (nI a)), some (.int x), some (.int y), some (.ref 144), some (.ref 145), some (.ref 146), some (.ref 147), some (.ref 148), some (.ref 149), some (.ref 151), none, none, none, none, none, none, none] [] (Z, iN N, L, u)) := by
  have hA := hZ.2.1
  have h31 := H.2.2.2.2.1.1
  have c0 := H.1.1.1
  obtain ⟨h, hh, r1⟩ := lz_at (x := x) (n := S.1.1 0 1) (h := (Z, iN N, L, u)) (by omega) (by omega)
  have h33 := H.2.2.2.2.1.2 h (by omega)
  have h11 := h1 h hh
  have c4 := H.1.1.2.2.2.2 h (by omega)
  obtain ⟨k, hk, r2⟩ := lz_at (x := x >>> (nI 3 &&& 31)) (n := S.1.1 3 h) (h := (Z, iN N, L, u)) (by omega) (by omega)
  obtain ⟨t, ht, r3⟩ := lz_at (x := y) (n := 4) (h := (Z, iN N, L, u)) (by omega) (by omega)
  obtain ⟨b, hb, r4⟩ := lz_at (x := y >>> (nI 3 &&& 31)) (n := 4) (h := (Z, iN N, L, u)) (by omega) (by omega)
  have g : ex 113 0 [some (.ref 0), some (.int (nI a)), some (.int x), some (.int y), some (.ref 144), some (.ref 145), some (.ref 146), some (.ref 147), some (.ref 148), some (.ref 149), some (.ref 151), none, none, none, none, none, none, none] [] (Z, iN N, L, u) = ex 113 50 [some (.ref 0), some (.int (nI a)), some (.int x), some (.int y), some (.ref 144), some (.ref 145), some (.ref 146), some (.ref 147), some (.ref 148), some (.ref 149), some (.ref 151), some (.int (nI (h))), some (.int (nI (k))), some (.int (nI (4 * h + k))), some (.int (nI (t))), some (.int (nI (b))), none, none] [] (Z, iN N, L, u) := by
    simp (disch := omega) only [r_L_money_0, r_L_money_1, r_L_money_3, r_L_money_4, r_L_money_5, r_L_money_8, r_L_money_10, r_L_money_11, r_L_money_12, r_L_money_13, r_L_money_15, r_L_money_16, r_L_money_18, r_L_money_19, r_L_money_20, r_L_money_23, r_L_money_25, r_L_money_26, r_L_money_28, r_L_money_29, r_L_money_31, r_L_money_32, r_L_money_34, r_L_money_35, r_L_money_36, r_L_money_39, r_L_money_41, r_L_money_42, r_L_money_43, r_L_money_44, r_L_money_45, r_L_money_48, up2_o, up2_e, iN_ap, iN_up, i_ix, i_inb, i_lt, i_lt0, i_0lt, i_eq, i_ne0, i_00, i_11, i_01, i_10, i_b, i_rem2, n_rem, i_add, i_mul, i_sub, i_div, i_max, i_min, rdk_0, rdk_3, kp_none, kp_int, kp_ref, kp_long, kp_double, aK_v, aK_0, aK_ite, if_true, if_false, and_self, and_true, true_and, or_false, false_or, not_true_eq_false, not_false_eq_true, ite_self, ↓reduceIte, eq_self, Bool.false_eq_true, hA.1.1, hA.1.2, hA.2.1.1, hA.2.1.2, hA.2.2.1.1, hA.2.2.1.2, hA.2.2.2.1.1, hA.2.2.2.1.2, hA.2.2.2.2.1.1, hA.2.2.2.2.1.2, hA.2.2.2.2.2.1, hA.2.2.2.2.2.2, kp_int, kp_ref, c0, c4, r1, r2, r3, r4]
  rw [g]
  rcases (show a < 3 ∨ a = 3 ∨ a = 4 ∨ a = 5 by omega) with q | rfl | rfl | rfl
  · exact lz_insp hZ H h1 hh hk ht hb q
  · have e1 : ex 113 50 [some (.ref 0), some (.int (nI 3)), some (.int x), some (.int y), some (.ref 144), some (.ref 145), some (.ref 146), some (.ref 147), some (.ref 148), some (.ref 149), some (.ref 151), some (.int (nI (h))), some (.int (nI (k))), some (.int (nI (4 * h + k))), some (.int (nI (t))), some (.int (nI (b))), none, none] [] (Z, iN N, L, u) = ex 113 161 [some (.ref 0), some (.int (nI 3)), some (.int x), some (.int y), some (.ref 144), some (.ref 145), some (.ref 146), some (.ref 147), some (.ref 148), some (.ref 149), some (.ref 151), some (.int (nI (h))), some (.int (nI (k))), some (.int (nI (4 * h + k))), some (.int (nI (t))), some (.int (nI (b))), none, none] [] (Z, iN N, L, u) := by
      have w0 : ((3:Nat) < 3) = False := eq_false (by omega)
      simp (disch := omega) only [r_L_money_50, r_L_money_51, r_L_money_52, up2_o, up2_e, iN_ap, iN_up, i_ix, i_inb, i_lt, i_lt0, i_0lt, i_eq, i_ne0, i_00, i_11, i_01, i_10, i_b, i_rem2, n_rem, i_add, i_mul, i_sub, i_div, i_max, i_min, rdk_0, rdk_3, kp_none, kp_int, kp_ref, kp_long, kp_double, aK_v, aK_0, aK_ite, if_true, if_false, and_self, and_true, true_and, or_false, false_or, not_true_eq_false, not_false_eq_true, ite_self, ↓reduceIte, eq_self, Bool.false_eq_true, w0]
    rw [e1]
    exact lz_fixm hZ H h1 hh hk ht hb
  · have e1 : ex 113 50 [some (.ref 0), some (.int (nI 4)), some (.int x), some (.int y), some (.ref 144), some (.ref 145), some (.ref 146), some (.ref 147), some (.ref 148), some (.ref 149), some (.ref 151), some (.int (nI (h))), some (.int (nI (k))), some (.int (nI (4 * h + k))), some (.int (nI (t))), some (.int (nI (b))), none, none] [] (Z, iN N, L, u) = ex 113 344 [some (.ref 0), some (.int (nI 4)), some (.int x), some (.int y), some (.ref 144), some (.ref 145), some (.ref 146), some (.ref 147), some (.ref 148), some (.ref 149), some (.ref 151), some (.int (nI (h))), some (.int (nI (k))), some (.int (nI (4 * h + k))), some (.int (nI (t))), some (.int (nI (b))), none, none] [] (Z, iN N, L, u) := by
      have w0 : ((4:Nat) < 3) = False := eq_false (by omega)
      have w1 : ((4:Nat) = 3) = False := eq_false (by omega)
      simp (disch := omega) only [r_L_money_50, r_L_money_51, r_L_money_52, r_L_money_161, r_L_money_162, r_L_money_163, up2_o, up2_e, iN_ap, iN_up, i_ix, i_inb, i_lt, i_lt0, i_0lt, i_eq, i_ne0, i_00, i_11, i_01, i_10, i_b, i_rem2, n_rem, i_add, i_mul, i_sub, i_div, i_max, i_min, rdk_0, rdk_3, kp_none, kp_int, kp_ref, kp_long, kp_double, aK_v, aK_0, aK_ite, if_true, if_false, and_self, and_true, true_and, or_false, false_or, not_true_eq_false, not_false_eq_true, ite_self, ↓reduceIte, eq_self, Bool.false_eq_true, w0, w1]
    rw [e1]
    exact lz_clmm hZ H h1 hh hk ht hb
  · have e1 : ex 113 50 [some (.ref 0), some (.int (nI 5)), some (.int x), some (.int y), some (.ref 144), some (.ref 145), some (.ref 146), some (.ref 147), some (.ref 148), some (.ref 149), some (.ref 151), some (.int (nI (h))), some (.int (nI (k))), some (.int (nI (4 * h + k))), some (.int (nI (t))), some (.int (nI (b))), none, none] [] (Z, iN N, L, u) = ex 113 480 [some (.ref 0), some (.int (nI 5)), some (.int x), some (.int y), some (.ref 144), some (.ref 145), some (.ref 146), some (.ref 147), some (.ref 148), some (.ref 149), some (.ref 151), some (.int (nI (h))), some (.int (nI (k))), some (.int (nI (4 * h + k))), some (.int (nI (t))), some (.int (nI (b))), none, none] [] (Z, iN N, L, u) := by
      have w0 : ((5:Nat) < 3) = False := eq_false (by omega)
      have w1 : ((5:Nat) = 3) = False := eq_false (by omega)
      have w2 : ((5:Nat) = 4) = False := eq_false (by omega)
      simp (disch := omega) only [r_L_money_50, r_L_money_51, r_L_money_52, r_L_money_161, r_L_money_162, r_L_money_163, r_L_money_344, r_L_money_345, r_L_money_346, up2_o, up2_e, iN_ap, iN_up, i_ix, i_inb, i_lt, i_lt0, i_0lt, i_eq, i_ne0, i_00, i_11, i_01, i_10, i_b, i_rem2, n_rem, i_add, i_mul, i_sub, i_div, i_max, i_min, rdk_0, rdk_3, kp_none, kp_int, kp_ref, kp_long, kp_double, aK_v, aK_0, aK_ite, if_true, if_false, and_self, and_true, true_and, or_false, false_or, not_true_eq_false, not_false_eq_true, ite_self, ↓reduceIte, eq_self, Bool.false_eq_true, w0, w1, w2]
    rw [e1]
    exact lz_relm hZ H h1 hh hk ht hb
end Ly
