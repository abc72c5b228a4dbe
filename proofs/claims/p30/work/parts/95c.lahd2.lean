/-! what would be, whole -/
theorem n_no {a b : Nat} (h : b ≤ a) : (a < b) = False := eq_false (by omega)
section Lv
variable {Z : aZ} {N : Nat → Nat → Nat} {L : Nat → Nat → Int64} {u : Nat × Nat} {S : aSt} {B : Nat → Nat} {o y : Nat}
theorem lz_bloop {x z12 z13 z14 : Int32} {h : Nat} {a19 : Option Value} (hZ : LZ Z) (H : LW N S B o) (hh : h < S.1.1 0 1) (h4 : S.1.1 4 h < S.1.1 3 h) : ∀ (n e : Nat), e = S.1.1 0 0 + n → n ≤ 100 →
    ex 109 254 [some (.ref 0), some (.int x), some (.ref 144), some (.ref 145), some (.ref 146), some (.ref 149), some (.ref 150), some (.ref 151), some (.ref y), some (.ref (y + 1)), some (.ref (y + 2)), some (.ref (y + 3)), some (.int z12), some (.int z13), some (.int z14), some (.int (nI (h))), some (.int (nI (S.1.1 4 h))), some (.int (nI (aBf S.1.1 S.1.2 (h * 6 + S.1.1 4 h) (min (S.1.1 0 0 + 100) 1000 - e) e))), some (.int (nI (e + 4294967295))), a19] [] (Z, iN N, L, u) =
    ex 109 366 [some (.ref 0), some (.int x), some (.ref 144), some (.ref 145), some (.ref 146), some (.ref 149), some (.ref 150), some (.ref 151), some (.ref y), some (.ref (y + 1)), some (.ref (y + 2)), some (.ref (y + 3)), some (.int z12), some (.int z13), some (.int z14), some (.int (nI (h))), some (.int (nI (S.1.1 4 h))), some (.int (nI (aBf S.1.1 S.1.2 (h * 6 + S.1.1 4 h) (min (S.1.1 0 0 + 100) 1000 - S.1.1 0 0) (S.1.1 0 0)))), some (.int (nI (S.1.1 0 0 + 4294967295))), a19] [] (Z, iN N, L, u)
  | 0, e, he, _ => by
    have ee : e = S.1.1 0 0 := by omega
    subst ee
    have hA := hZ.2.1
    have ht := H.2.2.2.1.1.2
    have c1 := H.1.1.2.1
    have za : (nI (S.1.1 0 0 + 4294967295) < nI (S.1.1 0 0)) = True := by
      rw [lz_af (by omega) (by omega)]
      exact eq_true (Nat.le_refl _)
    rw [r_L_ahead_254]
    simp (disch := omega) only [r_L_ahead_256, r_L_ahead_258, r_L_ahead_259, r_L_ahead_260, up2_o, up2_e, iN_ap, iN_up, i_ix, i_inb, i_lt, i_lt0, i_0lt, i_eq, i_ne0, i_00, i_11, i_01, i_10, i_b, i_rem2, n_rem, i_add, i_mul, i_sub, i_div, i_max, i_min, rdk_0, rdk_3, kp_none, kp_int, kp_ref, kp_long, kp_double, aK_v, aK_0, aK_ite, if_true, if_false, and_self, and_true, true_and, or_false, false_or, not_true_eq_false, not_false_eq_true, ite_self, ↓reduceIte, eq_self, Bool.false_eq_true, hA.1.1, hA.1.2, hA.2.1.1, hA.2.1.2, hA.2.2.1.1, hA.2.2.1.2, hA.2.2.2.1.1, hA.2.2.2.1.2, hA.2.2.2.2.1.1, hA.2.2.2.2.1.2, hA.2.2.2.2.2.1, hA.2.2.2.2.2.2, c1, za]
  | n + 1, e, he, hn => by
    have hA := hZ.2.1
    have ht := H.2.2.2.1.1.2
    have hw := H.2.2.2.1.1.1
    have h3 := H.2.2.2.2.1
    have h31 := h3.1
    have h33 := h3.2 h (by omega)
    have c1 := H.1.1.2.1
    have c4 := H.1.1.2.2.2.2 h (by omega)
    have c3 := H.1.1.2.2.2.1
    have hb := LW_LB H
    obtain ⟨d, hd⟩ : ∃ d, d = S.1.1 0 0 + n := ⟨_, rfl⟩
    have ed : e = d + 1 := by omega
    subst ed
    have ih := lz_bloop (x := x) (z12 := z12) (z13 := z13) (z14 := z14) (a19 := a19) hZ H hh h4 n d hd (by omega)
    rw [nI_wr]
    have k1 : ¬ d < S.1.1 0 0 := by omega
    obtain ⟨p, hp⟩ : ∃ p, p = h * 6 + S.1.1 4 h := ⟨_, rfl⟩
    rw [← hp] at ih ⊢
    have hm : 4 * h + S.1.1 4 h < 12 := by omega
    have hpm : pl (4 * h + S.1.1 4 h) = p := by rw [pl_hk (by omega)]; omega
    have f0 := (H.1.2.2.2.1 _ hm).1
    rw [hpm] at f0
    have w6 := (hw.2.2.1 p (by omega)).1
    have hp6 : p % 6 = S.1.1 4 h ∧ p / 6 = h := by omega
    by_cases q1 : d < 1000
    · have e0 : aBf S.1.1 S.1.2 p (min (S.1.1 0 0 + 100) 1000 - d) d = if aOpen S.1.1 S.1.2 p d = true ∧ aLift S.1.1 p d = true then d else aBf S.1.1 S.1.2 p (min (S.1.1 0 0 + 100) 1000 - (d + 1)) (d + 1) := by
        rw [show min (S.1.1 0 0 + 100) 1000 - d = (min (S.1.1 0 0 + 100) 1000 - (d + 1)) + 1 by omega]
        rfl
      obtain ⟨bst, hbst⟩ : ∃ bst, bst = aBf S.1.1 S.1.2 p (min (S.1.1 0 0 + 100) 1000 - (d + 1)) (d + 1) := ⟨_, rfl⟩
      rw [← hbst] at e0 ⊢
      have no : ¬ (aOpen S.1.1 S.1.2 p d = true ∧ aLift S.1.1 p d = true) → ex 109 360 [some (.ref 0), some (.int x), some (.ref 144), some (.ref 145), some (.ref 146), some (.ref 149), some (.ref 150), some (.ref 151), some (.ref y), some (.ref (y + 1)), some (.ref (y + 2)), some (.ref (y + 3)), some (.int z12), some (.int z13), some (.int z14), some (.int (nI (h))), some (.int (nI (S.1.1 4 h))), some (.int (nI (bst))), some (.int (nI (d))), a19] [] (Z, iN N, L, u) = ex 109 366 [some (.ref 0), some (.int x), some (.ref 144), some (.ref 145), some (.ref 146), some (.ref 149), some (.ref 150), some (.ref 151), some (.ref y), some (.ref (y + 1)), some (.ref (y + 2)), some (.ref (y + 3)), some (.int z12), some (.int z13), some (.int z14), some (.int (nI (h))), some (.int (nI (S.1.1 4 h))), some (.int (nI (aBf S.1.1 S.1.2 p (min (S.1.1 0 0 + 100) 1000 - S.1.1 0 0) (S.1.1 0 0)))), some (.int (nI (S.1.1 0 0 + 4294967295))), a19] [] (Z, iN N, L, u) := fun z => by
        rw [if_neg z] at e0
        rw [e0] at ih
        rw [← ih]
        simp (disch := omega) only [r_L_ahead_360, r_L_ahead_363, up2_o, up2_e, iN_ap, iN_up, i_ix, i_inb, i_lt, i_lt0, i_0lt, i_eq, i_ne0, i_00, i_11, i_01, i_10, i_b, i_rem2, n_rem, i_add, i_mul, i_sub, i_div, i_max, i_min, rdk_0, rdk_3, kp_none, kp_int, kp_ref, kp_long, kp_double, aK_v, aK_0, aK_ite, if_true, if_false, and_self, and_true, true_and, or_false, false_or, not_true_eq_false, not_false_eq_true, ite_self, ↓reduceIte, eq_self, Bool.false_eq_true, kp_int, nM1]
      have yes : (aOpen S.1.1 S.1.2 p d = true ∧ aLift S.1.1 p d = true) → ex 109 356 [some (.ref 0), some (.int x), some (.ref 144), some (.ref 145), some (.ref 146), some (.ref 149), some (.ref 150), some (.ref 151), some (.ref y), some (.ref (y + 1)), some (.ref (y + 2)), some (.ref (y + 3)), some (.int z12), some (.int z13), some (.int z14), some (.int (nI (h))), some (.int (nI (S.1.1 4 h))), some (.int (nI (bst))), some (.int (nI (d))), a19] [] (Z, iN N, L, u) = ex 109 366 [some (.ref 0), some (.int x), some (.ref 144), some (.ref 145), some (.ref 146), some (.ref 149), some (.ref 150), some (.ref 151), some (.ref y), some (.ref (y + 1)), some (.ref (y + 2)), some (.ref (y + 3)), some (.int z12), some (.int z13), some (.int z14), some (.int (nI (h))), some (.int (nI (S.1.1 4 h))), some (.int (nI (aBf S.1.1 S.1.2 p (min (S.1.1 0 0 + 100) 1000 - S.1.1 0 0) (S.1.1 0 0)))), some (.int (nI (S.1.1 0 0 + 4294967295))), a19] [] (Z, iN N, L, u) := fun z => by
        rw [if_pos z] at e0
        rw [e0] at ih
        rw [← ih]
        simp (disch := omega) only [r_L_ahead_356, r_L_ahead_358, r_L_ahead_360, r_L_ahead_363, up2_o, up2_e, iN_ap, iN_up, i_ix, i_inb, i_lt, i_lt0, i_0lt, i_eq, i_ne0, i_00, i_11, i_01, i_10, i_b, i_rem2, n_rem, i_add, i_mul, i_sub, i_div, i_max, i_min, rdk_0, rdk_3, kp_none, kp_int, kp_ref, kp_long, kp_double, aK_v, aK_0, aK_ite, if_true, if_false, and_self, and_true, true_and, or_false, false_or, not_true_eq_false, not_false_eq_true, ite_self, ↓reduceIte, eq_self, Bool.false_eq_true, kp_int, nM1]
      have rm := lz_room (N := N) (L := L) (u := u) (m := 4 * h + S.1.1 4 h) (d := d) hA hb (by omega) hm (by have := H.1.2.2.1 0 (by omega); have := hw.1.2.2.2.1; omega) (by have := H.1.2.2.1 1 (by omega); have := hw.1.2.2.2.2.2.1; omega)
      obtain ⟨lc0, lc1⟩ := lLd_cnt H.1 hw.2.1 h3 (l := S.1.2) (fun z hz => by have := (hw.2.2.2.2.2.2.1 z).mp hz; exact ⟨this.1, this.2.2⟩) hw.2.2.2.2.2.1 (fun z hz => stg_1 hw hz) d
      have hroom : lRm N 144 151 (4 * h + S.1.1 4 h) d = true ↔ cnt S.1.1 S.1.2 d < S.1.1 2 0 ∧ wgt S.1.1 S.1.2 d + S.1.1 6 p ≤ S.1.1 2 1 := by
        rw [lRm_iff, lc0, lc1, f0, H.1.2.2.1 0 (by omega), H.1.2.2.1 1 (by omega)]
      have lw := lz_wind (N := N) (L := L) (u := u) (d := d) hA hb (by omega)
      have w9 : N 150 (d % N 151 3) = aWind S.1.1 d := by
        unfold aWind
        rw [c3]
        exact H.1.2.1 _ (Nat.mod_lt _ hw.1.1.2.1)
      rw [w9] at lw
      have w99 : aWind S.1.1 d ≤ 9 := hw.1.2.1 _ (by have := Nat.mod_lt d (show S.1.1 0 2 > 0 from hw.1.1.2.1); have := hw.1.1.2.2; omega)
      have hlift : aLift S.1.1 p d = true ↔ aWind S.1.1 d ≤ 8 - 2 * S.1.1 6 p := by
        unfold aLift
        exact Iff.of_eq Nat.ble_eq
      have prev : S.1.1 4 h ≠ 0 → N 144 (5 * (4 * h + S.1.1 4 h - 1) + 3) = S.1.1 8 (p - 1) := fun z => by
        have g := (H.1.2.2.2.2.1 (4 * h + S.1.1 4 h - 1) (by omega)).2
        rw [show 4 * h + S.1.1 4 h - 1 = 4 * h + (S.1.1 4 h - 1) by omega, pl_hk (by omega), show 6 * h + (S.1.1 4 h - 1) = p - 1 by omega] at g
        rw [show 4 * h + S.1.1 4 h - 1 = 4 * h + (S.1.1 4 h - 1) by omega]
        exact g (by rw [show (p - 1) / 6 = h by omega]; omega)
      have pb : S.1.1 4 h ≠ 0 → S.1.1 8 (p - 1) < 2000 := fun z => by
        rw [← prev z]
        exact (hb.2.2.1 (4 * h + S.1.1 4 h - 1) (by omega)).2.2.1
      have tail : (S.1.1 4 h = 0 ∨ S.1.1 8 (p - 1) ≤ d) → ex 109 308 [some (.ref 0), some (.int x), some (.ref 144), some (.ref 145), some (.ref 146), some (.ref 149), some (.ref 150), some (.ref 151), some (.ref y), some (.ref (y + 1)), some (.ref (y + 2)), some (.ref (y + 3)), some (.int z12), some (.int z13), some (.int z14), some (.int (nI (h))), some (.int (nI (S.1.1 4 h))), some (.int (nI (bst))), some (.int (nI (d))), a19] [] (Z, iN N, L, u) = ex 109 366 [some (.ref 0), some (.int x), some (.ref 144), some (.ref 145), some (.ref 146), some (.ref 149), some (.ref 150), some (.ref 151), some (.ref y), some (.ref (y + 1)), some (.ref (y + 2)), some (.ref (y + 3)), some (.int z12), some (.int z13), some (.int z14), some (.int (nI (h))), some (.int (nI (S.1.1 4 h))), some (.int (nI (aBf S.1.1 S.1.2 p (min (S.1.1 0 0 + 100) 1000 - S.1.1 0 0) (S.1.1 0 0)))), some (.int (nI (S.1.1 0 0 + 4294967295))), a19] [] (Z, iN N, L, u) := fun z => by
        by_cases r : lRm N 144 151 (4 * h + S.1.1 4 h) d = true
        · have hop : aOpen S.1.1 S.1.2 p d = true := aOpen_iff.mpr ⟨by omega, hroom.mp r⟩
          by_cases w : 8 - 2 * S.1.1 6 p < aWind S.1.1 d
          · rw [← no (fun v => by have := hlift.mp v.2; omega)]
            simp (disch := omega) only [r_L_ahead_308, r_L_ahead_309, r_L_ahead_311, r_L_ahead_312, r_L_ahead_314, r_L_ahead_315, r_L_ahead_317, r_L_ahead_318, r_L_ahead_320, r_L_ahead_322, r_L_ahead_325, r_L_ahead_328, r_L_ahead_330, r_L_ahead_332, r_L_ahead_334, r_L_ahead_337, r_L_ahead_339, r_L_ahead_340, r_L_ahead_341, r_L_ahead_342, r_L_ahead_343, r_L_ahead_345, r_L_ahead_346, r_L_ahead_348, r_L_ahead_349, r_L_ahead_350, r_L_ahead_351, r_L_ahead_352, r_L_ahead_353, up2_o, up2_e, iN_ap, iN_up, i_ix, i_inb, i_lt, i_lt0, i_0lt, i_eq, i_ne0, i_00, i_11, i_01, i_10, i_b, i_rem2, n_rem, i_add, i_mul, i_sub, i_div, i_max, i_min, rdk_0, rdk_3, kp_none, kp_int, kp_ref, kp_long, kp_double, aK_v, aK_0, aK_ite, if_true, if_false, and_self, and_true, true_and, or_false, false_or, not_true_eq_false, not_false_eq_true, ite_self, ↓reduceIte, eq_self, Bool.false_eq_true, hA.1.1, hA.1.2, hA.2.1.1, hA.2.1.2, hA.2.2.1.1, hA.2.2.1.2, hA.2.2.2.1.1, hA.2.2.2.1.2, hA.2.2.2.2.1.1, hA.2.2.2.2.1.2, hA.2.2.2.2.2.1, hA.2.2.2.2.2.2, rm, r, lw, f0, w]
          · rw [← yes ⟨hop, hlift.mpr (by omega)⟩]
            simp (disch := omega) only [r_L_ahead_308, r_L_ahead_309, r_L_ahead_311, r_L_ahead_312, r_L_ahead_314, r_L_ahead_315, r_L_ahead_317, r_L_ahead_318, r_L_ahead_320, r_L_ahead_322, r_L_ahead_325, r_L_ahead_328, r_L_ahead_330, r_L_ahead_332, r_L_ahead_334, r_L_ahead_337, r_L_ahead_339, r_L_ahead_340, r_L_ahead_341, r_L_ahead_342, r_L_ahead_343, r_L_ahead_345, r_L_ahead_346, r_L_ahead_348, r_L_ahead_349, r_L_ahead_350, r_L_ahead_351, r_L_ahead_352, r_L_ahead_353, up2_o, up2_e, iN_ap, iN_up, i_ix, i_inb, i_lt, i_lt0, i_0lt, i_eq, i_ne0, i_00, i_11, i_01, i_10, i_b, i_rem2, n_rem, i_add, i_mul, i_sub, i_div, i_max, i_min, rdk_0, rdk_3, kp_none, kp_int, kp_ref, kp_long, kp_double, aK_v, aK_0, aK_ite, if_true, if_false, and_self, and_true, true_and, or_false, false_or, not_true_eq_false, not_false_eq_true, ite_self, ↓reduceIte, eq_self, Bool.false_eq_true, hA.1.1, hA.1.2, hA.2.1.1, hA.2.1.2, hA.2.2.1.1, hA.2.2.1.2, hA.2.2.2.1.1, hA.2.2.2.1.2, hA.2.2.2.2.1.1, hA.2.2.2.2.1.2, hA.2.2.2.2.2.1, hA.2.2.2.2.2.2, rm, r, lw, f0, w]
        · rw [← no (fun v => r (hroom.mpr (aOpen_iff.mp v.1).2))]
          simp (disch := omega) only [r_L_ahead_308, r_L_ahead_309, r_L_ahead_311, r_L_ahead_312, r_L_ahead_314, r_L_ahead_315, r_L_ahead_317, r_L_ahead_318, r_L_ahead_320, r_L_ahead_322, r_L_ahead_325, r_L_ahead_328, r_L_ahead_330, r_L_ahead_332, r_L_ahead_334, r_L_ahead_337, r_L_ahead_339, r_L_ahead_340, r_L_ahead_341, r_L_ahead_342, r_L_ahead_343, r_L_ahead_345, r_L_ahead_346, r_L_ahead_348, r_L_ahead_349, r_L_ahead_350, r_L_ahead_351, r_L_ahead_352, r_L_ahead_353, up2_o, up2_e, iN_ap, iN_up, i_ix, i_inb, i_lt, i_lt0, i_0lt, i_eq, i_ne0, i_00, i_11, i_01, i_10, i_b, i_rem2, n_rem, i_add, i_mul, i_sub, i_div, i_max, i_min, rdk_0, rdk_3, kp_none, kp_int, kp_ref, kp_long, kp_double, aK_v, aK_0, aK_ite, if_true, if_false, and_self, and_true, true_and, or_false, false_or, not_true_eq_false, not_false_eq_true, ite_self, ↓reduceIte, eq_self, Bool.false_eq_true, hA.1.1, hA.1.2, hA.2.1.1, hA.2.1.2, hA.2.2.1.1, hA.2.2.1.2, hA.2.2.2.1.1, hA.2.2.2.1.2, hA.2.2.2.2.1.1, hA.2.2.2.2.1.2, hA.2.2.2.2.2.1, hA.2.2.2.2.2.2, rm, r]
      by_cases z : S.1.1 4 h = 0
      · rw [← tail (Or.inl z)]
        have zz : (nI (S.1.1 4 h) = 0) = True := by rw [z]; exact i_00
        rw [r_L_ahead_254]
        simp (disch := omega) only [r_L_ahead_256, r_L_ahead_258, r_L_ahead_259, r_L_ahead_260, r_L_ahead_263, r_L_ahead_265, r_L_ahead_267, r_L_ahead_268, r_L_ahead_270, r_L_ahead_271, r_L_ahead_272, r_L_ahead_275, r_L_ahead_277, r_L_ahead_280, r_L_ahead_283, r_L_ahead_285, up2_o, up2_e, iN_ap, iN_up, i_ix, i_inb, i_lt, i_lt0, i_0lt, i_eq, i_ne0, i_00, i_11, i_01, i_10, i_b, i_rem2, n_rem, i_add, i_mul, i_sub, i_div, i_max, i_min, rdk_0, rdk_3, kp_none, kp_int, kp_ref, kp_long, kp_double, aK_v, aK_0, aK_ite, if_true, if_false, and_self, and_true, true_and, or_false, false_or, not_true_eq_false, not_false_eq_true, ite_self, ↓reduceIte, eq_self, Bool.false_eq_true, hA.1.1, hA.1.2, hA.2.1.1, hA.2.1.2, hA.2.2.1.1, hA.2.2.1.2, hA.2.2.2.1.1, hA.2.2.2.1.2, hA.2.2.2.2.1.1, hA.2.2.2.2.1.2, hA.2.2.2.2.2.1, hA.2.2.2.2.2.2, c1, c4, k1, h4, q1, zz]
      · have pr := prev z
        have pb := pb z
        have zz : (nI (S.1.1 4 h) = 0) = False := i_ne0 (by omega) (by omega)
        by_cases v : d < S.1.1 8 (p - 1)
        · rw [← no (fun w => by have := (aOpen_iff.mp w.1).1; omega), r_L_ahead_254]
          simp (disch := omega) only [r_L_ahead_256, r_L_ahead_258, r_L_ahead_259, r_L_ahead_260, r_L_ahead_263, r_L_ahead_265, r_L_ahead_267, r_L_ahead_268, r_L_ahead_270, r_L_ahead_271, r_L_ahead_272, r_L_ahead_275, r_L_ahead_277, r_L_ahead_280, r_L_ahead_283, r_L_ahead_285, r_L_ahead_288, r_L_ahead_290, r_L_ahead_291, r_L_ahead_292, r_L_ahead_293, r_L_ahead_295, r_L_ahead_296, r_L_ahead_298, r_L_ahead_299, r_L_ahead_300, r_L_ahead_301, r_L_ahead_302, r_L_ahead_303, r_L_ahead_304, r_L_ahead_305, up2_o, up2_e, iN_ap, iN_up, i_ix, i_inb, i_lt, i_lt0, i_0lt, i_eq, i_ne0, i_00, i_11, i_01, i_10, i_b, i_rem2, n_rem, i_add, i_mul, i_sub, i_div, i_max, i_min, rdk_0, rdk_3, kp_none, kp_int, kp_ref, kp_long, kp_double, aK_v, aK_0, aK_ite, if_true, if_false, and_self, and_true, true_and, or_false, false_or, not_true_eq_false, not_false_eq_true, ite_self, ↓reduceIte, eq_self, Bool.false_eq_true, hA.1.1, hA.1.2, hA.2.1.1, hA.2.1.2, hA.2.2.1.1, hA.2.2.1.2, hA.2.2.2.1.1, hA.2.2.2.1.2, hA.2.2.2.2.1.1, hA.2.2.2.2.1.2, hA.2.2.2.2.2.1, hA.2.2.2.2.2.2, c1, c4, k1, h4, q1, zz, pr, v]
        · rw [← tail (Or.inr (by omega)), r_L_ahead_254]
          simp (disch := omega) only [r_L_ahead_256, r_L_ahead_258, r_L_ahead_259, r_L_ahead_260, r_L_ahead_263, r_L_ahead_265, r_L_ahead_267, r_L_ahead_268, r_L_ahead_270, r_L_ahead_271, r_L_ahead_272, r_L_ahead_275, r_L_ahead_277, r_L_ahead_280, r_L_ahead_283, r_L_ahead_285, r_L_ahead_288, r_L_ahead_290, r_L_ahead_291, r_L_ahead_292, r_L_ahead_293, r_L_ahead_295, r_L_ahead_296, r_L_ahead_298, r_L_ahead_299, r_L_ahead_300, r_L_ahead_301, r_L_ahead_302, r_L_ahead_303, r_L_ahead_304, r_L_ahead_305, up2_o, up2_e, iN_ap, iN_up, i_ix, i_inb, i_lt, i_lt0, i_0lt, i_eq, i_ne0, i_00, i_11, i_01, i_10, i_b, i_rem2, n_rem, i_add, i_mul, i_sub, i_div, i_max, i_min, rdk_0, rdk_3, kp_none, kp_int, kp_ref, kp_long, kp_double, aK_v, aK_0, aK_ite, if_true, if_false, and_self, and_true, true_and, or_false, false_or, not_true_eq_false, not_false_eq_true, ite_self, ↓reduceIte, eq_self, Bool.false_eq_true, hA.1.1, hA.1.2, hA.2.1.1, hA.2.1.2, hA.2.2.1.1, hA.2.2.1.2, hA.2.2.2.1.1, hA.2.2.2.1.2, hA.2.2.2.2.1.1, hA.2.2.2.2.1.2, hA.2.2.2.2.2.1, hA.2.2.2.2.2.2, c1, c4, k1, h4, q1, zz, pr, v]
    · rw [show min (S.1.1 0 0 + 100) 1000 - d = 0 by omega] at ih
      rw [show min (S.1.1 0 0 + 100) 1000 - (d + 1) = 0 by omega]
      rw [← ih, r_L_ahead_254]
      have e0 : ∀ e, aBf S.1.1 S.1.2 p 0 e = 4294967295 := fun _ => rfl
      rw [e0, e0]
      simp (disch := omega) only [r_L_ahead_256, r_L_ahead_258, r_L_ahead_259, r_L_ahead_260, r_L_ahead_263, r_L_ahead_265, r_L_ahead_267, r_L_ahead_268, r_L_ahead_270, r_L_ahead_271, r_L_ahead_272, r_L_ahead_275, r_L_ahead_277, r_L_ahead_280, r_L_ahead_360, r_L_ahead_363, up2_o, up2_e, iN_ap, iN_up, i_ix, i_inb, i_lt, i_lt0, i_0lt, i_eq, i_ne0, i_00, i_11, i_01, i_10, i_b, i_rem2, n_rem, i_add, i_mul, i_sub, i_div, i_max, i_min, rdk_0, rdk_3, kp_none, kp_int, kp_ref, kp_long, kp_double, aK_v, aK_0, aK_ite, if_true, if_false, and_self, and_true, true_and, or_false, false_or, not_true_eq_false, not_false_eq_true, ite_self, ↓reduceIte, eq_self, Bool.false_eq_true, hA.1.1, hA.1.2, hA.2.1.1, hA.2.1.2, hA.2.2.1.1, hA.2.2.1.2, hA.2.2.2.1.1, hA.2.2.2.1.2, hA.2.2.2.2.1.1, hA.2.2.2.2.1.2, hA.2.2.2.2.2.1, hA.2.2.2.2.2.2, kp_int, nM1, c1, c4, k1, h4, q1]
theorem lz_then {x z12 z13 z14 z16 z17 : Int32} {h : Nat} {R' : aY} (hZ : LZ Z) (hA2 : LA Z y (y + 1) (y + 2) (y + 3)) (H : LW N S B o) (h2 : LM N y (y + 1) (y + 2) (y + 3) R' (stg R') B o) (hh : h < S.1.1 0 1) (e4 : ∀ i, R' 4 i = S.1.1 4 i) (e5 : S.1.1 5 h ≤ R' 5 h) (e54 : R' 5 h ≤ R' 4 h) : ∀ (n e : Nat), e + n = S.1.1 3 h →
    ex 109 372 [some (.ref 0), some (.int x), some (.ref 144), some (.ref 145), some (.ref 146), some (.ref 149), some (.ref 150), some (.ref 151), some (.ref y), some (.ref (y + 1)), some (.ref (y + 2)), some (.ref (y + 3)), some (.int z12), some (.int z13), some (.int z14), some (.int (nI (h))), some (.int z16), some (.int z17), some (.int (nI (min e (R' 5 h) - min e (S.1.1 5 h)))), some (.int (nI (e)))] [] (Z, iN N, L, u) =
    ex 109 435 [some (.ref 0), some (.int x), some (.ref 144), some (.ref 145), some (.ref 146), some (.ref 149), some (.ref 150), some (.ref 151), some (.ref y), some (.ref (y + 1)), some (.ref (y + 2)), some (.ref (y + 3)), some (.int z12), some (.int z13), some (.int z14), some (.int (nI (h))), some (.int z16), some (.int z17), some (.int (nI (R' 5 h - S.1.1 5 h))), some (.int (nI (S.1.1 3 h)))] [] (Z, iN N, L, u)
  | 0, e, he => by
    have ee : e = S.1.1 3 h := by omega
    subst ee
    have hA := hZ.2.1
    have h31 := H.2.2.2.2.1.1
    have h33 := H.2.2.2.2.1.2 h (by omega)
    have c4 := H.1.1.2.2.2.2 h (by omega)
    have w1 := H.2.2.2.1.1.1.2.1 h (by omega)
    rw [e4] at e54
    rw [show min (S.1.1 3 h) (R' 5 h) - min (S.1.1 3 h) (S.1.1 5 h) = R' 5 h - S.1.1 5 h by omega, r_L_ahead_372]
    simp (disch := omega) only [r_L_ahead_374, r_L_ahead_376, r_L_ahead_377, r_L_ahead_379, r_L_ahead_380, r_L_ahead_381, up2_o, up2_e, iN_ap, iN_up, i_ix, i_inb, i_lt, i_lt0, i_0lt, i_eq, i_ne0, i_00, i_11, i_01, i_10, i_b, i_rem2, n_rem, i_add, i_mul, i_sub, i_div, i_max, i_min, rdk_0, rdk_3, kp_none, kp_int, kp_ref, kp_long, kp_double, aK_v, aK_0, aK_ite, if_true, if_false, and_self, and_true, true_and, or_false, false_or, not_true_eq_false, not_false_eq_true, ite_self, ↓reduceIte, eq_self, Bool.false_eq_true, hA.1.1, hA.1.2, hA.2.1.1, hA.2.1.2, hA.2.2.1.1, hA.2.2.1.2, hA.2.2.2.1.1, hA.2.2.2.1.2, hA.2.2.2.2.1.1, hA.2.2.2.2.1.2, hA.2.2.2.2.2.1, hA.2.2.2.2.2.2, c4, Nat.lt_irrefl]
  | n + 1, e, he => by
    have hA := hZ.2.1
    have he3 : e < S.1.1 3 h := by omega
    have h31 := H.2.2.2.2.1.1
    have h33 := H.2.2.2.2.1.2 h (by omega)
    have c4 := H.1.1.2.2.2.2 h (by omega)
    have w1 := H.2.2.2.1.1.1.2.1 h (by omega)
    have hm : 4 * h + e < 12 := by omega
    have f1 := (H.1.2.2.2.1 _ hm).2.2.1
    have f2 := (h2.2.2.2.1 _ hm).2.2.1
    rw [pl_hk (by omega), stg_hk (by omega)] at f1 f2
    have ih := lz_then (x := x) (z12 := z12) (z13 := z13) (z14 := z14) (z16 := z16) (z17 := z17) hZ hA2 H h2 hh e4 e5 e54 n (e + 1) (by omega)
    rw [← ih, r_L_ahead_372]
    by_cases q2 : e < R' 5 h
    · rw [if_pos q2] at f2
      by_cases q1 : e < S.1.1 5 h
      · rw [if_pos q1] at f1
        rw [show min (e + 1) (R' 5 h) - min (e + 1) (S.1.1 5 h) = min e (R' 5 h) - min e (S.1.1 5 h) by omega]
        simp (disch := omega) only [r_L_ahead_374, r_L_ahead_376, r_L_ahead_377, r_L_ahead_379, r_L_ahead_380, r_L_ahead_381, r_L_ahead_384, r_L_ahead_386, r_L_ahead_388, r_L_ahead_389, r_L_ahead_390, r_L_ahead_392, r_L_ahead_393, r_L_ahead_395, r_L_ahead_396, r_L_ahead_397, r_L_ahead_398, r_L_ahead_399, r_L_ahead_400, r_L_ahead_401, r_L_ahead_404, r_L_ahead_405, r_L_ahead_406, r_L_ahead_407, r_L_ahead_409, r_L_ahead_410, r_L_ahead_412, r_L_ahead_413, r_L_ahead_414, r_L_ahead_415, r_L_ahead_416, r_L_ahead_417, r_L_ahead_418, r_L_ahead_421, r_L_ahead_422, r_L_ahead_425, r_L_ahead_426, r_L_ahead_427, r_L_ahead_429, r_L_ahead_432, up2_o, up2_e, iN_ap, iN_up, i_ix, i_inb, i_lt, i_lt0, i_0lt, i_eq, i_ne0, i_00, i_11, i_01, i_10, i_b, i_rem2, n_rem, i_add, i_mul, i_sub, i_div, i_max, i_min, rdk_0, rdk_3, kp_none, kp_int, kp_ref, kp_long, kp_double, aK_v, aK_0, aK_ite, if_true, if_false, and_self, and_true, true_and, or_false, false_or, not_true_eq_false, not_false_eq_true, ite_self, ↓reduceIte, eq_self, Bool.false_eq_true, hA.1.1, hA.1.2, hA.2.1.1, hA.2.1.2, hA.2.2.1.1, hA.2.2.1.2, hA.2.2.2.1.1, hA.2.2.2.1.2, hA.2.2.2.2.1.1, hA.2.2.2.2.1.2, hA.2.2.2.2.2.1, hA.2.2.2.2.2.2, hA2.1.1, hA2.1.2, hA2.2.1.1, hA2.2.1.2, hA2.2.2.1.1, hA2.2.2.1.2, hA2.2.2.2.1.1, hA2.2.2.2.1.2, hA2.2.2.2.2.1.1, hA2.2.2.2.2.1.2, hA2.2.2.2.2.2.1, hA2.2.2.2.2.2.2, kp_int, c4, he3, f1, f2, Nat.add_zero]
      · rw [if_neg q1] at f1
        rw [show min (e + 1) (R' 5 h) - min (e + 1) (S.1.1 5 h) = min e (R' 5 h) - min e (S.1.1 5 h) + 1 by omega]
        have g1 : N 144 (5 * (4 * h + e) + 2) ≤ 1 := by
          rw [f1]
          split <;> omega
        have g2 : (nI (N 144 (5 * (4 * h + e) + 2)) = nI 2) = False := by
          rw [i_eq (by omega) (by omega)]
          exact eq_false (by omega)
        clear f1
        simp (disch := omega) only [r_L_ahead_374, r_L_ahead_376, r_L_ahead_377, r_L_ahead_379, r_L_ahead_380, r_L_ahead_381, r_L_ahead_384, r_L_ahead_386, r_L_ahead_388, r_L_ahead_389, r_L_ahead_390, r_L_ahead_392, r_L_ahead_393, r_L_ahead_395, r_L_ahead_396, r_L_ahead_397, r_L_ahead_398, r_L_ahead_399, r_L_ahead_400, r_L_ahead_401, r_L_ahead_404, r_L_ahead_405, r_L_ahead_406, r_L_ahead_407, r_L_ahead_409, r_L_ahead_410, r_L_ahead_412, r_L_ahead_413, r_L_ahead_414, r_L_ahead_415, r_L_ahead_416, r_L_ahead_417, r_L_ahead_418, r_L_ahead_421, r_L_ahead_422, r_L_ahead_425, r_L_ahead_426, r_L_ahead_427, r_L_ahead_429, r_L_ahead_432, up2_o, up2_e, iN_ap, iN_up, i_ix, i_inb, i_lt, i_lt0, i_0lt, i_eq, i_ne0, i_00, i_11, i_01, i_10, i_b, i_rem2, n_rem, i_add, i_mul, i_sub, i_div, i_max, i_min, rdk_0, rdk_3, kp_none, kp_int, kp_ref, kp_long, kp_double, aK_v, aK_0, aK_ite, if_true, if_false, and_self, and_true, true_and, or_false, false_or, not_true_eq_false, not_false_eq_true, ite_self, ↓reduceIte, eq_self, Bool.false_eq_true, hA.1.1, hA.1.2, hA.2.1.1, hA.2.1.2, hA.2.2.1.1, hA.2.2.1.2, hA.2.2.2.1.1, hA.2.2.2.1.2, hA.2.2.2.2.1.1, hA.2.2.2.2.1.2, hA.2.2.2.2.2.1, hA.2.2.2.2.2.2, hA2.1.1, hA2.1.2, hA2.2.1.1, hA2.2.1.2, hA2.2.2.1.1, hA2.2.2.1.2, hA2.2.2.2.1.1, hA2.2.2.2.1.2, hA2.2.2.2.2.1.1, hA2.2.2.2.2.1.2, hA2.2.2.2.2.2.1, hA2.2.2.2.2.2.2, kp_int, c4, he3, f2, g2]
    · rw [if_neg q2] at f2
      rw [show min (e + 1) (R' 5 h) - min (e + 1) (S.1.1 5 h) = min e (R' 5 h) - min e (S.1.1 5 h) by omega]
      have g1 : N y (5 * (4 * h + e) + 2) ≤ 1 := by
        rw [f2]
        split <;> omega
      have g2 : (nI (N y (5 * (4 * h + e) + 2)) = nI 2) = False := by
        rw [i_eq (by omega) (by omega)]
        exact eq_false (by omega)
      clear f2
      simp (disch := omega) only [r_L_ahead_374, r_L_ahead_376, r_L_ahead_377, r_L_ahead_379, r_L_ahead_380, r_L_ahead_381, r_L_ahead_384, r_L_ahead_386, r_L_ahead_388, r_L_ahead_389, r_L_ahead_390, r_L_ahead_392, r_L_ahead_393, r_L_ahead_395, r_L_ahead_396, r_L_ahead_397, r_L_ahead_398, r_L_ahead_399, r_L_ahead_400, r_L_ahead_401, r_L_ahead_404, r_L_ahead_405, r_L_ahead_406, r_L_ahead_407, r_L_ahead_409, r_L_ahead_410, r_L_ahead_412, r_L_ahead_413, r_L_ahead_414, r_L_ahead_415, r_L_ahead_416, r_L_ahead_417, r_L_ahead_418, r_L_ahead_421, r_L_ahead_422, r_L_ahead_425, r_L_ahead_426, r_L_ahead_427, r_L_ahead_429, r_L_ahead_432, up2_o, up2_e, iN_ap, iN_up, i_ix, i_inb, i_lt, i_lt0, i_0lt, i_eq, i_ne0, i_00, i_11, i_01, i_10, i_b, i_rem2, n_rem, i_add, i_mul, i_sub, i_div, i_max, i_min, rdk_0, rdk_3, kp_none, kp_int, kp_ref, kp_long, kp_double, aK_v, aK_0, aK_ite, if_true, if_false, and_self, and_true, true_and, or_false, false_or, not_true_eq_false, not_false_eq_true, ite_self, ↓reduceIte, eq_self, Bool.false_eq_true, hA.1.1, hA.1.2, hA.2.1.1, hA.2.1.2, hA.2.2.1.1, hA.2.2.1.2, hA.2.2.2.1.1, hA.2.2.2.1.2, hA.2.2.2.2.1.1, hA.2.2.2.2.1.2, hA.2.2.2.2.2.1, hA.2.2.2.2.2.2, hA2.1.1, hA2.1.2, hA2.2.1.1, hA2.2.1.2, hA2.2.2.1.1, hA2.2.2.1.2, hA2.2.2.2.1.1, hA2.2.2.2.1.2, hA2.2.2.2.2.1.1, hA2.2.2.2.2.1.2, hA2.2.2.2.2.2.1, hA2.2.2.2.2.2.2, kp_int, c4, he3, g2, Nat.add_zero]
theorem lz_ahh {x z12 z14 : Int32} {d : Nat} (hd : 1 ≤ d ∧ d ≤ 60) (hy : 152 ≤ y) (hZ : LZ Z) (hA2 : LA Z y (y + 1) (y + 2) (y + 3)) : ∀ (n h : Nat) (N : Nat → Nat → Nat) (a16 a17 a18 a19 : Option Value), h + n = S.1.1 0 1 → LW N S B o → LM N y (y + 1) (y + 2) (y + 3) (aPn d S.1).1 (stg (aPn d S.1).1) B o →
    ∃ N', ex 109 223 [some (.ref 0), some (.int x), some (.ref 144), some (.ref 145), some (.ref 146), some (.ref 149), some (.ref 150), some (.ref 151), some (.ref y), some (.ref (y + 1)), some (.ref (y + 2)), some (.ref (y + 3)), some (.int z12), some (.int (nI (d))), some (.int z14), some (.int (nI (h))), a16, a17, a18, a19] [] (Z, iN N, L, u) = some (.inl (some (.int (nI 1))), (Z, iN N', L, u)) ∧ LW N' S B o
  | 0, h, N, a16, a17, a18, a19, e, H, _ => by
    have eh : h = S.1.1 0 1 := by omega
    subst eh
    have hA := hZ.2.1
    have h31 := H.2.2.2.2.1.1
    have c0 := H.1.1.1
    refine ⟨N, ?_, H⟩
    rw [r_L_ahead_223]
    simp (disch := omega) only [r_L_ahead_225, r_L_ahead_227, r_L_ahead_228, r_L_ahead_229, r_L_ahead_467, r_L_ahead_468, up2_o, up2_e, iN_ap, iN_up, i_ix, i_inb, i_lt, i_lt0, i_0lt, i_eq, i_ne0, i_00, i_11, i_01, i_10, i_b, i_rem2, n_rem, i_add, i_mul, i_sub, i_div, i_max, i_min, rdk_0, rdk_3, kp_none, kp_int, kp_ref, kp_long, kp_double, aK_v, aK_0, aK_ite, if_true, if_false, and_self, and_true, true_and, or_false, false_or, not_true_eq_false, not_false_eq_true, ite_self, ↓reduceIte, eq_self, Bool.false_eq_true, hA.1.1, hA.1.2, hA.2.1.1, hA.2.1.2, hA.2.2.1.1, hA.2.2.1.2, hA.2.2.2.1.1, hA.2.2.2.1.2, hA.2.2.2.2.1.1, hA.2.2.2.2.1.2, hA.2.2.2.2.2.1, hA.2.2.2.2.2.2, c0, Nat.lt_irrefl]
  | n + 1, h, N, a16, a17, a18, a19, e, H, h2 => by
    have hh : h < S.1.1 0 1 := by omega
    have hA := hZ.2.1
    have z0 := hZ.1.1.1
    have ht := H.2.2.2.1.1.2
    have hw := H.2.2.2.1.1.1
    have h3 := H.2.2.2.2.1
    have h31 := h3.1
    have h33 := h3.2 h (by omega)
    have c0 := H.1.1.1
    have c1 := H.1.1.2.1
    have c4 := H.1.1.2.2.2.2 h (by omega)
    have hb := LW_LB H
    have w1 := hw.2.1 h (by omega)
    have nxt := lz_next0 (L := L) (u := u) (h := h) (K := S.1.1 4 h) hA hb (by omega) (by omega) (fun j hj => by
      have f := (H.1.2.2.2.1 (4 * h + j) (by omega)).2.2.1
      rw [pl_hk (by omega), stg_hk (by omega)] at f
      rw [f]
      split
      · omega
      · omega) (by
      by_cases z : S.1.1 4 h = S.1.1 3 h
      · exact Or.inl (z.trans c4.symm)
      · have f := (H.1.2.2.2.1 (4 * h + S.1.1 4 h) (by omega)).2.2.1
        rw [pl_hk (by omega), stg_hk (by omega), if_neg (by omega), if_neg (by omega)] at f
        exact Or.inr f)
    obtain ⟨wp, wp0⟩ := WF_Pn d S.1 hw (by omega)
    have e4 : ∀ i, (aPn d S.1).1 4 i = S.1.1 4 i := fun i => aPn_o (by omega) (by omega) (by omega) (by omega) (by omega) (by omega) d S.1
    have e5 : S.1.1 5 h ≤ (aPn d S.1).1 5 h := aPn_5 h d S.1
    have e54 := (wp.2.1 h (by omega)).1
    obtain ⟨bst, hbst⟩ : ∃ bst, bst = aBs S.1.1 S.1.2 h := ⟨_, rfl⟩
    have g : ∃ b18, ex 109 223 [some (.ref 0), some (.int x), some (.ref 144), some (.ref 145), some (.ref 146), some (.ref 149), some (.ref 150), some (.ref 151), some (.ref y), some (.ref (y + 1)), some (.ref (y + 2)), some (.ref (y + 3)), some (.int z12), some (.int (nI (d))), some (.int z14), some (.int (nI (h))), a16, a17, a18, a19] [] (Z, iN N, L, u) = ex 109 366 [some (.ref 0), some (.int x), some (.ref 144), some (.ref 145), some (.ref 146), some (.ref 149), some (.ref 150), some (.ref 151), some (.ref y), some (.ref (y + 1)), some (.ref (y + 2)), some (.ref (y + 3)), some (.int z12), some (.int (nI (d))), some (.int z14), some (.int (nI (h))), some (.int (nI (S.1.1 4 h))), some (.int (nI (bst))), some (.int b18), a19] [] (Z, iN N, L, u) := by
      by_cases z : S.1.1 3 h ≤ S.1.1 4 h
      · have eb : bst = 4294967295 := by
          rw [hbst]
          unfold aBs
          rw [if_pos z]
        subst eb
        refine ⟨nI (S.1.1 0 0 + 99), ?_⟩
        rw [r_L_ahead_223]
        simp (disch := omega) only [r_L_ahead_225, r_L_ahead_227, r_L_ahead_228, r_L_ahead_229, r_L_ahead_232, r_L_ahead_234, r_L_ahead_235, r_L_ahead_237, r_L_ahead_240, r_L_ahead_242, r_L_ahead_243, r_L_ahead_245, r_L_ahead_247, r_L_ahead_248, r_L_ahead_249, r_L_ahead_251, r_L_ahead_252, r_L_ahead_254, r_L_ahead_256, r_L_ahead_258, r_L_ahead_259, r_L_ahead_260, r_L_ahead_263, r_L_ahead_265, r_L_ahead_267, r_L_ahead_268, r_L_ahead_270, r_L_ahead_271, r_L_ahead_272, up2_o, up2_e, iN_ap, iN_up, i_ix, i_inb, i_lt, i_lt0, i_0lt, i_eq, i_ne0, i_00, i_11, i_01, i_10, i_b, i_rem2, n_rem, i_add, i_mul, i_sub, i_div, i_max, i_min, rdk_0, rdk_3, kp_none, kp_int, kp_ref, kp_long, kp_double, aK_v, aK_0, aK_ite, if_true, if_false, and_self, and_true, true_and, or_false, false_or, not_true_eq_false, not_false_eq_true, ite_self, ↓reduceIte, eq_self, Bool.false_eq_true, hA.1.1, hA.1.2, hA.2.1.1, hA.2.1.2, hA.2.2.1.1, hA.2.2.1.2, hA.2.2.2.1.1, hA.2.2.2.1.2, hA.2.2.2.2.1.1, hA.2.2.2.2.1.2, hA.2.2.2.2.2.1, hA.2.2.2.2.2.2, kp_int, kp_ref, c0, c1, c4, hh, nxt, nM1, n_no z, n_no (show S.1.1 0 0 ≤ S.1.1 0 0 + 99 by omega)]
      · have eb : bst = aBf S.1.1 S.1.2 (h * 6 + S.1.1 4 h) (min (S.1.1 0 0 + 100) 1000 - S.1.1 0 0) (S.1.1 0 0) := by
          rw [hbst]
          unfold aBs
          rw [if_neg z]
        have bl := lz_bloop (L := L) (u := u) (y := y) (x := x) (z12 := z12) (z13 := nI d) (z14 := z14) (a19 := a19) hZ H hh (by omega) 100 (S.1.1 0 0 + 100) rfl (Nat.le_refl _)
        rw [← eb, show min (S.1.1 0 0 + 100) 1000 - (S.1.1 0 0 + 100) = 0 by omega, show S.1.1 0 0 + 100 = S.1.1 0 0 + 99 + 1 by omega, nI_wr, show ∀ p e, aBf S.1.1 S.1.2 p 0 e = 4294967295 from fun _ _ => rfl] at bl
        refine ⟨nI (S.1.1 0 0 + 4294967295), ?_⟩
        rw [← bl, r_L_ahead_223]
        simp (disch := omega) only [r_L_ahead_225, r_L_ahead_227, r_L_ahead_228, r_L_ahead_229, r_L_ahead_232, r_L_ahead_234, r_L_ahead_235, r_L_ahead_237, r_L_ahead_240, r_L_ahead_242, r_L_ahead_243, r_L_ahead_245, r_L_ahead_247, r_L_ahead_248, r_L_ahead_249, r_L_ahead_251, r_L_ahead_252, up2_o, up2_e, iN_ap, iN_up, i_ix, i_inb, i_lt, i_lt0, i_0lt, i_eq, i_ne0, i_00, i_11, i_01, i_10, i_b, i_rem2, n_rem, i_add, i_mul, i_sub, i_div, i_max, i_min, rdk_0, rdk_3, kp_none, kp_int, kp_ref, kp_long, kp_double, aK_v, aK_0, aK_ite, if_true, if_false, and_self, and_true, true_and, or_false, false_or, not_true_eq_false, not_false_eq_true, ite_self, ↓reduceIte, eq_self, Bool.false_eq_true, hA.1.1, hA.1.2, hA.2.1.1, hA.2.1.2, hA.2.2.1.1, hA.2.2.1.2, hA.2.2.2.1.1, hA.2.2.2.1.2, hA.2.2.2.2.1.1, hA.2.2.2.2.1.2, hA.2.2.2.2.2.1, hA.2.2.2.2.2.2, kp_int, kp_ref, c0, c1, c4, hh, nxt, nM1]
    obtain ⟨b18, g⟩ := g
    have th := lz_then (L := L) (u := u) (x := x) (z12 := z12) (z13 := nI d) (z14 := z14) (z16 := nI (S.1.1 4 h)) (z17 := nI bst) hZ hA2 H h2 hh e4 e5 e54 (S.1.1 3 h) 0 (by omega)
    rw [show min 0 ((aPn d S.1).1 5 h) - min 0 (S.1.1 5 h) = 0 by omega] at th
    obtain ⟨N1, k1, k2, k3⟩ := ce_best (L := L) (c := u) hZ.1 H.2.2.1 H.2.2.2.1 hh
    rw [← hbst] at k1
    have H1 := LW_cg H k2 k3
    obtain ⟨N2, j1, j2, j3⟩ := ce_ifp (L := L) (c := u) (n := d) (h := h) hZ.1 H1.2.2.1 H1.2.2.2.1 hd (Or.inr hh)
    have H2 := LW_cg H1 j2 j3
    have ea : aSn (aPn d S.1).1 h - aSn S.1.1 h = (aPn d S.1).1 5 h - S.1.1 5 h := by
      unfold aSn
      rw [if_neg (by omega), if_neg (by omega)]
    rw [ea] at j1
    have h22 := LM_cg (N' := N2) h2 (fun a ha => (j3 a (by omega)).trans (k3 a (by omega)))
    obtain ⟨N', i1, i2⟩ := lz_ahh (x := x) (z12 := z12) (z14 := z14) hd hy hZ hA2 n (h + 1) N2 (some (.int (nI (S.1.1 4 h)))) (some (.int (nI bst))) (some (.int (nI ((aPn d S.1).1 5 h - S.1.1 5 h)))) (some (.int (nI (S.1.1 3 h)))) (by omega) H2 h22
    refine ⟨N', ?_, i2⟩
    rw [g]
    have g2 : ex 109 366 [some (.ref 0), some (.int x), some (.ref 144), some (.ref 145), some (.ref 146), some (.ref 149), some (.ref 150), some (.ref 151), some (.ref y), some (.ref (y + 1)), some (.ref (y + 2)), some (.ref (y + 3)), some (.int z12), some (.int (nI (d))), some (.int z14), some (.int (nI (h))), some (.int (nI (S.1.1 4 h))), some (.int (nI (bst))), some (.int b18), a19] [] (Z, iN N, L, u) = ex 109 372 [some (.ref 0), some (.int x), some (.ref 144), some (.ref 145), some (.ref 146), some (.ref 149), some (.ref 150), some (.ref 151), some (.ref y), some (.ref (y + 1)), some (.ref (y + 2)), some (.ref (y + 3)), some (.int z12), some (.int (nI (d))), some (.int z14), some (.int (nI (h))), some (.int (nI (S.1.1 4 h))), some (.int (nI (bst))), some (.int (nI (0))), some (.int (nI (0)))] [] (Z, iN N, L, u) := by
      simp (disch := omega) only [r_L_ahead_366, r_L_ahead_367, r_L_ahead_369, r_L_ahead_370, up2_o, up2_e, iN_ap, iN_up, i_ix, i_inb, i_lt, i_lt0, i_0lt, i_eq, i_ne0, i_00, i_11, i_01, i_10, i_b, i_rem2, n_rem, i_add, i_mul, i_sub, i_div, i_max, i_min, rdk_0, rdk_3, kp_none, kp_int, kp_ref, kp_long, kp_double, aK_v, aK_0, aK_ite, if_true, if_false, and_self, and_true, true_and, or_false, false_or, not_true_eq_false, not_false_eq_true, ite_self, ↓reduceIte, eq_self, Bool.false_eq_true, kp_int]
    rw [g2, th, ← i1]
    simp (disch := omega) only [r_L_ahead_435, r_L_ahead_436, r_L_ahead_438, r_L_ahead_441, r_L_ahead_443, r_L_ahead_446, r_L_ahead_447, r_L_ahead_449, r_L_ahead_451, r_L_ahead_454, r_L_ahead_456, r_L_ahead_459, r_L_ahead_460, r_L_ahead_461, r_L_ahead_464, up2_o, up2_e, iN_ap, iN_up, i_ix, i_inb, i_lt, i_lt0, i_0lt, i_eq, i_ne0, i_00, i_11, i_01, i_10, i_b, i_rem2, n_rem, i_add, i_mul, i_sub, i_div, i_max, i_min, rdk_0, rdk_3, kp_none, kp_int, kp_ref, kp_long, kp_double, aK_v, aK_0, aK_ite, if_true, if_false, and_self, and_true, true_and, or_false, false_or, not_true_eq_false, not_false_eq_true, ite_self, ↓reduceIte, eq_self, Bool.false_eq_true, kp_int, z0, k1, j1]
end Lv
