/-! the law asks of houses and modules -/
theorem pl_hk {h k : Nat} (hk : k < 4) : pl (4 * h + k) = 6 * h + k := by
  unfold pl
  omega
theorem sum4 {f : Nat → Nat} {a : Nat} : sumN f a 4 = f a + f (a + 1) + f (a + 2) + f (a + 3) := by
  show (((0 + f (a + 0)) + f (a + 1)) + f (a + 2)) + f (a + 3) = _
  rw [Nat.zero_add, Nat.add_zero]
section Lo
variable {Z : aZ} {N : Nat → Nat → Nat} {L : Nat → Nat → Int64} {u : Nat × Nat} {S : aSt} {B : Nat → Nat} {o : Nat}
theorem lz_s12 {m : Nat} (hZ : LZ Z) (H : LW N S B o) (hm : m < 12) : ex 102 0 [some (.ref 146), some (.int (nI (4 * m)))] [] (Z, iN N, L, u) = some (.inl (some (.int (nI (sumN (S.1.1 12) (pl m * 4) 4)))), (Z, iN N, L, u)) := by
  have k := lz_sum (N := N) (L := L) (u := u) (fr := 4 * m) hZ.2.1.2.2.1.1 hZ.2.1.2.2.1.2 (by omega) (by omega)
  have s := H.1.2.2.2.2.2 m hm
  have s0 := s 0 (by omega)
  have s1 := s 1 (by omega)
  have s2 := s 2 (by omega)
  have s3 := s 3 (by omega)
  rw [k, sum4, s1, s2, s3]
  rw [Nat.add_zero, Nat.add_zero] at s0
  rw [s0]
theorem lz_s13 {m : Nat} (hZ : LZ Z) (H : LW N S B o) (hm : m < 12) : ex 102 0 [some (.ref 147), some (.int (nI (4 * m)))] [] (Z, iN N, L, u) = some (.inl (some (.int (nI (sumN (S.1.1 13) (pl m * 4) 4)))), (Z, iN N, L, u)) := by
  have k := lz_sum (N := N) (L := L) (u := u) (fr := 4 * m) hZ.2.2.1.1 hZ.2.2.1.2 (by omega) (by omega)
  have s := H.2.1.1 m hm
  have s0 := s 0 (by omega)
  have s1 := s 1 (by omega)
  have s2 := s 2 (by omega)
  have s3 := s 3 (by omega)
  rw [k, sum4, s1, s2, s3]
  rw [Nat.add_zero, Nat.add_zero] at s0
  rw [s0]
theorem lz_hsh {h k : Nat} {a7 a8 a9 a10 a11 : Option Value} {z12 z15 : Int32} (hZ : LZ Z) (H : LW N S B o) (hh : h < S.1.1 0 1) (hk : k < S.1.1 3 h) : ∀ (n t : Nat), t + n = 4 →
    ex 105 343 [some (.ref 0), some (.ref 144), some (.ref 145), some (.ref 146), some (.ref 147), some (.ref 151), some (.int (nI h)), a7, a8, a9, a10, a11, some (.int z12), some (.int (nI k)), some (.int (nI (4 * h + k))), some (.int z15), some (.int (nI t))] [] (Z, iN N, L, u) =
    ex 105 33 [some (.ref 0), some (.ref 144), some (.ref 145), some (.ref 146), some (.ref 147), some (.ref 151), some (.int (nI h)), a7, a8, a9, a10, a11, some (.int z12), some (.int (nI (k + 1))), some (.int (nI (4 * h + k))), some (.int z15), some (.int (nI 4))] [] (Z, iN N, L, u)
  | 0, t, e => by
    have et : t = 4 := by omega
    subst et
    simp (disch := omega) only [r_L_houses_343, r_L_houses_345, r_L_houses_346, r_L_houses_404, r_L_houses_407, up2_o, up2_e, iN_ap, iN_up, i_ix, i_inb, i_lt, i_lt0, i_0lt, i_eq, i_ne0, i_00, i_11, i_01, i_10, i_b, i_rem2, n_rem, i_add, i_mul, i_sub, i_div, i_max, i_min, rdk_0, rdk_3, kp_none, kp_int, kp_ref, kp_long, kp_double, aK_v, aK_0, aK_ite, if_true, if_false, and_self, and_true, true_and, or_false, false_or, not_true_eq_false, not_false_eq_true, ite_self, ↓reduceIte, eq_self, Bool.false_eq_true, Nat.lt_irrefl]
  | n + 1, t, e => by
    have q : t < 4 := by omega
    have z0 := hZ.1.1.1
    have h1 := H.2.2.2.2.1.1
    have h3 := H.2.2.2.2.1.2 h (by omega)
    have hm : 4 * h + k < 12 := by omega
    have s1 := H.1.2.2.2.2.2 (4 * h + k) hm t q
    have s2 := H.2.1.1 (4 * h + k) hm t q
    rw [pl_hk (by omega)] at s1 s2
    have q0 : ex 72 0 [some (.ref 0), some (.int (nI h)), some (.int (nI k)), some (.int (nI t)), some (.int (nI 0)), none] [] (Z, iN N, L, u) = some (.inl (some (.int (nI (S.1.1 12 ((6 * h + k) * 4 + t))))), (Z, iN N, L, u)) := ce_share (w := 0) hZ.1 H.2.2.1 H.2.2.2.1 hh hk q (by omega)
    have q1 : ex 72 0 [some (.ref 0), some (.int (nI h)), some (.int (nI k)), some (.int (nI t)), some (.int (nI 1)), none] [] (Z, iN N, L, u) = some (.inl (some (.int (nI (S.1.1 13 ((6 * h + k) * 4 + t))))), (Z, iN N, L, u)) := ce_share (w := 1) hZ.1 H.2.2.1 H.2.2.2.1 hh hk q (by omega)
    have ih := lz_hsh (a7 := a7) (a8 := a8) (a9 := a9) (a10 := a10) (a11 := a11) (z12 := z12) (z15 := z15) hZ H hh hk n (t + 1) (by omega)
    have hA := hZ.2.1
    obtain ⟨k7, l7⟩ := hZ.2.2.1
    rw [← ih, r_L_houses_343]
    simp (disch := omega) only [r_L_houses_345, r_L_houses_346, r_L_houses_349, r_L_houses_350, r_L_houses_352, r_L_houses_354, r_L_houses_356, r_L_houses_357, r_L_houses_360, r_L_houses_361, r_L_houses_362, r_L_houses_364, r_L_houses_365, r_L_houses_367, r_L_houses_368, r_L_houses_369, r_L_houses_372, r_L_houses_373, r_L_houses_375, r_L_houses_377, r_L_houses_379, r_L_houses_380, r_L_houses_383, r_L_houses_385, r_L_houses_386, r_L_houses_388, r_L_houses_389, r_L_houses_391, r_L_houses_392, r_L_houses_393, r_L_houses_396, r_L_houses_397, r_L_houses_398, r_L_houses_401, up2_o, up2_e, iN_ap, iN_up, i_ix, i_inb, i_lt, i_lt0, i_0lt, i_eq, i_ne0, i_00, i_11, i_01, i_10, i_b, i_rem2, n_rem, i_add, i_mul, i_sub, i_div, i_max, i_min, rdk_0, rdk_3, kp_none, kp_int, kp_ref, kp_long, kp_double, aK_v, aK_0, aK_ite, if_true, if_false, and_self, and_true, true_and, or_false, false_or, not_true_eq_false, not_false_eq_true, ite_self, ↓reduceIte, eq_self, Bool.false_eq_true, hA.1.1, hA.1.2, hA.2.1.1, hA.2.1.2, hA.2.2.1.1, hA.2.2.1.2, hA.2.2.2.1.1, hA.2.2.2.1.2, hA.2.2.2.2.1.1, hA.2.2.2.2.1.2, hA.2.2.2.2.2.1, hA.2.2.2.2.2.2, k7, l7, q, z0, q0, q1, s1, s2]
theorem lz_hmod {h k st : Nat} {a7 a8 a9 a10 a11 a16 : Option Value} {z12 : Int32} (hZ : LZ Z) (H : LW N S B o) (hh : h < S.1.1 0 1) (hk : k < S.1.1 3 h) (hst : stg S.1.1 (6 * h + k) = st) :
    ex 105 155 [some (.ref 0), some (.ref 144), some (.ref 145), some (.ref 146), some (.ref 147), some (.ref 151), some (.int (nI h)), a7, a8, a9, a10, a11, some (.int z12), some (.int (nI k)), some (.int (nI (4 * h + k))), some (.int (nI st)), a16] [] (Z, iN N, L, u) =
    ex 105 33 [some (.ref 0), some (.ref 144), some (.ref 145), some (.ref 146), some (.ref 147), some (.ref 151), some (.int (nI h)), a7, a8, a9, a10, a11, some (.int z12), some (.int (nI (k + 1))), some (.int (nI (4 * h + k))), some (.int (nI st)), some (.int (nI 4))] [] (Z, iN N, L, u) := by
  have z0 := hZ.1.1.1
  have h1 := H.2.2.2.2.1.1
  have h3 := H.2.2.2.2.1.2 h (by omega)
  have hm : 4 * h + k < 12 := by omega
  have hp : pl (4 * h + k) = 6 * h + k := pl_hk (by omega)
  have hst2 : st ≤ 2 := by rw [← hst]; exact stg_le
  obtain ⟨f0, f1, f2, f3, f4, f5, f6⟩ := H.1.2.2.2.1 (4 * h + k) hm
  have g2 := (H.1.2.2.2.2.1 (4 * h + k) hm).2
  rw [hp] at f0 f1 f2 f3 f4 f5 f6 g2
  rw [hst] at f2
  have e12 := lz_s12 (L := L) (u := u) hZ H hm
  have e13 := lz_s13 (L := L) (u := u) hZ H hm
  rw [hp] at e12 e13
  have md : ∀ w v, w ≤ 8 → aMn S.1.1 (6 * h + k) w = v → ex 71 0 [some (.ref 0), some (.int (nI h)), some (.int (nI k)), some (.int (nI w)), none] [] (Z, iN N, L, u) = some (.inl (some (.int (nI v))), (Z, iN N, L, u)) := fun w v hw hv => by
    rw [← hv]
    exact ce_module hZ.1 H.2.2.1 H.2.2.2.1 hh hk hw
  have m0 := md 0 _ (by omega) rfl
  have m1 := md 1 _ (by omega) rfl
  have m2 := md 2 _ (by omega) hst
  have m3 := md 3 _ (by omega) rfl
  have m4 := md 4 _ (by omega) rfl
  have m5 := md 5 _ (by omega) rfl
  have m6 := md 6 _ (by omega) rfl
  have m7 := md 7 _ (by omega) rfl
  have m8 := md 8 _ (by omega) rfl
  have k0 : aMn S.1.1 (6 * h + k) 0 = S.1.1 6 (6 * h + k) := rfl
  have k1 : aMn S.1.1 (6 * h + k) 1 = S.1.1 7 (6 * h + k) := rfl
  have k3 : aMn S.1.1 (6 * h + k) 3 = S.1.1 8 (6 * h + k) := rfl
  have k4 : aMn S.1.1 (6 * h + k) 4 = S.1.1 9 (6 * h + k) := rfl
  have k5 : aMn S.1.1 (6 * h + k) 5 = sumN (S.1.1 12) ((6 * h + k) * 4) 4 := rfl
  have k6 : aMn S.1.1 (6 * h + k) 6 = S.1.1 10 (6 * h + k) := rfl
  have k7 : aMn S.1.1 (6 * h + k) 7 = sumN (S.1.1 13) ((6 * h + k) * 4) 4 := rfl
  have k8 : aMn S.1.1 (6 * h + k) 8 = S.1.1 11 (6 * h + k) := rfl
  rw [k0] at m0
  rw [k1] at m1
  rw [k3] at m3
  rw [k4] at m4
  rw [k5] at m5
  rw [k6] at m6
  rw [k7] at m7
  rw [k8] at m8
  have hA := hZ.2.1
  have sl := lz_hsh (L := L) (u := u) (a7 := a7) (a8 := a8) (a9 := a9) (a10 := a10) (a11 := a11) (z12 := z12) (z15 := nI st) hZ H hh hk 4 0 rfl
  rw [← sl]
  have hd6 : (6 * h + k) / 6 = h ∧ (6 * h + k) % 6 = k := by omega
  by_cases q : st = 0
  · have r8 : S.1.1 8 (6 * h + k) = 4294967295 := by
      refine (H.2.2.2.1.1.1.2.2.2.2.1 (6 * h + k) (by omega)).1 ?_
      rw [hd6.1, hd6.2]
      unfold stg at hst
      rw [hd6.1, hd6.2] at hst
      split at hst
      · omega
      · split at hst
        · omega
        · omega
    rw [r8] at m3
    simp (disch := omega) only [r_L_houses_155, r_L_houses_156, r_L_houses_158, r_L_houses_160, r_L_houses_161, r_L_houses_164, r_L_houses_165, r_L_houses_166, r_L_houses_168, r_L_houses_169, r_L_houses_170, r_L_houses_173, r_L_houses_174, r_L_houses_176, r_L_houses_178, r_L_houses_179, r_L_houses_182, r_L_houses_183, r_L_houses_184, r_L_houses_186, r_L_houses_187, r_L_houses_188, r_L_houses_189, r_L_houses_190, r_L_houses_193, r_L_houses_194, r_L_houses_196, r_L_houses_198, r_L_houses_199, r_L_houses_202, r_L_houses_204, r_L_houses_207, r_L_houses_208, r_L_houses_210, r_L_houses_212, r_L_houses_213, r_L_houses_216, r_L_houses_218, r_L_houses_221, r_L_houses_222, r_L_houses_225, r_L_houses_226, r_L_houses_227, r_L_houses_229, r_L_houses_230, r_L_houses_231, r_L_houses_232, r_L_houses_233, r_L_houses_236, r_L_houses_237, r_L_houses_239, r_L_houses_241, r_L_houses_242, r_L_houses_245, r_L_houses_246, r_L_houses_247, r_L_houses_249, r_L_houses_250, r_L_houses_251, r_L_houses_254, r_L_houses_255, r_L_houses_257, r_L_houses_259, r_L_houses_260, r_L_houses_263, r_L_houses_264, r_L_houses_265, r_L_houses_267, r_L_houses_268, r_L_houses_271, r_L_houses_274, r_L_houses_275, r_L_houses_277, r_L_houses_279, r_L_houses_281, r_L_houses_284, r_L_houses_285, r_L_houses_286, r_L_houses_288, r_L_houses_289, r_L_houses_290, r_L_houses_291, r_L_houses_292, r_L_houses_295, r_L_houses_296, r_L_houses_298, r_L_houses_300, r_L_houses_302, r_L_houses_305, r_L_houses_307, r_L_houses_308, r_L_houses_310, r_L_houses_311, r_L_houses_314, r_L_houses_317, r_L_houses_318, r_L_houses_320, r_L_houses_322, r_L_houses_324, r_L_houses_327, r_L_houses_328, r_L_houses_329, r_L_houses_331, r_L_houses_332, r_L_houses_333, r_L_houses_334, r_L_houses_335, r_L_houses_338, r_L_houses_339, r_L_houses_340, r_L_houses_341, up2_o, up2_e, iN_ap, iN_up, i_ix, i_inb, i_lt, i_lt0, i_0lt, i_eq, i_ne0, i_00, i_11, i_01, i_10, i_b, i_rem2, n_rem, i_add, i_mul, i_sub, i_div, i_max, i_min, rdk_0, rdk_3, kp_none, kp_int, kp_ref, kp_long, kp_double, aK_v, aK_0, aK_ite, if_true, if_false, and_self, and_true, true_and, or_false, false_or, not_true_eq_false, not_false_eq_true, ite_self, ↓reduceIte, eq_self, Bool.false_eq_true, hA.1.1, hA.1.2, hA.2.1.1, hA.2.1.2, hA.2.2.1.1, hA.2.2.1.2, hA.2.2.2.1.1, hA.2.2.2.1.2, hA.2.2.2.2.1.1, hA.2.2.2.2.1.2, hA.2.2.2.2.2.1, hA.2.2.2.2.2.2, kp_int, z0, m0, m1, m2, m3, m4, m5, m6, m7, m8, f0, f1, f4, f5, f6, e12, e13, q, nM1]
  · have g2 := g2 (by
      unfold stg at hst
      rw [hd6.1, hd6.2] at hst ⊢
      split at hst
      · have := (H.2.2.2.1.1.1.2.1 h (by omega)).1
        omega
      · split at hst
        · assumption
        · omega)
    simp (disch := omega) only [r_L_houses_155, r_L_houses_156, r_L_houses_158, r_L_houses_160, r_L_houses_161, r_L_houses_164, r_L_houses_165, r_L_houses_166, r_L_houses_168, r_L_houses_169, r_L_houses_170, r_L_houses_173, r_L_houses_174, r_L_houses_176, r_L_houses_178, r_L_houses_179, r_L_houses_182, r_L_houses_183, r_L_houses_184, r_L_houses_186, r_L_houses_187, r_L_houses_188, r_L_houses_189, r_L_houses_190, r_L_houses_193, r_L_houses_194, r_L_houses_196, r_L_houses_198, r_L_houses_199, r_L_houses_202, r_L_houses_204, r_L_houses_207, r_L_houses_208, r_L_houses_210, r_L_houses_212, r_L_houses_213, r_L_houses_216, r_L_houses_218, r_L_houses_221, r_L_houses_222, r_L_houses_225, r_L_houses_226, r_L_houses_227, r_L_houses_229, r_L_houses_230, r_L_houses_231, r_L_houses_232, r_L_houses_233, r_L_houses_236, r_L_houses_237, r_L_houses_239, r_L_houses_241, r_L_houses_242, r_L_houses_245, r_L_houses_246, r_L_houses_247, r_L_houses_249, r_L_houses_250, r_L_houses_251, r_L_houses_254, r_L_houses_255, r_L_houses_257, r_L_houses_259, r_L_houses_260, r_L_houses_263, r_L_houses_264, r_L_houses_265, r_L_houses_267, r_L_houses_268, r_L_houses_271, r_L_houses_274, r_L_houses_275, r_L_houses_277, r_L_houses_279, r_L_houses_281, r_L_houses_284, r_L_houses_285, r_L_houses_286, r_L_houses_288, r_L_houses_289, r_L_houses_290, r_L_houses_291, r_L_houses_292, r_L_houses_295, r_L_houses_296, r_L_houses_298, r_L_houses_300, r_L_houses_302, r_L_houses_305, r_L_houses_307, r_L_houses_308, r_L_houses_310, r_L_houses_311, r_L_houses_314, r_L_houses_317, r_L_houses_318, r_L_houses_320, r_L_houses_322, r_L_houses_324, r_L_houses_327, r_L_houses_328, r_L_houses_329, r_L_houses_331, r_L_houses_332, r_L_houses_333, r_L_houses_334, r_L_houses_335, r_L_houses_338, r_L_houses_339, r_L_houses_340, r_L_houses_341, up2_o, up2_e, iN_ap, iN_up, i_ix, i_inb, i_lt, i_lt0, i_0lt, i_eq, i_ne0, i_00, i_11, i_01, i_10, i_b, i_rem2, n_rem, i_add, i_mul, i_sub, i_div, i_max, i_min, rdk_0, rdk_3, kp_none, kp_int, kp_ref, kp_long, kp_double, aK_v, aK_0, aK_ite, if_true, if_false, and_self, and_true, true_and, or_false, false_or, not_true_eq_false, not_false_eq_true, ite_self, ↓reduceIte, eq_self, Bool.false_eq_true, hA.1.1, hA.1.2, hA.2.1.1, hA.2.1.2, hA.2.2.1.1, hA.2.2.1.2, hA.2.2.2.1.1, hA.2.2.2.1.2, hA.2.2.2.2.1.1, hA.2.2.2.2.1.2, hA.2.2.2.2.2.1, hA.2.2.2.2.2.2, kp_int, z0, m0, m1, m2, m3, m4, m5, m6, m7, m8, f0, f1, f4, f5, f6, g2, e12, e13, q, nM1]
end Lo
