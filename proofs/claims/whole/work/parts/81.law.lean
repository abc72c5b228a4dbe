/-! the law, case by case -/
theorem MO_cg {N N' : Nat → Nat → Nat} {S : aSt} {g : Nat} (h : MO N S g) (he : ∀ a, 144 ≤ a → a ≤ 151 → N' a = N a) : MO N' S g := by
  obtain ⟨⟨a, b, d, e, f⟩, r⟩ := h
  refine ⟨⟨by rw [he 145 (by omega) (by omega)]; exact a, by rw [he 144 (by omega) (by omega)]; exact b, ?_, by rw [he 144 (by omega) (by omega)]; exact e, by rw [he 148 (by omega) (by omega)]; exact f⟩, r⟩
  rw [he 147 (by omega) (by omega)]
  exact d
theorem CI_cg {N N' : Nat → Nat → Nat} {S : aSt} (h : CI N S) (he : ∀ a, (a < 144 ∨ 151 < a) → N' a = N a) : CI N' S := by
  obtain ⟨a, b, d, s, e⟩ := h
  refine ⟨CY_congr a (fun x _ _ => he x (by omega)), VS_congr b (fun x _ _ => he x (by omega)), by rw [he 136 (by omega), he 137 (by omega)]; exact d, SH_congr s (fun x j _ _ => by rw [he x (by omega)]), fun i hi => ?_⟩
  rw [he 100001 (by omega), he 100002 (by omega)]
  exact e i hi
def LH (Z : aZ) (N : Nat → Nat → Nat) (S : aSt) (g i Ls : Nat) : Prop := ZC Z ∧ MAt Z ∧ (Z.1 152 = 1 ∧ Z.2.1 152 = 1) ∧ (rdk (Z.1 100000) = true ∧ Z.2.1 100000 = Ls) ∧ (6 * i + 6 ≤ Ls ∧ Ls ≤ 3072) ∧ (∀ j, N 100000 j < 4294967296) ∧ CI N S ∧ MO N S g ∧ SOK S ∧ HSK S ∧ g ≤ 511
def NX (Z : aZ) (N : Nat → Nat → Nat) (c : Nat × Nat) (i g : Nat) (e : Option (aR × aH)) : Prop :=
  ∃ N' L' c' S' a5 a6 a7 a8, e = ex 211 1703 [some (.ref 100000), some (.ref 0), some (.ref 144), some (.ref 152), some (.int (nI (6 * i))), a5, a6, a7, a8] [] (Z, iN N', L', c') ∧ CI N' S' ∧ MO N' S' (g + 1) ∧ SOK S' ∧ HSK S' ∧ N' 100000 = N 100000 ∧ c'.1 ≤ c.1 + 1 ∧ c'.2 ≤ c.2 + 6
theorem NX_mk {Z : aZ} {N N1 N2 : Nat → Nat → Nat} {L1 : Nat → Nat → Int64} {c c1 : Nat × Nat} {i g : Nat} {S' : aSt} {a5 a6 a7 a8 : Option Value} (h1 : CI N1 S') (f : ∀ a, 144 ≤ a → N1 a = N a) (r3 : MV N2 S'.1.1 S'.1.2 S'.2.1 S'.2.2 (g + 1)) (r4 : ∀ a, (a < 144 ∨ 151 < a) → N2 a = N1 a) (hs : SOK S') (hv : HSK S') (hc : c1 = c ∨ c1 = bc c) (hg : g ≤ 511) :
    NX Z N c i g (ex 211 1703 [some (.ref 100000), some (.ref 0), some (.ref 144), some (.ref 152), some (.int (nI (6 * i))), a5, a6, a7, a8] [] (Z, iN N2, L1, c1)) := by
  refine ⟨N2, L1, c1, S', a5, a6, a7, a8, rfl, CI_cg h1 r4, ⟨r3, hs.1.1, hs.1.2, hs.2.1, by omega⟩, hs, hv, ?_, ?_, ?_⟩
  · rw [r4 100000 (by omega), f 100000 (by omega)]
  · rcases hc with rfl | rfl
    · exact Nat.le_succ _
    · exact Nat.le_refl _
  · rcases hc with rfl | rfl
    · exact Nat.le_add_right _ _
    · exact Nat.le_refl _
theorem i64_lt {x : Int64} : (x < x) = False := eq_false Int64.lt_irrefl
section Lc
variable {Z : aZ} {N : Nat → Nat → Nat} {L : Nat → Nat → Int64} {c : Nat × Nat} {S : aSt} {g i Ls : Nat} {a5 a6 a7 a8 : Option Value}
theorem lc_book (H : LH Z N S g i Ls) : NX Z N c i g (ex 211 164 [some (.ref 100000), some (.ref 0), some (.ref 144), some (.ref 152), some (.int (nI (6 * i))), a5, a6, a7, a8] [] (Z, iN N, L, c)) := by
  obtain ⟨hC, hM, ⟨z1, z2⟩, ⟨y0, y1⟩, ⟨k2, k3⟩, k4, hI, hO, hS, hK, hg⟩ := H
  have z0 := hC.1.1
  have z4 := hM.1.1
  have w := w_book z0 z1 z2 (q_book (L := L) (c := c) hC hI hS (k4 (6 * i + 1)) (k4 (6 * i + 2))) (kb3 bd_book rfl rfl rfl)
  have hs : SOK (oBook S (N 100000 (6 * i + 1)) (N 100000 (6 * i + 2))).2.2 := SOK_book hS
  have hv : HSK (oBook S (N 100000 (6 * i + 1)) (N 100000 (6 * i + 2))).2.2 := HSK_book hS hK
  have bo : (oBook S (N 100000 (6 * i + 1)) (N 100000 (6 * i + 2))).1 ≤ 3 := bd_book
  obtain ⟨N1, L1, c1, w1, w2, w3, w4, w5, w6⟩ := w
  have f1 : N1 100000 = N 100000 := w3 _ (by omega)
  obtain ⟨N2, r1, r2, r3, r4⟩ := s_mBook (L := L1) (c := c1) hM (MO_cg hO (fun a h _ => w3 a h)) (k4 (6 * i + 1)) (k4 (6 * i + 2))
  have ht := s_mThrown (N := N2) (L := L1) (c := c1) hM
  rw [r2] at ht
  obtain ⟨o, ho⟩ : ∃ o, o = oBook S (N 100000 (6 * i + 1)) (N 100000 (6 * i + 2)) := ⟨_, rfl⟩
  rw [← ho] at w1 w2 w4 r1 r3 ht hs hv bo
  by_cases q : o.1 = 0
  · have e152 := w4 q
    rw [q] at w1 ht
    simp (disch := omega) only [r_L_law_164, r_L_law_165, r_L_law_166, r_L_law_168, r_L_law_169, r_L_law_170, r_L_law_171, r_L_law_172, r_L_law_174, r_L_law_175, r_L_law_176, r_L_law_177, r_L_law_178, r_L_law_181, r_L_law_183, r_L_law_184, r_L_law_185, r_L_law_187, r_L_law_188, r_L_law_189, r_L_law_190, r_L_law_191, r_L_law_193, r_L_law_194, r_L_law_195, r_L_law_196, r_L_law_199, r_L_law_201, r_L_law_202, r_L_law_205, r_L_law_207, r_L_law_210, r_L_law_211, r_L_law_212, r_L_law_214, r_L_law_217, r_L_law_218, r_L_law_219, r_L_law_220, r_L_law_222, r_L_law_223, r_L_law_224, r_L_law_227, r_L_law_228, r_L_law_229, up2_o, up2_e, iN_ap, iN_up, i_ix, i_inb, i_lt, i_lt0, i_0lt, i_eq, i_ne0, i_00, i_11, i_01, i_10, i_b, i_rem2, n_rem, i_add, i_mul, i_sub, i_div, i_max, i_min, rdk_0, rdk_3, kp_none, kp_int, kp_ref, kp_long, kp_double, aK_v, aK_0, aK_ite, if_true, if_false, and_self, and_true, true_and, or_false, false_or, not_true_eq_false, not_false_eq_true, ite_self, ↓reduceIte, z0, z1, z2, z4, y0, y1, f1, w1, r1, ht, e152, i64_lt, eq_self]
    exact NX_mk w2 w3 r3 r4 hs hv w5 hg
  · simp (disch := omega) only [r_L_law_164, r_L_law_165, r_L_law_166, r_L_law_168, r_L_law_169, r_L_law_170, r_L_law_171, r_L_law_172, r_L_law_174, r_L_law_175, r_L_law_176, r_L_law_177, r_L_law_178, r_L_law_181, r_L_law_183, r_L_law_184, r_L_law_185, r_L_law_187, r_L_law_188, r_L_law_189, r_L_law_190, r_L_law_191, r_L_law_193, r_L_law_194, r_L_law_195, r_L_law_196, r_L_law_199, r_L_law_201, r_L_law_202, r_L_law_205, r_L_law_207, r_L_law_210, r_L_law_211, r_L_law_212, r_L_law_214, r_L_law_217, r_L_law_218, r_L_law_219, r_L_law_220, r_L_law_222, r_L_law_223, r_L_law_224, r_L_law_227, r_L_law_228, r_L_law_229, up2_o, up2_e, iN_ap, iN_up, i_ix, i_inb, i_lt, i_lt0, i_0lt, i_eq, i_ne0, i_00, i_11, i_01, i_10, i_b, i_rem2, n_rem, i_add, i_mul, i_sub, i_div, i_max, i_min, rdk_0, rdk_3, kp_none, kp_int, kp_ref, kp_long, kp_double, aK_v, aK_0, aK_ite, if_true, if_false, and_self, and_true, true_and, or_false, false_or, not_true_eq_false, not_false_eq_true, ite_self, ↓reduceIte, z0, z1, z2, z4, y0, y1, f1, w1, r1, ht, q, eq_self]
    exact NX_mk w2 w3 r3 r4 hs hv w5 hg
theorem lc_unbook (H : LH Z N S g i Ls) : NX Z N c i g (ex 211 232 [some (.ref 100000), some (.ref 0), some (.ref 144), some (.ref 152), some (.int (nI (6 * i))), a5, a6, a7, a8] [] (Z, iN N, L, c)) := by
  obtain ⟨hC, hM, ⟨z1, z2⟩, ⟨y0, y1⟩, ⟨k2, k3⟩, k4, hI, hO, hS, hK, hg⟩ := H
  have z0 := hC.1.1
  have z4 := hM.1.1
  have w := w_unbook z0 z1 z2 (q_unbook (L := L) (c := c) hC hI hS (k4 (6 * i + 1))) (kb2 bd_unbook rfl rfl)
  have hs : SOK (oUnb S (N 100000 (6 * i + 1))).2.2 := SOK_unb hS
  have hv : HSK (oUnb S (N 100000 (6 * i + 1))).2.2 := HSK_unbook hS hK
  have bo : (oUnb S (N 100000 (6 * i + 1))).1 ≤ 2 := bd_unbook
  obtain ⟨N1, L1, c1, w1, w2, w3, w4, w5, w6⟩ := w
  have f1 : N1 100000 = N 100000 := w3 _ (by omega)
  obtain ⟨N2, r1, r2, r3, r4⟩ := s_mUnbook (L := L1) (c := c1) hM (MO_cg hO (fun a h _ => w3 a h)) (k4 (6 * i + 1))
  have ht := s_mThrown (N := N2) (L := L1) (c := c1) hM
  rw [r2] at ht
  obtain ⟨o, ho⟩ : ∃ o, o = oUnb S (N 100000 (6 * i + 1)) := ⟨_, rfl⟩
  rw [← ho] at w1 w2 w4 r1 r3 ht hs hv bo
  by_cases q : o.1 = 0
  · have e152 := w4 q
    rw [q] at w1 ht
    simp (disch := omega) only [r_L_law_232, r_L_law_233, r_L_law_234, r_L_law_236, r_L_law_237, r_L_law_238, r_L_law_239, r_L_law_240, r_L_law_243, r_L_law_245, r_L_law_246, r_L_law_247, r_L_law_249, r_L_law_250, r_L_law_251, r_L_law_252, r_L_law_255, r_L_law_257, r_L_law_258, r_L_law_261, r_L_law_263, r_L_law_266, r_L_law_267, r_L_law_268, r_L_law_270, r_L_law_273, r_L_law_274, r_L_law_275, r_L_law_276, r_L_law_278, r_L_law_279, r_L_law_280, r_L_law_283, r_L_law_284, r_L_law_285, up2_o, up2_e, iN_ap, iN_up, i_ix, i_inb, i_lt, i_lt0, i_0lt, i_eq, i_ne0, i_00, i_11, i_01, i_10, i_b, i_rem2, n_rem, i_add, i_mul, i_sub, i_div, i_max, i_min, rdk_0, rdk_3, kp_none, kp_int, kp_ref, kp_long, kp_double, aK_v, aK_0, aK_ite, if_true, if_false, and_self, and_true, true_and, or_false, false_or, not_true_eq_false, not_false_eq_true, ite_self, ↓reduceIte, z0, z1, z2, z4, y0, y1, f1, w1, r1, ht, e152, i64_lt, eq_self]
    exact NX_mk w2 w3 r3 r4 hs hv w5 hg
  · simp (disch := omega) only [r_L_law_232, r_L_law_233, r_L_law_234, r_L_law_236, r_L_law_237, r_L_law_238, r_L_law_239, r_L_law_240, r_L_law_243, r_L_law_245, r_L_law_246, r_L_law_247, r_L_law_249, r_L_law_250, r_L_law_251, r_L_law_252, r_L_law_255, r_L_law_257, r_L_law_258, r_L_law_261, r_L_law_263, r_L_law_266, r_L_law_267, r_L_law_268, r_L_law_270, r_L_law_273, r_L_law_274, r_L_law_275, r_L_law_276, r_L_law_278, r_L_law_279, r_L_law_280, r_L_law_283, r_L_law_284, r_L_law_285, up2_o, up2_e, iN_ap, iN_up, i_ix, i_inb, i_lt, i_lt0, i_0lt, i_eq, i_ne0, i_00, i_11, i_01, i_10, i_b, i_rem2, n_rem, i_add, i_mul, i_sub, i_div, i_max, i_min, rdk_0, rdk_3, kp_none, kp_int, kp_ref, kp_long, kp_double, aK_v, aK_0, aK_ite, if_true, if_false, and_self, and_true, true_and, or_false, false_or, not_true_eq_false, not_false_eq_true, ite_self, ↓reduceIte, z0, z1, z2, z4, y0, y1, f1, w1, r1, ht, q, eq_self]
    exact NX_mk w2 w3 r3 r4 hs hv w5 hg
theorem lc_set (H : LH Z N S g i Ls) : NX Z N c i g (ex 211 288 [some (.ref 100000), some (.ref 0), some (.ref 144), some (.ref 152), some (.int (nI (6 * i))), a5, a6, a7, a8] [] (Z, iN N, L, c)) := by
  obtain ⟨hC, hM, ⟨z1, z2⟩, ⟨y0, y1⟩, ⟨k2, k3⟩, k4, hI, hO, hS, hK, hg⟩ := H
  have z0 := hC.1.1
  have z4 := hM.1.1
  have w := w_set z0 z1 z2 (q_set (L := L) (c := c) hC hI hS (k4 (6 * i + 1)) (k4 (6 * i + 2))) (kb2 bd_set rfl rfl)
  have hs : SOK (oSet S (N 100000 (6 * i + 1)) (N 100000 (6 * i + 2))).2.2 := SOK_set hS
  have hv : HSK (oSet S (N 100000 (6 * i + 1)) (N 100000 (6 * i + 2))).2.2 := HSK_set hS hK
  have bo : (oSet S (N 100000 (6 * i + 1)) (N 100000 (6 * i + 2))).1 ≤ 2 := bd_set
  obtain ⟨N1, L1, c1, w1, w2, w3, w4, w5, w6⟩ := w
  have f1 : N1 100000 = N 100000 := w3 _ (by omega)
  obtain ⟨N2, r1, r2, r3, r4⟩ := s_mSetg (L := L1) (c := c1) hM (MO_cg hO (fun a h _ => w3 a h)) (k4 (6 * i + 1)) (k4 (6 * i + 2))
  have ht := s_mThrown (N := N2) (L := L1) (c := c1) hM
  rw [r2] at ht
  obtain ⟨o, ho⟩ : ∃ o, o = oSet S (N 100000 (6 * i + 1)) (N 100000 (6 * i + 2)) := ⟨_, rfl⟩
  rw [← ho] at w1 w2 w4 r1 r3 ht hs hv bo
  by_cases q : o.1 = 0
  · have e152 := w4 q
    rw [q] at w1 ht
    simp (disch := omega) only [r_L_law_288, r_L_law_289, r_L_law_290, r_L_law_292, r_L_law_293, r_L_law_294, r_L_law_295, r_L_law_296, r_L_law_298, r_L_law_299, r_L_law_300, r_L_law_301, r_L_law_302, r_L_law_305, r_L_law_307, r_L_law_308, r_L_law_309, r_L_law_311, r_L_law_312, r_L_law_313, r_L_law_314, r_L_law_315, r_L_law_317, r_L_law_318, r_L_law_319, r_L_law_320, r_L_law_323, r_L_law_325, r_L_law_326, r_L_law_329, r_L_law_331, r_L_law_334, r_L_law_335, r_L_law_336, r_L_law_338, r_L_law_341, r_L_law_342, r_L_law_343, r_L_law_344, r_L_law_346, r_L_law_347, r_L_law_348, r_L_law_351, r_L_law_352, r_L_law_353, up2_o, up2_e, iN_ap, iN_up, i_ix, i_inb, i_lt, i_lt0, i_0lt, i_eq, i_ne0, i_00, i_11, i_01, i_10, i_b, i_rem2, n_rem, i_add, i_mul, i_sub, i_div, i_max, i_min, rdk_0, rdk_3, kp_none, kp_int, kp_ref, kp_long, kp_double, aK_v, aK_0, aK_ite, if_true, if_false, and_self, and_true, true_and, or_false, false_or, not_true_eq_false, not_false_eq_true, ite_self, ↓reduceIte, z0, z1, z2, z4, y0, y1, f1, w1, r1, ht, e152, i64_lt, eq_self]
    exact NX_mk w2 w3 r3 r4 hs hv w5 hg
  · simp (disch := omega) only [r_L_law_288, r_L_law_289, r_L_law_290, r_L_law_292, r_L_law_293, r_L_law_294, r_L_law_295, r_L_law_296, r_L_law_298, r_L_law_299, r_L_law_300, r_L_law_301, r_L_law_302, r_L_law_305, r_L_law_307, r_L_law_308, r_L_law_309, r_L_law_311, r_L_law_312, r_L_law_313, r_L_law_314, r_L_law_315, r_L_law_317, r_L_law_318, r_L_law_319, r_L_law_320, r_L_law_323, r_L_law_325, r_L_law_326, r_L_law_329, r_L_law_331, r_L_law_334, r_L_law_335, r_L_law_336, r_L_law_338, r_L_law_341, r_L_law_342, r_L_law_343, r_L_law_344, r_L_law_346, r_L_law_347, r_L_law_348, r_L_law_351, r_L_law_352, r_L_law_353, up2_o, up2_e, iN_ap, iN_up, i_ix, i_inb, i_lt, i_lt0, i_0lt, i_eq, i_ne0, i_00, i_11, i_01, i_10, i_b, i_rem2, n_rem, i_add, i_mul, i_sub, i_div, i_max, i_min, rdk_0, rdk_3, kp_none, kp_int, kp_ref, kp_long, kp_double, aK_v, aK_0, aK_ite, if_true, if_false, and_self, and_true, true_and, or_false, false_or, not_true_eq_false, not_false_eq_true, ite_self, ↓reduceIte, z0, z1, z2, z4, y0, y1, f1, w1, r1, ht, q, eq_self]
    exact NX_mk w2 w3 r3 r4 hs hv w5 hg
theorem lc_pass (H : LH Z N S g i Ls) : NX Z N c i g (ex 211 356 [some (.ref 100000), some (.ref 0), some (.ref 144), some (.ref 152), some (.int (nI (6 * i))), a5, a6, a7, a8] [] (Z, iN N, L, c)) := by
  obtain ⟨hC, hM, ⟨z1, z2⟩, ⟨y0, y1⟩, ⟨k2, k3⟩, k4, hI, hO, hS, hK, hg⟩ := H
  have z0 := hC.1.1
  have z4 := hM.1.1
  have w := w_pass z0 z1 z2 (q_pass (L := L) (c := c) hC hI hS (k4 (6 * i + 1))) (kb2 bd_pass rfl rfl)
  have hs : SOK (oPass S (N 100000 (6 * i + 1))).2.2 := SOK_pass hS
  have hv : HSK (oPass S (N 100000 (6 * i + 1))).2.2 := HSK_pass hS hK
  have bo : (oPass S (N 100000 (6 * i + 1))).1 ≤ 2 := bd_pass
  obtain ⟨N1, L1, c1, w1, w2, w3, w4, w5, w6⟩ := w
  have f1 : N1 100000 = N 100000 := w3 _ (by omega)
  obtain ⟨N2, r1, r2, r3, r4⟩ := s_mPass (L := L1) (c := c1) hM (MO_cg hO (fun a h _ => w3 a h)) (k4 (6 * i + 1))
  have ht := s_mThrown (N := N2) (L := L1) (c := c1) hM
  rw [r2] at ht
  obtain ⟨o, ho⟩ : ∃ o, o = oPass S (N 100000 (6 * i + 1)) := ⟨_, rfl⟩
  rw [← ho] at w1 w2 w4 r1 r3 ht hs hv bo
  by_cases q : o.1 = 0
  · have e152 := w4 q
    rw [q] at w1 ht
    simp (disch := omega) only [r_L_law_356, r_L_law_357, r_L_law_358, r_L_law_360, r_L_law_361, r_L_law_362, r_L_law_363, r_L_law_364, r_L_law_367, r_L_law_369, r_L_law_370, r_L_law_371, r_L_law_373, r_L_law_374, r_L_law_375, r_L_law_376, r_L_law_379, r_L_law_381, r_L_law_382, r_L_law_385, r_L_law_387, r_L_law_390, r_L_law_391, r_L_law_392, r_L_law_394, r_L_law_397, r_L_law_398, r_L_law_399, r_L_law_400, r_L_law_402, r_L_law_403, r_L_law_404, r_L_law_407, r_L_law_408, r_L_law_409, up2_o, up2_e, iN_ap, iN_up, i_ix, i_inb, i_lt, i_lt0, i_0lt, i_eq, i_ne0, i_00, i_11, i_01, i_10, i_b, i_rem2, n_rem, i_add, i_mul, i_sub, i_div, i_max, i_min, rdk_0, rdk_3, kp_none, kp_int, kp_ref, kp_long, kp_double, aK_v, aK_0, aK_ite, if_true, if_false, and_self, and_true, true_and, or_false, false_or, not_true_eq_false, not_false_eq_true, ite_self, ↓reduceIte, z0, z1, z2, z4, y0, y1, f1, w1, r1, ht, e152, i64_lt, eq_self]
    exact NX_mk w2 w3 r3 r4 hs hv w5 hg
  · simp (disch := omega) only [r_L_law_356, r_L_law_357, r_L_law_358, r_L_law_360, r_L_law_361, r_L_law_362, r_L_law_363, r_L_law_364, r_L_law_367, r_L_law_369, r_L_law_370, r_L_law_371, r_L_law_373, r_L_law_374, r_L_law_375, r_L_law_376, r_L_law_379, r_L_law_381, r_L_law_382, r_L_law_385, r_L_law_387, r_L_law_390, r_L_law_391, r_L_law_392, r_L_law_394, r_L_law_397, r_L_law_398, r_L_law_399, r_L_law_400, r_L_law_402, r_L_law_403, r_L_law_404, r_L_law_407, r_L_law_408, r_L_law_409, up2_o, up2_e, iN_ap, iN_up, i_ix, i_inb, i_lt, i_lt0, i_0lt, i_eq, i_ne0, i_00, i_11, i_01, i_10, i_b, i_rem2, n_rem, i_add, i_mul, i_sub, i_div, i_max, i_min, rdk_0, rdk_3, kp_none, kp_int, kp_ref, kp_long, kp_double, aK_v, aK_0, aK_ite, if_true, if_false, and_self, and_true, true_and, or_false, false_or, not_true_eq_false, not_false_eq_true, ite_self, ↓reduceIte, z0, z1, z2, z4, y0, y1, f1, w1, r1, ht, q, eq_self]
    exact NX_mk w2 w3 r3 r4 hs hv w5 hg
theorem lc_inspect (H : LH Z N S g i Ls) : NX Z N c i g (ex 211 412 [some (.ref 100000), some (.ref 0), some (.ref 144), some (.ref 152), some (.int (nI (6 * i))), a5, a6, a7, a8] [] (Z, iN N, L, c)) := by
  obtain ⟨hC, hM, ⟨z1, z2⟩, ⟨y0, y1⟩, ⟨k2, k3⟩, k4, hI, hO, hS, hK, hg⟩ := H
  have z0 := hC.1.1
  have z4 := hM.1.1
  have w := w_inspect z0 z1 z2 (q_inspect (L := L) (c := c) hC hI hS (k4 (6 * i + 1)) (k4 (6 * i + 2)) (k4 (6 * i + 3)) (k4 (6 * i + 4))) (kb3 bd_inspect rfl rfl rfl)
  have hs : SOK (oIns S (N 100000 (6 * i + 1)) (N 100000 (6 * i + 2)) (N 100000 (6 * i + 3)) (N 100000 (6 * i + 4))).2.2 := SOK_ins hS
  have hv : HSK (oIns S (N 100000 (6 * i + 1)) (N 100000 (6 * i + 2)) (N 100000 (6 * i + 3)) (N 100000 (6 * i + 4))).2.2 := HSK_inspect hS hK
  have bo : (oIns S (N 100000 (6 * i + 1)) (N 100000 (6 * i + 2)) (N 100000 (6 * i + 3)) (N 100000 (6 * i + 4))).1 ≤ 3 := bd_inspect
  obtain ⟨N1, L1, c1, w1, w2, w3, w4, w5, w6⟩ := w
  have f1 : N1 100000 = N 100000 := w3 _ (by omega)
  obtain ⟨N2, r1, r2, r3, r4⟩ := s_mInspect (L := L1) (c := c1) hM (MO_cg hO (fun a h _ => w3 a h)) (k4 (6 * i + 1)) (k4 (6 * i + 2)) (k4 (6 * i + 3)) (k4 (6 * i + 4))
  have ht := s_mThrown (N := N2) (L := L1) (c := c1) hM
  rw [r2] at ht
  obtain ⟨o, ho⟩ : ∃ o, o = oIns S (N 100000 (6 * i + 1)) (N 100000 (6 * i + 2)) (N 100000 (6 * i + 3)) (N 100000 (6 * i + 4)) := ⟨_, rfl⟩
  rw [← ho] at w1 w2 w4 r1 r3 ht hs hv bo
  by_cases q : o.1 = 0
  · have e152 := w4 q
    rw [q] at w1 ht
    simp (disch := omega) only [r_L_law_412, r_L_law_413, r_L_law_414, r_L_law_416, r_L_law_417, r_L_law_418, r_L_law_419, r_L_law_420, r_L_law_422, r_L_law_423, r_L_law_424, r_L_law_425, r_L_law_426, r_L_law_428, r_L_law_429, r_L_law_430, r_L_law_431, r_L_law_432, r_L_law_434, r_L_law_435, r_L_law_436, r_L_law_437, r_L_law_438, r_L_law_441, r_L_law_443, r_L_law_444, r_L_law_445, r_L_law_447, r_L_law_448, r_L_law_449, r_L_law_450, r_L_law_451, r_L_law_453, r_L_law_454, r_L_law_455, r_L_law_456, r_L_law_457, r_L_law_459, r_L_law_460, r_L_law_461, r_L_law_462, r_L_law_463, r_L_law_465, r_L_law_466, r_L_law_467, r_L_law_468, r_L_law_471, r_L_law_473, r_L_law_474, r_L_law_477, r_L_law_479, r_L_law_482, r_L_law_483, r_L_law_484, r_L_law_486, r_L_law_489, r_L_law_490, r_L_law_491, r_L_law_492, r_L_law_494, r_L_law_495, r_L_law_496, r_L_law_499, r_L_law_500, r_L_law_501, up2_o, up2_e, iN_ap, iN_up, i_ix, i_inb, i_lt, i_lt0, i_0lt, i_eq, i_ne0, i_00, i_11, i_01, i_10, i_b, i_rem2, n_rem, i_add, i_mul, i_sub, i_div, i_max, i_min, rdk_0, rdk_3, kp_none, kp_int, kp_ref, kp_long, kp_double, aK_v, aK_0, aK_ite, if_true, if_false, and_self, and_true, true_and, or_false, false_or, not_true_eq_false, not_false_eq_true, ite_self, ↓reduceIte, z0, z1, z2, z4, y0, y1, f1, w1, r1, ht, e152, i64_lt, eq_self]
    exact NX_mk w2 w3 r3 r4 hs hv w5 hg
  · simp (disch := omega) only [r_L_law_412, r_L_law_413, r_L_law_414, r_L_law_416, r_L_law_417, r_L_law_418, r_L_law_419, r_L_law_420, r_L_law_422, r_L_law_423, r_L_law_424, r_L_law_425, r_L_law_426, r_L_law_428, r_L_law_429, r_L_law_430, r_L_law_431, r_L_law_432, r_L_law_434, r_L_law_435, r_L_law_436, r_L_law_437, r_L_law_438, r_L_law_441, r_L_law_443, r_L_law_444, r_L_law_445, r_L_law_447, r_L_law_448, r_L_law_449, r_L_law_450, r_L_law_451, r_L_law_453, r_L_law_454, r_L_law_455, r_L_law_456, r_L_law_457, r_L_law_459, r_L_law_460, r_L_law_461, r_L_law_462, r_L_law_463, r_L_law_465, r_L_law_466, r_L_law_467, r_L_law_468, r_L_law_471, r_L_law_473, r_L_law_474, r_L_law_477, r_L_law_479, r_L_law_482, r_L_law_483, r_L_law_484, r_L_law_486, r_L_law_489, r_L_law_490, r_L_law_491, r_L_law_492, r_L_law_494, r_L_law_495, r_L_law_496, r_L_law_499, r_L_law_500, r_L_law_501, up2_o, up2_e, iN_ap, iN_up, i_ix, i_inb, i_lt, i_lt0, i_0lt, i_eq, i_ne0, i_00, i_11, i_01, i_10, i_b, i_rem2, n_rem, i_add, i_mul, i_sub, i_div, i_max, i_min, rdk_0, rdk_3, kp_none, kp_int, kp_ref, kp_long, kp_double, aK_v, aK_0, aK_ite, if_true, if_false, and_self, and_true, true_and, or_false, false_or, not_true_eq_false, not_false_eq_true, ite_self, ↓reduceIte, z0, z1, z2, z4, y0, y1, f1, w1, r1, ht, q, eq_self]
    exact NX_mk w2 w3 r3 r4 hs hv w5 hg
theorem lc_fix (H : LH Z N S g i Ls) : NX Z N c i g (ex 211 504 [some (.ref 100000), some (.ref 0), some (.ref 144), some (.ref 152), some (.int (nI (6 * i))), a5, a6, a7, a8] [] (Z, iN N, L, c)) := by
  obtain ⟨hC, hM, ⟨z1, z2⟩, ⟨y0, y1⟩, ⟨k2, k3⟩, k4, hI, hO, hS, hK, hg⟩ := H
  have z0 := hC.1.1
  have z4 := hM.1.1
  have w := w_fix z0 z1 z2 (q_fix (L := L) (c := c) hC hI hS (k4 (6 * i + 1)) (k4 (6 * i + 2)) (k4 (6 * i + 3)) (k4 (6 * i + 4))) (kb2 bd_fix rfl rfl)
  have hs : SOK (oFix S (N 100000 (6 * i + 1)) (N 100000 (6 * i + 2)) (N 100000 (6 * i + 3)) (N 100000 (6 * i + 4))).2.2 := SOK_fix hS
  have hv : HSK (oFix S (N 100000 (6 * i + 1)) (N 100000 (6 * i + 2)) (N 100000 (6 * i + 3)) (N 100000 (6 * i + 4))).2.2 := HSK_fix hS hK
  have bo : (oFix S (N 100000 (6 * i + 1)) (N 100000 (6 * i + 2)) (N 100000 (6 * i + 3)) (N 100000 (6 * i + 4))).1 ≤ 2 := bd_fix
  obtain ⟨N1, L1, c1, w1, w2, w3, w4, w5, w6⟩ := w
  have f1 : N1 100000 = N 100000 := w3 _ (by omega)
  obtain ⟨N2, r1, r2, r3, r4⟩ := s_mFix (L := L1) (c := c1) hM (MO_cg hO (fun a h _ => w3 a h)) (k4 (6 * i + 1)) (k4 (6 * i + 2)) (k4 (6 * i + 3)) (k4 (6 * i + 4))
  have ht := s_mThrown (N := N2) (L := L1) (c := c1) hM
  rw [r2] at ht
  obtain ⟨o, ho⟩ : ∃ o, o = oFix S (N 100000 (6 * i + 1)) (N 100000 (6 * i + 2)) (N 100000 (6 * i + 3)) (N 100000 (6 * i + 4)) := ⟨_, rfl⟩
  rw [← ho] at w1 w2 w4 r1 r3 ht hs hv bo
  by_cases q : o.1 = 0
  · have e152 := w4 q
    rw [q] at w1 ht
    simp (disch := omega) only [r_L_law_504, r_L_law_505, r_L_law_506, r_L_law_508, r_L_law_509, r_L_law_510, r_L_law_511, r_L_law_512, r_L_law_514, r_L_law_515, r_L_law_516, r_L_law_517, r_L_law_518, r_L_law_520, r_L_law_521, r_L_law_522, r_L_law_523, r_L_law_524, r_L_law_526, r_L_law_527, r_L_law_528, r_L_law_529, r_L_law_530, r_L_law_533, r_L_law_535, r_L_law_536, r_L_law_537, r_L_law_539, r_L_law_540, r_L_law_541, r_L_law_542, r_L_law_543, r_L_law_545, r_L_law_546, r_L_law_547, r_L_law_548, r_L_law_549, r_L_law_551, r_L_law_552, r_L_law_553, r_L_law_554, r_L_law_555, r_L_law_557, r_L_law_558, r_L_law_559, r_L_law_560, r_L_law_563, r_L_law_565, r_L_law_566, r_L_law_569, r_L_law_571, r_L_law_574, r_L_law_575, r_L_law_576, r_L_law_578, r_L_law_581, r_L_law_582, r_L_law_583, r_L_law_584, r_L_law_586, r_L_law_587, r_L_law_588, r_L_law_591, r_L_law_592, r_L_law_593, up2_o, up2_e, iN_ap, iN_up, i_ix, i_inb, i_lt, i_lt0, i_0lt, i_eq, i_ne0, i_00, i_11, i_01, i_10, i_b, i_rem2, n_rem, i_add, i_mul, i_sub, i_div, i_max, i_min, rdk_0, rdk_3, kp_none, kp_int, kp_ref, kp_long, kp_double, aK_v, aK_0, aK_ite, if_true, if_false, and_self, and_true, true_and, or_false, false_or, not_true_eq_false, not_false_eq_true, ite_self, ↓reduceIte, z0, z1, z2, z4, y0, y1, f1, w1, r1, ht, e152, i64_lt, eq_self]
    exact NX_mk w2 w3 r3 r4 hs hv w5 hg
  · simp (disch := omega) only [r_L_law_504, r_L_law_505, r_L_law_506, r_L_law_508, r_L_law_509, r_L_law_510, r_L_law_511, r_L_law_512, r_L_law_514, r_L_law_515, r_L_law_516, r_L_law_517, r_L_law_518, r_L_law_520, r_L_law_521, r_L_law_522, r_L_law_523, r_L_law_524, r_L_law_526, r_L_law_527, r_L_law_528, r_L_law_529, r_L_law_530, r_L_law_533, r_L_law_535, r_L_law_536, r_L_law_537, r_L_law_539, r_L_law_540, r_L_law_541, r_L_law_542, r_L_law_543, r_L_law_545, r_L_law_546, r_L_law_547, r_L_law_548, r_L_law_549, r_L_law_551, r_L_law_552, r_L_law_553, r_L_law_554, r_L_law_555, r_L_law_557, r_L_law_558, r_L_law_559, r_L_law_560, r_L_law_563, r_L_law_565, r_L_law_566, r_L_law_569, r_L_law_571, r_L_law_574, r_L_law_575, r_L_law_576, r_L_law_578, r_L_law_581, r_L_law_582, r_L_law_583, r_L_law_584, r_L_law_586, r_L_law_587, r_L_law_588, r_L_law_591, r_L_law_592, r_L_law_593, up2_o, up2_e, iN_ap, iN_up, i_ix, i_inb, i_lt, i_lt0, i_0lt, i_eq, i_ne0, i_00, i_11, i_01, i_10, i_b, i_rem2, n_rem, i_add, i_mul, i_sub, i_div, i_max, i_min, rdk_0, rdk_3, kp_none, kp_int, kp_ref, kp_long, kp_double, aK_v, aK_0, aK_ite, if_true, if_false, and_self, and_true, true_and, or_false, false_or, not_true_eq_false, not_false_eq_true, ite_self, ↓reduceIte, z0, z1, z2, z4, y0, y1, f1, w1, r1, ht, q, eq_self]
    exact NX_mk w2 w3 r3 r4 hs hv w5 hg
theorem lc_claim (H : LH Z N S g i Ls) : NX Z N c i g (ex 211 596 [some (.ref 100000), some (.ref 0), some (.ref 144), some (.ref 152), some (.int (nI (6 * i))), a5, a6, a7, a8] [] (Z, iN N, L, c)) := by
  obtain ⟨hC, hM, ⟨z1, z2⟩, ⟨y0, y1⟩, ⟨k2, k3⟩, k4, hI, hO, hS, hK, hg⟩ := H
  have z0 := hC.1.1
  have z4 := hM.1.1
  have w := w_claim z0 z1 z2 (q_claim (L := L) (c := c) hC hI hS (k4 (6 * i + 1)) (k4 (6 * i + 2)) (k4 (6 * i + 3)) (k4 (6 * i + 4)) (k4 (6 * i + 5))) (kb3 bd_claim rfl rfl rfl)
  have hs : SOK (oClm S (N 100000 (6 * i + 1)) (N 100000 (6 * i + 2)) (N 100000 (6 * i + 3)) (N 100000 (6 * i + 4)) (N 100000 (6 * i + 5))).2.2 := SOK_clm hS
  have hv : HSK (oClm S (N 100000 (6 * i + 1)) (N 100000 (6 * i + 2)) (N 100000 (6 * i + 3)) (N 100000 (6 * i + 4)) (N 100000 (6 * i + 5))).2.2 := HSK_claim hS hK
  have bo : (oClm S (N 100000 (6 * i + 1)) (N 100000 (6 * i + 2)) (N 100000 (6 * i + 3)) (N 100000 (6 * i + 4)) (N 100000 (6 * i + 5))).1 ≤ 3 := bd_claim
  obtain ⟨N1, L1, c1, w1, w2, w3, w4, w5, w6⟩ := w
  have f1 : N1 100000 = N 100000 := w3 _ (by omega)
  obtain ⟨N2, r1, r2, r3, r4⟩ := s_mClaim (L := L1) (c := c1) hM (MO_cg hO (fun a h _ => w3 a h)) (k4 (6 * i + 1)) (k4 (6 * i + 2)) (k4 (6 * i + 3)) (k4 (6 * i + 4)) (k4 (6 * i + 5))
  have ht := s_mThrown (N := N2) (L := L1) (c := c1) hM
  rw [r2] at ht
  obtain ⟨o, ho⟩ : ∃ o, o = oClm S (N 100000 (6 * i + 1)) (N 100000 (6 * i + 2)) (N 100000 (6 * i + 3)) (N 100000 (6 * i + 4)) (N 100000 (6 * i + 5)) := ⟨_, rfl⟩
  rw [← ho] at w1 w2 w4 r1 r3 ht hs hv bo
  by_cases q : o.1 = 0
  · have e152 := w4 q
    rw [q] at w1 ht
    simp (disch := omega) only [r_L_law_596, r_L_law_597, r_L_law_598, r_L_law_600, r_L_law_601, r_L_law_602, r_L_law_603, r_L_law_604, r_L_law_606, r_L_law_607, r_L_law_608, r_L_law_609, r_L_law_610, r_L_law_612, r_L_law_613, r_L_law_614, r_L_law_615, r_L_law_616, r_L_law_618, r_L_law_619, r_L_law_620, r_L_law_621, r_L_law_622, r_L_law_624, r_L_law_625, r_L_law_626, r_L_law_627, r_L_law_628, r_L_law_631, r_L_law_633, r_L_law_634, r_L_law_635, r_L_law_637, r_L_law_638, r_L_law_639, r_L_law_640, r_L_law_641, r_L_law_643, r_L_law_644, r_L_law_645, r_L_law_646, r_L_law_647, r_L_law_649, r_L_law_650, r_L_law_651, r_L_law_652, r_L_law_653, r_L_law_655, r_L_law_656, r_L_law_657, r_L_law_658, r_L_law_659, r_L_law_661, r_L_law_662, r_L_law_663, r_L_law_664, r_L_law_667, r_L_law_669, r_L_law_670, r_L_law_673, r_L_law_675, r_L_law_678, r_L_law_679, r_L_law_680, r_L_law_682, r_L_law_685, r_L_law_686, r_L_law_687, r_L_law_688, r_L_law_690, r_L_law_691, r_L_law_692, r_L_law_695, r_L_law_696, r_L_law_697, up2_o, up2_e, iN_ap, iN_up, i_ix, i_inb, i_lt, i_lt0, i_0lt, i_eq, i_ne0, i_00, i_11, i_01, i_10, i_b, i_rem2, n_rem, i_add, i_mul, i_sub, i_div, i_max, i_min, rdk_0, rdk_3, kp_none, kp_int, kp_ref, kp_long, kp_double, aK_v, aK_0, aK_ite, if_true, if_false, and_self, and_true, true_and, or_false, false_or, not_true_eq_false, not_false_eq_true, ite_self, ↓reduceIte, z0, z1, z2, z4, y0, y1, f1, w1, r1, ht, e152, i64_lt, eq_self]
    exact NX_mk w2 w3 r3 r4 hs hv w5 hg
  · simp (disch := omega) only [r_L_law_596, r_L_law_597, r_L_law_598, r_L_law_600, r_L_law_601, r_L_law_602, r_L_law_603, r_L_law_604, r_L_law_606, r_L_law_607, r_L_law_608, r_L_law_609, r_L_law_610, r_L_law_612, r_L_law_613, r_L_law_614, r_L_law_615, r_L_law_616, r_L_law_618, r_L_law_619, r_L_law_620, r_L_law_621, r_L_law_622, r_L_law_624, r_L_law_625, r_L_law_626, r_L_law_627, r_L_law_628, r_L_law_631, r_L_law_633, r_L_law_634, r_L_law_635, r_L_law_637, r_L_law_638, r_L_law_639, r_L_law_640, r_L_law_641, r_L_law_643, r_L_law_644, r_L_law_645, r_L_law_646, r_L_law_647, r_L_law_649, r_L_law_650, r_L_law_651, r_L_law_652, r_L_law_653, r_L_law_655, r_L_law_656, r_L_law_657, r_L_law_658, r_L_law_659, r_L_law_661, r_L_law_662, r_L_law_663, r_L_law_664, r_L_law_667, r_L_law_669, r_L_law_670, r_L_law_673, r_L_law_675, r_L_law_678, r_L_law_679, r_L_law_680, r_L_law_682, r_L_law_685, r_L_law_686, r_L_law_687, r_L_law_688, r_L_law_690, r_L_law_691, r_L_law_692, r_L_law_695, r_L_law_696, r_L_law_697, up2_o, up2_e, iN_ap, iN_up, i_ix, i_inb, i_lt, i_lt0, i_0lt, i_eq, i_ne0, i_00, i_11, i_01, i_10, i_b, i_rem2, n_rem, i_add, i_mul, i_sub, i_div, i_max, i_min, rdk_0, rdk_3, kp_none, kp_int, kp_ref, kp_long, kp_double, aK_v, aK_0, aK_ite, if_true, if_false, and_self, and_true, true_and, or_false, false_or, not_true_eq_false, not_false_eq_true, ite_self, ↓reduceIte, z0, z1, z2, z4, y0, y1, f1, w1, r1, ht, q, eq_self]
    exact NX_mk w2 w3 r3 r4 hs hv w5 hg
theorem lc_release (H : LH Z N S g i Ls) : NX Z N c i g (ex 211 700 [some (.ref 100000), some (.ref 0), some (.ref 144), some (.ref 152), some (.int (nI (6 * i))), a5, a6, a7, a8] [] (Z, iN N, L, c)) := by
  obtain ⟨hC, hM, ⟨z1, z2⟩, ⟨y0, y1⟩, ⟨k2, k3⟩, k4, hI, hO, hS, hK, hg⟩ := H
  have z0 := hC.1.1
  have z4 := hM.1.1
  have w := w_release z0 z1 z2 (q_release (L := L) (c := c) hC hI hS (k4 (6 * i + 1)) (k4 (6 * i + 2))) (kb2 bd_release rfl rfl)
  have hs : SOK (oRel S (N 100000 (6 * i + 1)) (N 100000 (6 * i + 2))).2.2 := SOK_rel hS
  have hv : HSK (oRel S (N 100000 (6 * i + 1)) (N 100000 (6 * i + 2))).2.2 := HSK_release hS hK
  have bo : (oRel S (N 100000 (6 * i + 1)) (N 100000 (6 * i + 2))).1 ≤ 2 := bd_release
  obtain ⟨N1, L1, c1, w1, w2, w3, w4, w5, w6⟩ := w
  have f1 : N1 100000 = N 100000 := w3 _ (by omega)
  obtain ⟨N2, r1, r2, r3, r4⟩ := s_mRelease (L := L1) (c := c1) hM (MO_cg hO (fun a h _ => w3 a h)) (k4 (6 * i + 1)) (k4 (6 * i + 2))
  have ht := s_mThrown (N := N2) (L := L1) (c := c1) hM
  rw [r2] at ht
  obtain ⟨o, ho⟩ : ∃ o, o = oRel S (N 100000 (6 * i + 1)) (N 100000 (6 * i + 2)) := ⟨_, rfl⟩
  rw [← ho] at w1 w2 w4 r1 r3 ht hs hv bo
  by_cases q : o.1 = 0
  · have e152 := w4 q
    rw [q] at w1 ht
    simp (disch := omega) only [r_L_law_700, r_L_law_701, r_L_law_702, r_L_law_704, r_L_law_705, r_L_law_706, r_L_law_707, r_L_law_708, r_L_law_710, r_L_law_711, r_L_law_712, r_L_law_713, r_L_law_714, r_L_law_717, r_L_law_719, r_L_law_720, r_L_law_721, r_L_law_723, r_L_law_724, r_L_law_725, r_L_law_726, r_L_law_727, r_L_law_729, r_L_law_730, r_L_law_731, r_L_law_732, r_L_law_735, r_L_law_737, r_L_law_738, r_L_law_741, r_L_law_743, r_L_law_746, r_L_law_747, r_L_law_748, r_L_law_750, r_L_law_753, r_L_law_754, r_L_law_755, r_L_law_756, r_L_law_758, r_L_law_759, r_L_law_760, r_L_law_763, r_L_law_764, r_L_law_765, up2_o, up2_e, iN_ap, iN_up, i_ix, i_inb, i_lt, i_lt0, i_0lt, i_eq, i_ne0, i_00, i_11, i_01, i_10, i_b, i_rem2, n_rem, i_add, i_mul, i_sub, i_div, i_max, i_min, rdk_0, rdk_3, kp_none, kp_int, kp_ref, kp_long, kp_double, aK_v, aK_0, aK_ite, if_true, if_false, and_self, and_true, true_and, or_false, false_or, not_true_eq_false, not_false_eq_true, ite_self, ↓reduceIte, z0, z1, z2, z4, y0, y1, f1, w1, r1, ht, e152, i64_lt, eq_self]
    exact NX_mk w2 w3 r3 r4 hs hv w5 hg
  · simp (disch := omega) only [r_L_law_700, r_L_law_701, r_L_law_702, r_L_law_704, r_L_law_705, r_L_law_706, r_L_law_707, r_L_law_708, r_L_law_710, r_L_law_711, r_L_law_712, r_L_law_713, r_L_law_714, r_L_law_717, r_L_law_719, r_L_law_720, r_L_law_721, r_L_law_723, r_L_law_724, r_L_law_725, r_L_law_726, r_L_law_727, r_L_law_729, r_L_law_730, r_L_law_731, r_L_law_732, r_L_law_735, r_L_law_737, r_L_law_738, r_L_law_741, r_L_law_743, r_L_law_746, r_L_law_747, r_L_law_748, r_L_law_750, r_L_law_753, r_L_law_754, r_L_law_755, r_L_law_756, r_L_law_758, r_L_law_759, r_L_law_760, r_L_law_763, r_L_law_764, r_L_law_765, up2_o, up2_e, iN_ap, iN_up, i_ix, i_inb, i_lt, i_lt0, i_0lt, i_eq, i_ne0, i_00, i_11, i_01, i_10, i_b, i_rem2, n_rem, i_add, i_mul, i_sub, i_div, i_max, i_min, rdk_0, rdk_3, kp_none, kp_int, kp_ref, kp_long, kp_double, aK_v, aK_0, aK_ite, if_true, if_false, and_self, and_true, true_and, or_false, false_or, not_true_eq_false, not_false_eq_true, ite_self, ↓reduceIte, z0, z1, z2, z4, y0, y1, f1, w1, r1, ht, q, eq_self]
    exact NX_mk w2 w3 r3 r4 hs hv w5 hg
theorem lc_append (H : LH Z N S g i Ls) : NX Z N c i g (ex 211 768 [some (.ref 100000), some (.ref 0), some (.ref 144), some (.ref 152), some (.int (nI (6 * i))), a5, a6, a7, a8] [] (Z, iN N, L, c)) := by
  obtain ⟨hC, hM, ⟨z1, z2⟩, ⟨y0, y1⟩, ⟨k2, k3⟩, k4, hI, hO, hS, hK, hg⟩ := H
  have z0 := hC.1.1
  have z4 := hM.1.1
  have w := w_append z0 z1 z2 (q_append (L := L) (c := c) hC hI hS (k4 (6 * i + 1))) (kb2 bd_append rfl rfl)
  have hs : SOK (oApp S (N 100000 (6 * i + 1))).2.2 := SOK_app hS
  have hv : HSK (oApp S (N 100000 (6 * i + 1))).2.2 := HSK_append hS hK
  have bo : (oApp S (N 100000 (6 * i + 1))).1 ≤ 2 := bd_append
  obtain ⟨N1, L1, c1, w1, w2, w3, w4, w5, w6⟩ := w
  have f1 : N1 100000 = N 100000 := w3 _ (by omega)
  obtain ⟨N2, r1, r2, r3, r4⟩ := s_mAppend (L := L1) (c := c1) hM (MO_cg hO (fun a h _ => w3 a h)) hS.2.2.2.1 (k4 (6 * i + 1))
  have ht := s_mThrown (N := N2) (L := L1) (c := c1) hM
  rw [r2] at ht
  obtain ⟨o, ho⟩ : ∃ o, o = oApp S (N 100000 (6 * i + 1)) := ⟨_, rfl⟩
  rw [← ho] at w1 w2 w4 r1 r3 ht hs hv bo
  by_cases q : o.1 = 0
  · have e152 := w4 q
    rw [q] at w1 ht
    simp (disch := omega) only [r_L_law_768, r_L_law_769, r_L_law_770, r_L_law_772, r_L_law_773, r_L_law_774, r_L_law_775, r_L_law_776, r_L_law_779, r_L_law_781, r_L_law_782, r_L_law_783, r_L_law_785, r_L_law_786, r_L_law_787, r_L_law_788, r_L_law_791, r_L_law_793, r_L_law_794, r_L_law_797, r_L_law_799, r_L_law_802, r_L_law_803, r_L_law_804, r_L_law_806, r_L_law_809, r_L_law_810, r_L_law_811, r_L_law_812, r_L_law_814, r_L_law_815, r_L_law_816, r_L_law_819, r_L_law_820, r_L_law_821, up2_o, up2_e, iN_ap, iN_up, i_ix, i_inb, i_lt, i_lt0, i_0lt, i_eq, i_ne0, i_00, i_11, i_01, i_10, i_b, i_rem2, n_rem, i_add, i_mul, i_sub, i_div, i_max, i_min, rdk_0, rdk_3, kp_none, kp_int, kp_ref, kp_long, kp_double, aK_v, aK_0, aK_ite, if_true, if_false, and_self, and_true, true_and, or_false, false_or, not_true_eq_false, not_false_eq_true, ite_self, ↓reduceIte, z0, z1, z2, z4, y0, y1, f1, w1, r1, ht, e152, i64_lt, eq_self]
    exact NX_mk w2 w3 r3 r4 hs hv w5 hg
  · simp (disch := omega) only [r_L_law_768, r_L_law_769, r_L_law_770, r_L_law_772, r_L_law_773, r_L_law_774, r_L_law_775, r_L_law_776, r_L_law_779, r_L_law_781, r_L_law_782, r_L_law_783, r_L_law_785, r_L_law_786, r_L_law_787, r_L_law_788, r_L_law_791, r_L_law_793, r_L_law_794, r_L_law_797, r_L_law_799, r_L_law_802, r_L_law_803, r_L_law_804, r_L_law_806, r_L_law_809, r_L_law_810, r_L_law_811, r_L_law_812, r_L_law_814, r_L_law_815, r_L_law_816, r_L_law_819, r_L_law_820, r_L_law_821, up2_o, up2_e, iN_ap, iN_up, i_ix, i_inb, i_lt, i_lt0, i_0lt, i_eq, i_ne0, i_00, i_11, i_01, i_10, i_b, i_rem2, n_rem, i_add, i_mul, i_sub, i_div, i_max, i_min, rdk_0, rdk_3, kp_none, kp_int, kp_ref, kp_long, kp_double, aK_v, aK_0, aK_ite, if_true, if_false, and_self, and_true, true_and, or_false, false_or, not_true_eq_false, not_false_eq_true, ite_self, ↓reduceIte, z0, z1, z2, z4, y0, y1, f1, w1, r1, ht, q, eq_self]
    exact NX_mk w2 w3 r3 r4 hs hv w5 hg
theorem lc_addHouse (H : LH Z N S g i Ls) : NX Z N c i g (ex 211 878 [some (.ref 100000), some (.ref 0), some (.ref 144), some (.ref 152), some (.int (nI (6 * i))), a5, a6, a7, a8] [] (Z, iN N, L, c)) := by
  obtain ⟨hC, hM, ⟨z1, z2⟩, ⟨y0, y1⟩, ⟨k2, k3⟩, k4, hI, hO, hS, hK, hg⟩ := H
  have z0 := hC.1.1
  have z4 := hM.1.1
  have w := w_addHouse z0 z1 z2 (q_addHouse (L := L) (c := c) hC hI hS) (kb2 bd_addHouse rfl rfl)
  have hx : ∀ x ∈ S.2.2, x < 1000 := fun x hx => by have := hS.2.2.2.2 x hx; omega
  have hs : SOK (oAdd S ).2.2 := SOK_add hS
  have hv : HSK (oAdd S ).2.2 := HSK_addHouse hS hK
  have bo : (oAdd S ).1 ≤ 2 := bd_addHouse
  obtain ⟨N1, L1, c1, w1, w2, w3, w4, w5, w6⟩ := w
  have f1 : N1 100000 = N 100000 := w3 _ (by omega)
  obtain ⟨N2, r1, r2, r3, r4⟩ := s_mAddHouse (L := L1) (c := c1) hM (MO_cg hO (fun a h _ => w3 a h)) hS.2.2.2.1 hx
  have ht := s_mThrown (N := N2) (L := L1) (c := c1) hM
  rw [r2] at ht
  obtain ⟨o, ho⟩ : ∃ o, o = oAdd S  := ⟨_, rfl⟩
  rw [← ho] at w1 w2 w4 r1 r3 ht hs hv bo
  by_cases q : o.1 = 0
  · have e152 := w4 q
    rw [q] at w1 ht
    simp (disch := omega) only [r_L_law_878, r_L_law_879, r_L_law_880, r_L_law_883, r_L_law_885, r_L_law_886, r_L_law_889, r_L_law_891, r_L_law_892, r_L_law_895, r_L_law_897, r_L_law_900, r_L_law_901, r_L_law_902, r_L_law_904, r_L_law_907, r_L_law_908, r_L_law_909, r_L_law_910, r_L_law_912, r_L_law_913, r_L_law_914, r_L_law_917, r_L_law_918, r_L_law_919, up2_o, up2_e, iN_ap, iN_up, i_ix, i_inb, i_lt, i_lt0, i_0lt, i_eq, i_ne0, i_00, i_11, i_01, i_10, i_b, i_rem2, n_rem, i_add, i_mul, i_sub, i_div, i_max, i_min, rdk_0, rdk_3, kp_none, kp_int, kp_ref, kp_long, kp_double, aK_v, aK_0, aK_ite, if_true, if_false, and_self, and_true, true_and, or_false, false_or, not_true_eq_false, not_false_eq_true, ite_self, ↓reduceIte, z0, z1, z2, z4, y0, y1, f1, w1, r1, ht, e152, i64_lt, eq_self]
    exact NX_mk w2 w3 r3 r4 hs hv w5 hg
  · simp (disch := omega) only [r_L_law_878, r_L_law_879, r_L_law_880, r_L_law_883, r_L_law_885, r_L_law_886, r_L_law_889, r_L_law_891, r_L_law_892, r_L_law_895, r_L_law_897, r_L_law_900, r_L_law_901, r_L_law_902, r_L_law_904, r_L_law_907, r_L_law_908, r_L_law_909, r_L_law_910, r_L_law_912, r_L_law_913, r_L_law_914, r_L_law_917, r_L_law_918, r_L_law_919, up2_o, up2_e, iN_ap, iN_up, i_ix, i_inb, i_lt, i_lt0, i_0lt, i_eq, i_ne0, i_00, i_11, i_01, i_10, i_b, i_rem2, n_rem, i_add, i_mul, i_sub, i_div, i_max, i_min, rdk_0, rdk_3, kp_none, kp_int, kp_ref, kp_long, kp_double, aK_v, aK_0, aK_ite, if_true, if_false, and_self, and_true, true_and, or_false, false_or, not_true_eq_false, not_false_eq_true, ite_self, ↓reduceIte, z0, z1, z2, z4, y0, y1, f1, w1, r1, ht, q, eq_self]
    exact NX_mk w2 w3 r3 r4 hs hv w5 hg
theorem lc_setWinds (H : LH Z N S g i Ls) : NX Z N c i g (ex 211 922 [some (.ref 100000), some (.ref 0), some (.ref 144), some (.ref 152), some (.int (nI (6 * i))), a5, a6, a7, a8] [] (Z, iN N, L, c)) := by
  obtain ⟨hC, hM, ⟨z1, z2⟩, ⟨y0, y1⟩, ⟨k2, k3⟩, k4, hI, hO, hS, hK, hg⟩ := H
  have z0 := hC.1.1
  have z4 := hM.1.1
  have w := w_setWinds z0 z1 z2 (q_setWinds (L := L) (c := c) hC hI hS) (kb2 bd_setWinds rfl rfl)
  have hx : ∀ x ∈ S.2.2, x < 1000 := fun x hx => by have := hS.2.2.2.2 x hx; omega
  have hs : SOK (oWnd S ).2.2 := SOK_wnd hS
  have hv : HSK (oWnd S ).2.2 := HSK_setWinds hS hK
  have bo : (oWnd S ).1 ≤ 2 := bd_setWinds
  obtain ⟨N1, L1, c1, w1, w2, w3, w4, w5, w6⟩ := w
  have f1 : N1 100000 = N 100000 := w3 _ (by omega)
  obtain ⟨N2, r1, r2, r3, r4⟩ := s_mSetWinds (L := L1) (c := c1) hM (MO_cg hO (fun a h _ => w3 a h)) hS.2.2.2.1 hx
  have ht := s_mThrown (N := N2) (L := L1) (c := c1) hM
  rw [r2] at ht
  obtain ⟨o, ho⟩ : ∃ o, o = oWnd S  := ⟨_, rfl⟩
  rw [← ho] at w1 w2 w4 r1 r3 ht hs hv bo
  by_cases q : o.1 = 0
  · have e152 := w4 q
    rw [q] at w1 ht
    simp (disch := omega) only [r_L_law_922, r_L_law_923, r_L_law_924, r_L_law_927, r_L_law_929, r_L_law_930, r_L_law_933, r_L_law_935, r_L_law_936, r_L_law_939, r_L_law_941, r_L_law_944, r_L_law_945, r_L_law_946, r_L_law_948, r_L_law_951, r_L_law_952, r_L_law_953, r_L_law_954, r_L_law_956, r_L_law_957, r_L_law_958, r_L_law_961, r_L_law_962, r_L_law_963, up2_o, up2_e, iN_ap, iN_up, i_ix, i_inb, i_lt, i_lt0, i_0lt, i_eq, i_ne0, i_00, i_11, i_01, i_10, i_b, i_rem2, n_rem, i_add, i_mul, i_sub, i_div, i_max, i_min, rdk_0, rdk_3, kp_none, kp_int, kp_ref, kp_long, kp_double, aK_v, aK_0, aK_ite, if_true, if_false, and_self, and_true, true_and, or_false, false_or, not_true_eq_false, not_false_eq_true, ite_self, ↓reduceIte, z0, z1, z2, z4, y0, y1, f1, w1, r1, ht, e152, i64_lt, eq_self]
    exact NX_mk w2 w3 r3 r4 hs hv w5 hg
  · simp (disch := omega) only [r_L_law_922, r_L_law_923, r_L_law_924, r_L_law_927, r_L_law_929, r_L_law_930, r_L_law_933, r_L_law_935, r_L_law_936, r_L_law_939, r_L_law_941, r_L_law_944, r_L_law_945, r_L_law_946, r_L_law_948, r_L_law_951, r_L_law_952, r_L_law_953, r_L_law_954, r_L_law_956, r_L_law_957, r_L_law_958, r_L_law_961, r_L_law_962, r_L_law_963, up2_o, up2_e, iN_ap, iN_up, i_ix, i_inb, i_lt, i_lt0, i_0lt, i_eq, i_ne0, i_00, i_11, i_01, i_10, i_b, i_rem2, n_rem, i_add, i_mul, i_sub, i_div, i_max, i_min, rdk_0, rdk_3, kp_none, kp_int, kp_ref, kp_long, kp_double, aK_v, aK_0, aK_ite, if_true, if_false, and_self, and_true, true_and, or_false, false_or, not_true_eq_false, not_false_eq_true, ite_self, ↓reduceIte, z0, z1, z2, z4, y0, y1, f1, w1, r1, ht, q, eq_self]
    exact NX_mk w2 w3 r3 r4 hs hv w5 hg
theorem lc_undo (H : LH Z N S g i Ls) : NX Z N c i g (ex 211 966 [some (.ref 100000), some (.ref 0), some (.ref 144), some (.ref 152), some (.int (nI (6 * i))), a5, a6, a7, a8] [] (Z, iN N, L, c)) := by
  obtain ⟨hC, hM, ⟨z1, z2⟩, ⟨y0, y1⟩, ⟨k2, k3⟩, k4, hI, hO, hS, hK, hg⟩ := H
  have z0 := hC.1.1
  have z4 := hM.1.1
  have w := w_undo z0 z1 z2 (q_undo (L := L) (c := c) hC hI hS) (kb1 bd_undo rfl)
  have hs : SOK (oUndo S ).2.2 := SOK_undo hS
  have hv : HSK (oUndo S ).2.2 := HSK_undo hS hK
  have bo : (oUndo S ).1 ≤ 1 := bd_undo
  obtain ⟨N1, L1, c1, w1, w2, w3, w4, w5, w6⟩ := w
  have f1 : N1 100000 = N 100000 := w3 _ (by omega)
  obtain ⟨N2, r1, r2, r3, r4⟩ := s_mUndo (L := L1) (c := c1) hM (MO_cg hO (fun a h _ => w3 a h)) 
  have ht := s_mThrown (N := N2) (L := L1) (c := c1) hM
  rw [r2] at ht
  obtain ⟨o, ho⟩ : ∃ o, o = oUndo S  := ⟨_, rfl⟩
  rw [← ho] at w1 w2 w4 r1 r3 ht hs hv bo
  by_cases q : o.1 = 0
  · have e152 := w4 q
    rw [q] at w1 ht
    simp (disch := omega) only [r_L_law_966, r_L_law_967, r_L_law_968, r_L_law_971, r_L_law_973, r_L_law_974, r_L_law_977, r_L_law_979, r_L_law_980, r_L_law_983, r_L_law_985, r_L_law_988, r_L_law_989, r_L_law_990, r_L_law_992, r_L_law_995, r_L_law_996, r_L_law_997, r_L_law_998, r_L_law_1000, r_L_law_1001, r_L_law_1002, r_L_law_1005, r_L_law_1006, r_L_law_1007, up2_o, up2_e, iN_ap, iN_up, i_ix, i_inb, i_lt, i_lt0, i_0lt, i_eq, i_ne0, i_00, i_11, i_01, i_10, i_b, i_rem2, n_rem, i_add, i_mul, i_sub, i_div, i_max, i_min, rdk_0, rdk_3, kp_none, kp_int, kp_ref, kp_long, kp_double, aK_v, aK_0, aK_ite, if_true, if_false, and_self, and_true, true_and, or_false, false_or, not_true_eq_false, not_false_eq_true, ite_self, ↓reduceIte, z0, z1, z2, z4, y0, y1, f1, w1, r1, ht, e152, i64_lt, eq_self]
    exact NX_mk w2 w3 r3 r4 hs hv w5 hg
  · simp (disch := omega) only [r_L_law_966, r_L_law_967, r_L_law_968, r_L_law_971, r_L_law_973, r_L_law_974, r_L_law_977, r_L_law_979, r_L_law_980, r_L_law_983, r_L_law_985, r_L_law_988, r_L_law_989, r_L_law_990, r_L_law_992, r_L_law_995, r_L_law_996, r_L_law_997, r_L_law_998, r_L_law_1000, r_L_law_1001, r_L_law_1002, r_L_law_1005, r_L_law_1006, r_L_law_1007, up2_o, up2_e, iN_ap, iN_up, i_ix, i_inb, i_lt, i_lt0, i_0lt, i_eq, i_ne0, i_00, i_11, i_01, i_10, i_b, i_rem2, n_rem, i_add, i_mul, i_sub, i_div, i_max, i_min, rdk_0, rdk_3, kp_none, kp_int, kp_ref, kp_long, kp_double, aK_v, aK_0, aK_ite, if_true, if_false, and_self, and_true, true_and, or_false, false_or, not_true_eq_false, not_false_eq_true, ite_self, ↓reduceIte, z0, z1, z2, z4, y0, y1, f1, w1, r1, ht, q, eq_self]
    exact NX_mk w2 w3 r3 r4 hs hv w5 hg
theorem lc_house (H : LH Z N S g i Ls) : NX Z N c i g (ex 211 1010 [some (.ref 100000), some (.ref 0), some (.ref 144), some (.ref 152), some (.int (nI (6 * i))), a5, a6, a7, a8] [] (Z, iN N, L, c)) := by
  obtain ⟨hC, hM, ⟨z1, z2⟩, ⟨y0, y1⟩, ⟨k2, k3⟩, k4, hI, hO, hS, hK, hg⟩ := H
  have z0 := hC.1.1
  have z4 := hM.1.1
  have w := w_house z0 z1 z2 (q_house (L := L) (c := c) hC hI hS (k4 (6 * i + 1)) (k4 (6 * i + 2))) (kb2 bd_house rfl rfl)
  have hs : SOK (oHou S (N 100000 (6 * i + 1)) (N 100000 (6 * i + 2))).2.2 := by rw [g3_house]; exact hS
  have hv : HSK (oHou S (N 100000 (6 * i + 1)) (N 100000 (6 * i + 2))).2.2 := by rw [g3_house]; exact hK
  have bo : (oHou S (N 100000 (6 * i + 1)) (N 100000 (6 * i + 2))).1 ≤ 2 := bd_house
  obtain ⟨N1, L1, c1, w1, w2, w3, w4, w5, w6⟩ := w
  have f1 : N1 100000 = N 100000 := w3 _ (by omega)
  obtain ⟨N2, r1, r2, r3, r4⟩ := s_mHouse (L := L1) (c := c1) hM (MO_cg hO (fun a h _ => w3 a h)) (k4 (6 * i + 1)) (k4 (6 * i + 2))
  have ht := s_mThrown (N := N2) (L := L1) (c := c1) hM
  rw [r2] at ht
  obtain ⟨o, ho⟩ : ∃ o, o = oHou S (N 100000 (6 * i + 1)) (N 100000 (6 * i + 2)) := ⟨_, rfl⟩
  rw [← ho] at w1 w2 w4 r1 r3 ht hs hv bo
  by_cases q : o.1 = 0
  · have e152 := w4 q
    rw [q] at w1 ht
    simp (disch := omega) only [r_L_law_1010, r_L_law_1011, r_L_law_1012, r_L_law_1014, r_L_law_1015, r_L_law_1016, r_L_law_1017, r_L_law_1018, r_L_law_1020, r_L_law_1021, r_L_law_1022, r_L_law_1023, r_L_law_1024, r_L_law_1027, r_L_law_1029, r_L_law_1030, r_L_law_1031, r_L_law_1033, r_L_law_1034, r_L_law_1035, r_L_law_1036, r_L_law_1037, r_L_law_1039, r_L_law_1040, r_L_law_1041, r_L_law_1042, r_L_law_1045, r_L_law_1047, r_L_law_1048, r_L_law_1051, r_L_law_1053, r_L_law_1056, r_L_law_1057, r_L_law_1058, r_L_law_1060, r_L_law_1063, r_L_law_1064, r_L_law_1065, r_L_law_1066, r_L_law_1068, r_L_law_1069, r_L_law_1070, r_L_law_1073, r_L_law_1074, r_L_law_1075, up2_o, up2_e, iN_ap, iN_up, i_ix, i_inb, i_lt, i_lt0, i_0lt, i_eq, i_ne0, i_00, i_11, i_01, i_10, i_b, i_rem2, n_rem, i_add, i_mul, i_sub, i_div, i_max, i_min, rdk_0, rdk_3, kp_none, kp_int, kp_ref, kp_long, kp_double, aK_v, aK_0, aK_ite, if_true, if_false, and_self, and_true, true_and, or_false, false_or, not_true_eq_false, not_false_eq_true, ite_self, ↓reduceIte, z0, z1, z2, z4, y0, y1, f1, w1, r1, ht, e152, i64_lt, eq_self]
    exact NX_mk w2 w3 r3 r4 hs hv w5 hg
  · simp (disch := omega) only [r_L_law_1010, r_L_law_1011, r_L_law_1012, r_L_law_1014, r_L_law_1015, r_L_law_1016, r_L_law_1017, r_L_law_1018, r_L_law_1020, r_L_law_1021, r_L_law_1022, r_L_law_1023, r_L_law_1024, r_L_law_1027, r_L_law_1029, r_L_law_1030, r_L_law_1031, r_L_law_1033, r_L_law_1034, r_L_law_1035, r_L_law_1036, r_L_law_1037, r_L_law_1039, r_L_law_1040, r_L_law_1041, r_L_law_1042, r_L_law_1045, r_L_law_1047, r_L_law_1048, r_L_law_1051, r_L_law_1053, r_L_law_1056, r_L_law_1057, r_L_law_1058, r_L_law_1060, r_L_law_1063, r_L_law_1064, r_L_law_1065, r_L_law_1066, r_L_law_1068, r_L_law_1069, r_L_law_1070, r_L_law_1073, r_L_law_1074, r_L_law_1075, up2_o, up2_e, iN_ap, iN_up, i_ix, i_inb, i_lt, i_lt0, i_0lt, i_eq, i_ne0, i_00, i_11, i_01, i_10, i_b, i_rem2, n_rem, i_add, i_mul, i_sub, i_div, i_max, i_min, rdk_0, rdk_3, kp_none, kp_int, kp_ref, kp_long, kp_double, aK_v, aK_0, aK_ite, if_true, if_false, and_self, and_true, true_and, or_false, false_or, not_true_eq_false, not_false_eq_true, ite_self, ↓reduceIte, z0, z1, z2, z4, y0, y1, f1, w1, r1, ht, q, eq_self]
    exact NX_mk w2 w3 r3 r4 hs hv w5 hg
theorem lc_module (H : LH Z N S g i Ls) : NX Z N c i g (ex 211 1078 [some (.ref 100000), some (.ref 0), some (.ref 144), some (.ref 152), some (.int (nI (6 * i))), a5, a6, a7, a8] [] (Z, iN N, L, c)) := by
  obtain ⟨hC, hM, ⟨z1, z2⟩, ⟨y0, y1⟩, ⟨k2, k3⟩, k4, hI, hO, hS, hK, hg⟩ := H
  have z0 := hC.1.1
  have z4 := hM.1.1
  have w := w_module z0 z1 z2 (q_module (L := L) (c := c) hC hI hS (k4 (6 * i + 1)) (k4 (6 * i + 2)) (k4 (6 * i + 3))) (kb2 bd_module rfl rfl)
  have hs : SOK (oMod S (N 100000 (6 * i + 1)) (N 100000 (6 * i + 2)) (N 100000 (6 * i + 3))).2.2 := by rw [g3_module]; exact hS
  have hv : HSK (oMod S (N 100000 (6 * i + 1)) (N 100000 (6 * i + 2)) (N 100000 (6 * i + 3))).2.2 := by rw [g3_module]; exact hK
  have bo : (oMod S (N 100000 (6 * i + 1)) (N 100000 (6 * i + 2)) (N 100000 (6 * i + 3))).1 ≤ 2 := bd_module
  obtain ⟨N1, L1, c1, w1, w2, w3, w4, w5, w6⟩ := w
  have f1 : N1 100000 = N 100000 := w3 _ (by omega)
  obtain ⟨N2, r1, r2, r3, r4⟩ := s_mModule (L := L1) (c := c1) hM (MO_cg hO (fun a h _ => w3 a h)) (k4 (6 * i + 1)) (k4 (6 * i + 2)) (k4 (6 * i + 3))
  have ht := s_mThrown (N := N2) (L := L1) (c := c1) hM
  rw [r2] at ht
  obtain ⟨o, ho⟩ : ∃ o, o = oMod S (N 100000 (6 * i + 1)) (N 100000 (6 * i + 2)) (N 100000 (6 * i + 3)) := ⟨_, rfl⟩
  rw [← ho] at w1 w2 w4 r1 r3 ht hs hv bo
  by_cases q : o.1 = 0
  · have e152 := w4 q
    rw [q] at w1 ht
    simp (disch := omega) only [r_L_law_1078, r_L_law_1079, r_L_law_1080, r_L_law_1082, r_L_law_1083, r_L_law_1084, r_L_law_1085, r_L_law_1086, r_L_law_1088, r_L_law_1089, r_L_law_1090, r_L_law_1091, r_L_law_1092, r_L_law_1094, r_L_law_1095, r_L_law_1096, r_L_law_1097, r_L_law_1098, r_L_law_1101, r_L_law_1103, r_L_law_1104, r_L_law_1105, r_L_law_1107, r_L_law_1108, r_L_law_1109, r_L_law_1110, r_L_law_1111, r_L_law_1113, r_L_law_1114, r_L_law_1115, r_L_law_1116, r_L_law_1117, r_L_law_1119, r_L_law_1120, r_L_law_1121, r_L_law_1122, r_L_law_1125, r_L_law_1127, r_L_law_1128, r_L_law_1131, r_L_law_1133, r_L_law_1136, r_L_law_1137, r_L_law_1138, r_L_law_1140, r_L_law_1143, r_L_law_1144, r_L_law_1145, r_L_law_1146, r_L_law_1148, r_L_law_1149, r_L_law_1150, r_L_law_1153, r_L_law_1154, r_L_law_1155, up2_o, up2_e, iN_ap, iN_up, i_ix, i_inb, i_lt, i_lt0, i_0lt, i_eq, i_ne0, i_00, i_11, i_01, i_10, i_b, i_rem2, n_rem, i_add, i_mul, i_sub, i_div, i_max, i_min, rdk_0, rdk_3, kp_none, kp_int, kp_ref, kp_long, kp_double, aK_v, aK_0, aK_ite, if_true, if_false, and_self, and_true, true_and, or_false, false_or, not_true_eq_false, not_false_eq_true, ite_self, ↓reduceIte, z0, z1, z2, z4, y0, y1, f1, w1, r1, ht, e152, i64_lt, eq_self]
    exact NX_mk w2 w3 r3 r4 hs hv w5 hg
  · simp (disch := omega) only [r_L_law_1078, r_L_law_1079, r_L_law_1080, r_L_law_1082, r_L_law_1083, r_L_law_1084, r_L_law_1085, r_L_law_1086, r_L_law_1088, r_L_law_1089, r_L_law_1090, r_L_law_1091, r_L_law_1092, r_L_law_1094, r_L_law_1095, r_L_law_1096, r_L_law_1097, r_L_law_1098, r_L_law_1101, r_L_law_1103, r_L_law_1104, r_L_law_1105, r_L_law_1107, r_L_law_1108, r_L_law_1109, r_L_law_1110, r_L_law_1111, r_L_law_1113, r_L_law_1114, r_L_law_1115, r_L_law_1116, r_L_law_1117, r_L_law_1119, r_L_law_1120, r_L_law_1121, r_L_law_1122, r_L_law_1125, r_L_law_1127, r_L_law_1128, r_L_law_1131, r_L_law_1133, r_L_law_1136, r_L_law_1137, r_L_law_1138, r_L_law_1140, r_L_law_1143, r_L_law_1144, r_L_law_1145, r_L_law_1146, r_L_law_1148, r_L_law_1149, r_L_law_1150, r_L_law_1153, r_L_law_1154, r_L_law_1155, up2_o, up2_e, iN_ap, iN_up, i_ix, i_inb, i_lt, i_lt0, i_0lt, i_eq, i_ne0, i_00, i_11, i_01, i_10, i_b, i_rem2, n_rem, i_add, i_mul, i_sub, i_div, i_max, i_min, rdk_0, rdk_3, kp_none, kp_int, kp_ref, kp_long, kp_double, aK_v, aK_0, aK_ite, if_true, if_false, and_self, and_true, true_and, or_false, false_or, not_true_eq_false, not_false_eq_true, ite_self, ↓reduceIte, z0, z1, z2, z4, y0, y1, f1, w1, r1, ht, q, eq_self]
    exact NX_mk w2 w3 r3 r4 hs hv w5 hg
theorem lc_share (H : LH Z N S g i Ls) : NX Z N c i g (ex 211 1158 [some (.ref 100000), some (.ref 0), some (.ref 144), some (.ref 152), some (.int (nI (6 * i))), a5, a6, a7, a8] [] (Z, iN N, L, c)) := by
  obtain ⟨hC, hM, ⟨z1, z2⟩, ⟨y0, y1⟩, ⟨k2, k3⟩, k4, hI, hO, hS, hK, hg⟩ := H
  have z0 := hC.1.1
  have z4 := hM.1.1
  have w := w_share z0 z1 z2 (q_share (L := L) (c := c) hC hI hS (k4 (6 * i + 1)) (k4 (6 * i + 2)) (k4 (6 * i + 3)) (k4 (6 * i + 4))) (kb2 bd_share rfl rfl)
  have hs : SOK (oShr S (N 100000 (6 * i + 1)) (N 100000 (6 * i + 2)) (N 100000 (6 * i + 3)) (N 100000 (6 * i + 4))).2.2 := by rw [g3_share]; exact hS
  have hv : HSK (oShr S (N 100000 (6 * i + 1)) (N 100000 (6 * i + 2)) (N 100000 (6 * i + 3)) (N 100000 (6 * i + 4))).2.2 := by rw [g3_share]; exact hK
  have bo : (oShr S (N 100000 (6 * i + 1)) (N 100000 (6 * i + 2)) (N 100000 (6 * i + 3)) (N 100000 (6 * i + 4))).1 ≤ 2 := bd_share
  obtain ⟨N1, L1, c1, w1, w2, w3, w4, w5, w6⟩ := w
  have f1 : N1 100000 = N 100000 := w3 _ (by omega)
  obtain ⟨N2, r1, r2, r3, r4⟩ := s_mShare (L := L1) (c := c1) hM (MO_cg hO (fun a h _ => w3 a h)) (k4 (6 * i + 1)) (k4 (6 * i + 2)) (k4 (6 * i + 3)) (k4 (6 * i + 4))
  have ht := s_mThrown (N := N2) (L := L1) (c := c1) hM
  rw [r2] at ht
  obtain ⟨o, ho⟩ : ∃ o, o = oShr S (N 100000 (6 * i + 1)) (N 100000 (6 * i + 2)) (N 100000 (6 * i + 3)) (N 100000 (6 * i + 4)) := ⟨_, rfl⟩
  rw [← ho] at w1 w2 w4 r1 r3 ht hs hv bo
  by_cases q : o.1 = 0
  · have e152 := w4 q
    rw [q] at w1 ht
    simp (disch := omega) only [r_L_law_1158, r_L_law_1159, r_L_law_1160, r_L_law_1162, r_L_law_1163, r_L_law_1164, r_L_law_1165, r_L_law_1166, r_L_law_1168, r_L_law_1169, r_L_law_1170, r_L_law_1171, r_L_law_1172, r_L_law_1174, r_L_law_1175, r_L_law_1176, r_L_law_1177, r_L_law_1178, r_L_law_1180, r_L_law_1181, r_L_law_1182, r_L_law_1183, r_L_law_1184, r_L_law_1187, r_L_law_1189, r_L_law_1190, r_L_law_1191, r_L_law_1193, r_L_law_1194, r_L_law_1195, r_L_law_1196, r_L_law_1197, r_L_law_1199, r_L_law_1200, r_L_law_1201, r_L_law_1202, r_L_law_1203, r_L_law_1205, r_L_law_1206, r_L_law_1207, r_L_law_1208, r_L_law_1209, r_L_law_1211, r_L_law_1212, r_L_law_1213, r_L_law_1214, r_L_law_1217, r_L_law_1219, r_L_law_1220, r_L_law_1223, r_L_law_1225, r_L_law_1228, r_L_law_1229, r_L_law_1230, r_L_law_1232, r_L_law_1235, r_L_law_1236, r_L_law_1237, r_L_law_1238, r_L_law_1240, r_L_law_1241, r_L_law_1242, r_L_law_1245, r_L_law_1246, r_L_law_1247, up2_o, up2_e, iN_ap, iN_up, i_ix, i_inb, i_lt, i_lt0, i_0lt, i_eq, i_ne0, i_00, i_11, i_01, i_10, i_b, i_rem2, n_rem, i_add, i_mul, i_sub, i_div, i_max, i_min, rdk_0, rdk_3, kp_none, kp_int, kp_ref, kp_long, kp_double, aK_v, aK_0, aK_ite, if_true, if_false, and_self, and_true, true_and, or_false, false_or, not_true_eq_false, not_false_eq_true, ite_self, ↓reduceIte, z0, z1, z2, z4, y0, y1, f1, w1, r1, ht, e152, i64_lt, eq_self]
    exact NX_mk w2 w3 r3 r4 hs hv w5 hg
  · simp (disch := omega) only [r_L_law_1158, r_L_law_1159, r_L_law_1160, r_L_law_1162, r_L_law_1163, r_L_law_1164, r_L_law_1165, r_L_law_1166, r_L_law_1168, r_L_law_1169, r_L_law_1170, r_L_law_1171, r_L_law_1172, r_L_law_1174, r_L_law_1175, r_L_law_1176, r_L_law_1177, r_L_law_1178, r_L_law_1180, r_L_law_1181, r_L_law_1182, r_L_law_1183, r_L_law_1184, r_L_law_1187, r_L_law_1189, r_L_law_1190, r_L_law_1191, r_L_law_1193, r_L_law_1194, r_L_law_1195, r_L_law_1196, r_L_law_1197, r_L_law_1199, r_L_law_1200, r_L_law_1201, r_L_law_1202, r_L_law_1203, r_L_law_1205, r_L_law_1206, r_L_law_1207, r_L_law_1208, r_L_law_1209, r_L_law_1211, r_L_law_1212, r_L_law_1213, r_L_law_1214, r_L_law_1217, r_L_law_1219, r_L_law_1220, r_L_law_1223, r_L_law_1225, r_L_law_1228, r_L_law_1229, r_L_law_1230, r_L_law_1232, r_L_law_1235, r_L_law_1236, r_L_law_1237, r_L_law_1238, r_L_law_1240, r_L_law_1241, r_L_law_1242, r_L_law_1245, r_L_law_1246, r_L_law_1247, up2_o, up2_e, iN_ap, iN_up, i_ix, i_inb, i_lt, i_lt0, i_0lt, i_eq, i_ne0, i_00, i_11, i_01, i_10, i_b, i_rem2, n_rem, i_add, i_mul, i_sub, i_div, i_max, i_min, rdk_0, rdk_3, kp_none, kp_int, kp_ref, kp_long, kp_double, aK_v, aK_0, aK_ite, if_true, if_false, and_self, and_true, true_and, or_false, false_or, not_true_eq_false, not_false_eq_true, ite_self, ↓reduceIte, z0, z1, z2, z4, y0, y1, f1, w1, r1, ht, q, eq_self]
    exact NX_mk w2 w3 r3 r4 hs hv w5 hg
theorem lc_trade (H : LH Z N S g i Ls) : NX Z N c i g (ex 211 1250 [some (.ref 100000), some (.ref 0), some (.ref 144), some (.ref 152), some (.int (nI (6 * i))), a5, a6, a7, a8] [] (Z, iN N, L, c)) := by
  obtain ⟨hC, hM, ⟨z1, z2⟩, ⟨y0, y1⟩, ⟨k2, k3⟩, k4, hI, hO, hS, hK, hg⟩ := H
  have z0 := hC.1.1
  have z4 := hM.1.1
  have w := w_trade z0 z1 z2 (q_trade (L := L) (c := c) hC hI (k4 (6 * i + 1)) (k4 (6 * i + 2))) (kb2 bd_trade rfl rfl)
  have hs : SOK (oTrd S (N 100000 (6 * i + 1)) (N 100000 (6 * i + 2))).2.2 := by rw [g3_trade]; exact hS
  have hv : HSK (oTrd S (N 100000 (6 * i + 1)) (N 100000 (6 * i + 2))).2.2 := by rw [g3_trade]; exact hK
  have bo : (oTrd S (N 100000 (6 * i + 1)) (N 100000 (6 * i + 2))).1 ≤ 2 := bd_trade
  obtain ⟨N1, L1, c1, w1, w2, w3, w4, w5, w6⟩ := w
  have f1 : N1 100000 = N 100000 := w3 _ (by omega)
  obtain ⟨N2, r1, r2, r3, r4⟩ := s_mTrade (L := L1) (c := c1) hM (MO_cg hO (fun a h _ => w3 a h)) (k4 (6 * i + 1)) (k4 (6 * i + 2))
  have ht := s_mThrown (N := N2) (L := L1) (c := c1) hM
  rw [r2] at ht
  obtain ⟨o, ho⟩ : ∃ o, o = oTrd S (N 100000 (6 * i + 1)) (N 100000 (6 * i + 2)) := ⟨_, rfl⟩
  rw [← ho] at w1 w2 w4 r1 r3 ht hs hv bo
  by_cases q : o.1 = 0
  · have e152 := w4 q
    rw [q] at w1 ht
    simp (disch := omega) only [r_L_law_1250, r_L_law_1251, r_L_law_1252, r_L_law_1254, r_L_law_1255, r_L_law_1256, r_L_law_1257, r_L_law_1258, r_L_law_1260, r_L_law_1261, r_L_law_1262, r_L_law_1263, r_L_law_1264, r_L_law_1267, r_L_law_1269, r_L_law_1270, r_L_law_1271, r_L_law_1273, r_L_law_1274, r_L_law_1275, r_L_law_1276, r_L_law_1277, r_L_law_1279, r_L_law_1280, r_L_law_1281, r_L_law_1282, r_L_law_1285, r_L_law_1287, r_L_law_1288, r_L_law_1291, r_L_law_1293, r_L_law_1296, r_L_law_1297, r_L_law_1298, r_L_law_1300, r_L_law_1303, r_L_law_1304, r_L_law_1305, r_L_law_1306, r_L_law_1308, r_L_law_1309, r_L_law_1310, r_L_law_1313, r_L_law_1314, r_L_law_1315, up2_o, up2_e, iN_ap, iN_up, i_ix, i_inb, i_lt, i_lt0, i_0lt, i_eq, i_ne0, i_00, i_11, i_01, i_10, i_b, i_rem2, n_rem, i_add, i_mul, i_sub, i_div, i_max, i_min, rdk_0, rdk_3, kp_none, kp_int, kp_ref, kp_long, kp_double, aK_v, aK_0, aK_ite, if_true, if_false, and_self, and_true, true_and, or_false, false_or, not_true_eq_false, not_false_eq_true, ite_self, ↓reduceIte, z0, z1, z2, z4, y0, y1, f1, w1, r1, ht, e152, i64_lt, eq_self]
    exact NX_mk w2 w3 r3 r4 hs hv w5 hg
  · simp (disch := omega) only [r_L_law_1250, r_L_law_1251, r_L_law_1252, r_L_law_1254, r_L_law_1255, r_L_law_1256, r_L_law_1257, r_L_law_1258, r_L_law_1260, r_L_law_1261, r_L_law_1262, r_L_law_1263, r_L_law_1264, r_L_law_1267, r_L_law_1269, r_L_law_1270, r_L_law_1271, r_L_law_1273, r_L_law_1274, r_L_law_1275, r_L_law_1276, r_L_law_1277, r_L_law_1279, r_L_law_1280, r_L_law_1281, r_L_law_1282, r_L_law_1285, r_L_law_1287, r_L_law_1288, r_L_law_1291, r_L_law_1293, r_L_law_1296, r_L_law_1297, r_L_law_1298, r_L_law_1300, r_L_law_1303, r_L_law_1304, r_L_law_1305, r_L_law_1306, r_L_law_1308, r_L_law_1309, r_L_law_1310, r_L_law_1313, r_L_law_1314, r_L_law_1315, up2_o, up2_e, iN_ap, iN_up, i_ix, i_inb, i_lt, i_lt0, i_0lt, i_eq, i_ne0, i_00, i_11, i_01, i_10, i_b, i_rem2, n_rem, i_add, i_mul, i_sub, i_div, i_max, i_min, rdk_0, rdk_3, kp_none, kp_int, kp_ref, kp_long, kp_double, aK_v, aK_0, aK_ite, if_true, if_false, and_self, and_true, true_and, or_false, false_or, not_true_eq_false, not_false_eq_true, ite_self, ↓reduceIte, z0, z1, z2, z4, y0, y1, f1, w1, r1, ht, q, eq_self]
    exact NX_mk w2 w3 r3 r4 hs hv w5 hg
theorem lc_day (H : LH Z N S g i Ls) : NX Z N c i g (ex 211 1318 [some (.ref 100000), some (.ref 0), some (.ref 144), some (.ref 152), some (.int (nI (6 * i))), a5, a6, a7, a8] [] (Z, iN N, L, c)) := by
  obtain ⟨hC, hM, ⟨z1, z2⟩, ⟨y0, y1⟩, ⟨k2, k3⟩, k4, hI, hO, hS, hK, hg⟩ := H
  have z0 := hC.1.1
  have z4 := hM.1.1
  have w := w_day z0 z1 z2 (q_day (L := L) (c := c) hC hI hS (k4 (6 * i + 1)) (k4 (6 * i + 2))) (kb1 bd_day rfl)
  have hs : SOK (oDay S (N 100000 (6 * i + 1)) (N 100000 (6 * i + 2))).2.2 := by rw [g3_day]; exact hS
  have hv : HSK (oDay S (N 100000 (6 * i + 1)) (N 100000 (6 * i + 2))).2.2 := by rw [g3_day]; exact hK
  have bo : (oDay S (N 100000 (6 * i + 1)) (N 100000 (6 * i + 2))).1 ≤ 1 := bd_day
  obtain ⟨N1, L1, c1, w1, w2, w3, w4, w5, w6⟩ := w
  have f1 : N1 100000 = N 100000 := w3 _ (by omega)
  obtain ⟨N2, r1, r2, r3, r4⟩ := s_mDay (L := L1) (c := c1) hM (MO_cg hO (fun a h _ => w3 a h)) (k4 (6 * i + 1)) (k4 (6 * i + 2))
  have ht := s_mThrown (N := N2) (L := L1) (c := c1) hM
  rw [r2] at ht
  obtain ⟨o, ho⟩ : ∃ o, o = oDay S (N 100000 (6 * i + 1)) (N 100000 (6 * i + 2)) := ⟨_, rfl⟩
  rw [← ho] at w1 w2 w4 r1 r3 ht hs hv bo
  by_cases q : o.1 = 0
  · have e152 := w4 q
    rw [q] at w1 ht
    simp (disch := omega) only [r_L_law_1318, r_L_law_1319, r_L_law_1320, r_L_law_1322, r_L_law_1323, r_L_law_1324, r_L_law_1325, r_L_law_1326, r_L_law_1328, r_L_law_1329, r_L_law_1330, r_L_law_1331, r_L_law_1332, r_L_law_1335, r_L_law_1337, r_L_law_1338, r_L_law_1339, r_L_law_1341, r_L_law_1342, r_L_law_1343, r_L_law_1344, r_L_law_1345, r_L_law_1347, r_L_law_1348, r_L_law_1349, r_L_law_1350, r_L_law_1353, r_L_law_1355, r_L_law_1356, r_L_law_1359, r_L_law_1361, r_L_law_1364, r_L_law_1365, r_L_law_1366, r_L_law_1368, r_L_law_1371, r_L_law_1372, r_L_law_1373, r_L_law_1374, r_L_law_1376, r_L_law_1377, r_L_law_1378, r_L_law_1381, r_L_law_1382, r_L_law_1383, up2_o, up2_e, iN_ap, iN_up, i_ix, i_inb, i_lt, i_lt0, i_0lt, i_eq, i_ne0, i_00, i_11, i_01, i_10, i_b, i_rem2, n_rem, i_add, i_mul, i_sub, i_div, i_max, i_min, rdk_0, rdk_3, kp_none, kp_int, kp_ref, kp_long, kp_double, aK_v, aK_0, aK_ite, if_true, if_false, and_self, and_true, true_and, or_false, false_or, not_true_eq_false, not_false_eq_true, ite_self, ↓reduceIte, z0, z1, z2, z4, y0, y1, f1, w1, r1, ht, e152, i64_lt, eq_self]
    exact NX_mk w2 w3 r3 r4 hs hv w5 hg
  · simp (disch := omega) only [r_L_law_1318, r_L_law_1319, r_L_law_1320, r_L_law_1322, r_L_law_1323, r_L_law_1324, r_L_law_1325, r_L_law_1326, r_L_law_1328, r_L_law_1329, r_L_law_1330, r_L_law_1331, r_L_law_1332, r_L_law_1335, r_L_law_1337, r_L_law_1338, r_L_law_1339, r_L_law_1341, r_L_law_1342, r_L_law_1343, r_L_law_1344, r_L_law_1345, r_L_law_1347, r_L_law_1348, r_L_law_1349, r_L_law_1350, r_L_law_1353, r_L_law_1355, r_L_law_1356, r_L_law_1359, r_L_law_1361, r_L_law_1364, r_L_law_1365, r_L_law_1366, r_L_law_1368, r_L_law_1371, r_L_law_1372, r_L_law_1373, r_L_law_1374, r_L_law_1376, r_L_law_1377, r_L_law_1378, r_L_law_1381, r_L_law_1382, r_L_law_1383, up2_o, up2_e, iN_ap, iN_up, i_ix, i_inb, i_lt, i_lt0, i_0lt, i_eq, i_ne0, i_00, i_11, i_01, i_10, i_b, i_rem2, n_rem, i_add, i_mul, i_sub, i_div, i_max, i_min, rdk_0, rdk_3, kp_none, kp_int, kp_ref, kp_long, kp_double, aK_v, aK_0, aK_ite, if_true, if_false, and_self, and_true, true_and, or_false, false_or, not_true_eq_false, not_false_eq_true, ite_self, ↓reduceIte, z0, z1, z2, z4, y0, y1, f1, w1, r1, ht, q, eq_self]
    exact NX_mk w2 w3 r3 r4 hs hv w5 hg
theorem lc_count (H : LH Z N S g i Ls) : NX Z N c i g (ex 211 1386 [some (.ref 100000), some (.ref 0), some (.ref 144), some (.ref 152), some (.int (nI (6 * i))), a5, a6, a7, a8] [] (Z, iN N, L, c)) := by
  obtain ⟨hC, hM, ⟨z1, z2⟩, ⟨y0, y1⟩, ⟨k2, k3⟩, k4, hI, hO, hS, hK, hg⟩ := H
  have z0 := hC.1.1
  have z4 := hM.1.1
  have w := w_count z0 z1 z2 (q_count (L := L) (c := c) hC hI hS (k4 (6 * i + 1))) (kb1 bd_count rfl)
  have hs : SOK (oCnt S (N 100000 (6 * i + 1))).2.2 := by rw [g3_count]; exact hS
  have hv : HSK (oCnt S (N 100000 (6 * i + 1))).2.2 := by rw [g3_count]; exact hK
  have bo : (oCnt S (N 100000 (6 * i + 1))).1 ≤ 1 := bd_count
  obtain ⟨N1, L1, c1, w1, w2, w3, w4, w5, w6⟩ := w
  have f1 : N1 100000 = N 100000 := w3 _ (by omega)
  obtain ⟨N2, r1, r2, r3, r4⟩ := s_mCount (L := L1) (c := c1) hM (MO_cg hO (fun a h _ => w3 a h)) (k4 (6 * i + 1))
  have ht := s_mThrown (N := N2) (L := L1) (c := c1) hM
  rw [r2] at ht
  obtain ⟨o, ho⟩ : ∃ o, o = oCnt S (N 100000 (6 * i + 1)) := ⟨_, rfl⟩
  rw [← ho] at w1 w2 w4 r1 r3 ht hs hv bo
  by_cases q : o.1 = 0
  · have e152 := w4 q
    rw [q] at w1 ht
    simp (disch := omega) only [r_L_law_1386, r_L_law_1387, r_L_law_1388, r_L_law_1390, r_L_law_1391, r_L_law_1392, r_L_law_1393, r_L_law_1394, r_L_law_1397, r_L_law_1399, r_L_law_1400, r_L_law_1401, r_L_law_1403, r_L_law_1404, r_L_law_1405, r_L_law_1406, r_L_law_1409, r_L_law_1411, r_L_law_1412, r_L_law_1415, r_L_law_1417, r_L_law_1420, r_L_law_1421, r_L_law_1422, r_L_law_1424, r_L_law_1427, r_L_law_1428, r_L_law_1429, r_L_law_1430, r_L_law_1432, r_L_law_1433, r_L_law_1434, r_L_law_1437, r_L_law_1438, r_L_law_1439, up2_o, up2_e, iN_ap, iN_up, i_ix, i_inb, i_lt, i_lt0, i_0lt, i_eq, i_ne0, i_00, i_11, i_01, i_10, i_b, i_rem2, n_rem, i_add, i_mul, i_sub, i_div, i_max, i_min, rdk_0, rdk_3, kp_none, kp_int, kp_ref, kp_long, kp_double, aK_v, aK_0, aK_ite, if_true, if_false, and_self, and_true, true_and, or_false, false_or, not_true_eq_false, not_false_eq_true, ite_self, ↓reduceIte, z0, z1, z2, z4, y0, y1, f1, w1, r1, ht, e152, i64_lt, eq_self]
    exact NX_mk w2 w3 r3 r4 hs hv w5 hg
  · simp (disch := omega) only [r_L_law_1386, r_L_law_1387, r_L_law_1388, r_L_law_1390, r_L_law_1391, r_L_law_1392, r_L_law_1393, r_L_law_1394, r_L_law_1397, r_L_law_1399, r_L_law_1400, r_L_law_1401, r_L_law_1403, r_L_law_1404, r_L_law_1405, r_L_law_1406, r_L_law_1409, r_L_law_1411, r_L_law_1412, r_L_law_1415, r_L_law_1417, r_L_law_1420, r_L_law_1421, r_L_law_1422, r_L_law_1424, r_L_law_1427, r_L_law_1428, r_L_law_1429, r_L_law_1430, r_L_law_1432, r_L_law_1433, r_L_law_1434, r_L_law_1437, r_L_law_1438, r_L_law_1439, up2_o, up2_e, iN_ap, iN_up, i_ix, i_inb, i_lt, i_lt0, i_0lt, i_eq, i_ne0, i_00, i_11, i_01, i_10, i_b, i_rem2, n_rem, i_add, i_mul, i_sub, i_div, i_max, i_min, rdk_0, rdk_3, kp_none, kp_int, kp_ref, kp_long, kp_double, aK_v, aK_0, aK_ite, if_true, if_false, and_self, and_true, true_and, or_false, false_or, not_true_eq_false, not_false_eq_true, ite_self, ↓reduceIte, z0, z1, z2, z4, y0, y1, f1, w1, r1, ht, q, eq_self]
    exact NX_mk w2 w3 r3 r4 hs hv w5 hg
theorem lc_setting (H : LH Z N S g i Ls) : NX Z N c i g (ex 211 1442 [some (.ref 100000), some (.ref 0), some (.ref 144), some (.ref 152), some (.int (nI (6 * i))), a5, a6, a7, a8] [] (Z, iN N, L, c)) := by
  obtain ⟨hC, hM, ⟨z1, z2⟩, ⟨y0, y1⟩, ⟨k2, k3⟩, k4, hI, hO, hS, hK, hg⟩ := H
  have z0 := hC.1.1
  have z4 := hM.1.1
  have w := w_setting z0 z1 z2 (q_setting (L := L) (c := c) hC hI (k4 (6 * i + 1))) (kb1 bd_setting rfl)
  have hs : SOK (oStg S (N 100000 (6 * i + 1))).2.2 := by rw [g3_setting]; exact hS
  have hv : HSK (oStg S (N 100000 (6 * i + 1))).2.2 := by rw [g3_setting]; exact hK
  have bo : (oStg S (N 100000 (6 * i + 1))).1 ≤ 1 := bd_setting
  obtain ⟨N1, L1, c1, w1, w2, w3, w4, w5, w6⟩ := w
  have f1 : N1 100000 = N 100000 := w3 _ (by omega)
  obtain ⟨N2, r1, r2, r3, r4⟩ := s_mSetting (L := L1) (c := c1) hM (MO_cg hO (fun a h _ => w3 a h)) (k4 (6 * i + 1))
  have ht := s_mThrown (N := N2) (L := L1) (c := c1) hM
  rw [r2] at ht
  obtain ⟨o, ho⟩ : ∃ o, o = oStg S (N 100000 (6 * i + 1)) := ⟨_, rfl⟩
  rw [← ho] at w1 w2 w4 r1 r3 ht hs hv bo
  by_cases q : o.1 = 0
  · have e152 := w4 q
    rw [q] at w1 ht
    simp (disch := omega) only [r_L_law_1442, r_L_law_1443, r_L_law_1444, r_L_law_1446, r_L_law_1447, r_L_law_1448, r_L_law_1449, r_L_law_1450, r_L_law_1453, r_L_law_1455, r_L_law_1456, r_L_law_1457, r_L_law_1459, r_L_law_1460, r_L_law_1461, r_L_law_1462, r_L_law_1465, r_L_law_1467, r_L_law_1468, r_L_law_1471, r_L_law_1473, r_L_law_1476, r_L_law_1477, r_L_law_1478, r_L_law_1480, r_L_law_1483, r_L_law_1484, r_L_law_1485, r_L_law_1486, r_L_law_1488, r_L_law_1489, r_L_law_1490, r_L_law_1493, r_L_law_1494, r_L_law_1495, up2_o, up2_e, iN_ap, iN_up, i_ix, i_inb, i_lt, i_lt0, i_0lt, i_eq, i_ne0, i_00, i_11, i_01, i_10, i_b, i_rem2, n_rem, i_add, i_mul, i_sub, i_div, i_max, i_min, rdk_0, rdk_3, kp_none, kp_int, kp_ref, kp_long, kp_double, aK_v, aK_0, aK_ite, if_true, if_false, and_self, and_true, true_and, or_false, false_or, not_true_eq_false, not_false_eq_true, ite_self, ↓reduceIte, z0, z1, z2, z4, y0, y1, f1, w1, r1, ht, e152, i64_lt, eq_self]
    exact NX_mk w2 w3 r3 r4 hs hv w5 hg
  · simp (disch := omega) only [r_L_law_1442, r_L_law_1443, r_L_law_1444, r_L_law_1446, r_L_law_1447, r_L_law_1448, r_L_law_1449, r_L_law_1450, r_L_law_1453, r_L_law_1455, r_L_law_1456, r_L_law_1457, r_L_law_1459, r_L_law_1460, r_L_law_1461, r_L_law_1462, r_L_law_1465, r_L_law_1467, r_L_law_1468, r_L_law_1471, r_L_law_1473, r_L_law_1476, r_L_law_1477, r_L_law_1478, r_L_law_1480, r_L_law_1483, r_L_law_1484, r_L_law_1485, r_L_law_1486, r_L_law_1488, r_L_law_1489, r_L_law_1490, r_L_law_1493, r_L_law_1494, r_L_law_1495, up2_o, up2_e, iN_ap, iN_up, i_ix, i_inb, i_lt, i_lt0, i_0lt, i_eq, i_ne0, i_00, i_11, i_01, i_10, i_b, i_rem2, n_rem, i_add, i_mul, i_sub, i_div, i_max, i_min, rdk_0, rdk_3, kp_none, kp_int, kp_ref, kp_long, kp_double, aK_v, aK_0, aK_ite, if_true, if_false, and_self, and_true, true_and, or_false, false_or, not_true_eq_false, not_false_eq_true, ite_self, ↓reduceIte, z0, z1, z2, z4, y0, y1, f1, w1, r1, ht, q, eq_self]
    exact NX_mk w2 w3 r3 r4 hs hv w5 hg
theorem lc_bestDay (H : LH Z N S g i Ls) : NX Z N c i g (ex 211 1511 [some (.ref 100000), some (.ref 0), some (.ref 144), some (.ref 152), some (.int (nI (6 * i))), a5, a6, a7, a8] [] (Z, iN N, L, c)) := by
  obtain ⟨hC, hM, ⟨z1, z2⟩, ⟨y0, y1⟩, ⟨k2, k3⟩, k4, hI, hO, hS, hK, hg⟩ := H
  have z0 := hC.1.1
  have z4 := hM.1.1
  have w := w_bestDay z0 z1 z2 (q_best (L := L) (c := c) hC hI hS (k4 (6 * i + 1))) (kb1 bd_bestDay rfl)
  have hs : SOK (oBst S (N 100000 (6 * i + 1))).2.2 := by rw [g3_bestDay]; exact hS
  have hv : HSK (oBst S (N 100000 (6 * i + 1))).2.2 := by rw [g3_bestDay]; exact hK
  have bo : (oBst S (N 100000 (6 * i + 1))).1 ≤ 1 := bd_bestDay
  obtain ⟨N1, L1, c1, w1, w2, w3, w4, w5, w6⟩ := w
  have f1 : N1 100000 = N 100000 := w3 _ (by omega)
  obtain ⟨N2, r1, r2, r3, r4⟩ := s_mBest (L := L1) (c := c1) hM (MO_cg hO (fun a h _ => w3 a h)) (k4 (6 * i + 1))
  have ht := s_mThrown (N := N2) (L := L1) (c := c1) hM
  rw [r2] at ht
  obtain ⟨o, ho⟩ : ∃ o, o = oBst S (N 100000 (6 * i + 1)) := ⟨_, rfl⟩
  rw [← ho] at w1 w2 w4 r1 r3 ht hs hv bo
  by_cases q : o.1 = 0
  · have e152 := w4 q
    rw [q] at w1 ht
    simp (disch := omega) only [r_L_law_1511, r_L_law_1512, r_L_law_1513, r_L_law_1515, r_L_law_1516, r_L_law_1517, r_L_law_1518, r_L_law_1519, r_L_law_1522, r_L_law_1524, r_L_law_1525, r_L_law_1526, r_L_law_1528, r_L_law_1529, r_L_law_1530, r_L_law_1531, r_L_law_1534, r_L_law_1536, r_L_law_1537, r_L_law_1540, r_L_law_1542, r_L_law_1545, r_L_law_1546, r_L_law_1547, r_L_law_1549, r_L_law_1552, r_L_law_1553, r_L_law_1554, r_L_law_1555, r_L_law_1557, r_L_law_1558, r_L_law_1559, r_L_law_1562, r_L_law_1563, r_L_law_1564, up2_o, up2_e, iN_ap, iN_up, i_ix, i_inb, i_lt, i_lt0, i_0lt, i_eq, i_ne0, i_00, i_11, i_01, i_10, i_b, i_rem2, n_rem, i_add, i_mul, i_sub, i_div, i_max, i_min, rdk_0, rdk_3, kp_none, kp_int, kp_ref, kp_long, kp_double, aK_v, aK_0, aK_ite, if_true, if_false, and_self, and_true, true_and, or_false, false_or, not_true_eq_false, not_false_eq_true, ite_self, ↓reduceIte, z0, z1, z2, z4, y0, y1, f1, w1, r1, ht, e152, i64_lt, eq_self]
    exact NX_mk w2 w3 r3 r4 hs hv w5 hg
  · simp (disch := omega) only [r_L_law_1511, r_L_law_1512, r_L_law_1513, r_L_law_1515, r_L_law_1516, r_L_law_1517, r_L_law_1518, r_L_law_1519, r_L_law_1522, r_L_law_1524, r_L_law_1525, r_L_law_1526, r_L_law_1528, r_L_law_1529, r_L_law_1530, r_L_law_1531, r_L_law_1534, r_L_law_1536, r_L_law_1537, r_L_law_1540, r_L_law_1542, r_L_law_1545, r_L_law_1546, r_L_law_1547, r_L_law_1549, r_L_law_1552, r_L_law_1553, r_L_law_1554, r_L_law_1555, r_L_law_1557, r_L_law_1558, r_L_law_1559, r_L_law_1562, r_L_law_1563, r_L_law_1564, up2_o, up2_e, iN_ap, iN_up, i_ix, i_inb, i_lt, i_lt0, i_0lt, i_eq, i_ne0, i_00, i_11, i_01, i_10, i_b, i_rem2, n_rem, i_add, i_mul, i_sub, i_div, i_max, i_min, rdk_0, rdk_3, kp_none, kp_int, kp_ref, kp_long, kp_double, aK_v, aK_0, aK_ite, if_true, if_false, and_self, and_true, true_and, or_false, false_or, not_true_eq_false, not_false_eq_true, ite_self, ↓reduceIte, z0, z1, z2, z4, y0, y1, f1, w1, r1, ht, q, eq_self]
    exact NX_mk w2 w3 r3 r4 hs hv w5 hg
theorem lc_ifPassed (H : LH Z N S g i Ls) : NX Z N c i g (ex 211 1567 [some (.ref 100000), some (.ref 0), some (.ref 144), some (.ref 152), some (.int (nI (6 * i))), a5, a6, a7, a8] [] (Z, iN N, L, c)) := by
  obtain ⟨hC, hM, ⟨z1, z2⟩, ⟨y0, y1⟩, ⟨k2, k3⟩, k4, hI, hO, hS, hK, hg⟩ := H
  have z0 := hC.1.1
  have z4 := hM.1.1
  have w := w_ifPassed z0 z1 z2 (q_ifp (L := L) (c := c) hC hI hS (k4 (6 * i + 1)) (k4 (6 * i + 2))) (kb2 bd_ifPassed rfl rfl)
  have hs : SOK (oIfp S (N 100000 (6 * i + 1)) (N 100000 (6 * i + 2))).2.2 := by rw [g3_ifPassed]; exact hS
  have hv : HSK (oIfp S (N 100000 (6 * i + 1)) (N 100000 (6 * i + 2))).2.2 := by rw [g3_ifPassed]; exact hK
  have bo : (oIfp S (N 100000 (6 * i + 1)) (N 100000 (6 * i + 2))).1 ≤ 2 := bd_ifPassed
  obtain ⟨N1, L1, c1, w1, w2, w3, w4, w5, w6⟩ := w
  have f1 : N1 100000 = N 100000 := w3 _ (by omega)
  obtain ⟨N2, r1, r2, r3, r4⟩ := s_mIfPassed (L := L1) (c := c1) hM (MO_cg hO (fun a h _ => w3 a h)) (k4 (6 * i + 1)) (k4 (6 * i + 2))
  have ht := s_mThrown (N := N2) (L := L1) (c := c1) hM
  rw [r2] at ht
  obtain ⟨o, ho⟩ : ∃ o, o = oIfp S (N 100000 (6 * i + 1)) (N 100000 (6 * i + 2)) := ⟨_, rfl⟩
  rw [← ho] at w1 w2 w4 r1 r3 ht hs hv bo
  by_cases q : o.1 = 0
  · have e152 := w4 q
    rw [q] at w1 ht
    simp (disch := omega) only [r_L_law_1567, r_L_law_1568, r_L_law_1569, r_L_law_1571, r_L_law_1572, r_L_law_1573, r_L_law_1574, r_L_law_1575, r_L_law_1577, r_L_law_1578, r_L_law_1579, r_L_law_1580, r_L_law_1581, r_L_law_1584, r_L_law_1586, r_L_law_1587, r_L_law_1588, r_L_law_1590, r_L_law_1591, r_L_law_1592, r_L_law_1593, r_L_law_1594, r_L_law_1596, r_L_law_1597, r_L_law_1598, r_L_law_1599, r_L_law_1602, r_L_law_1604, r_L_law_1605, r_L_law_1608, r_L_law_1610, r_L_law_1613, r_L_law_1614, r_L_law_1615, r_L_law_1617, r_L_law_1620, r_L_law_1621, r_L_law_1622, r_L_law_1623, r_L_law_1625, r_L_law_1626, r_L_law_1627, r_L_law_1630, r_L_law_1631, r_L_law_1632, up2_o, up2_e, iN_ap, iN_up, i_ix, i_inb, i_lt, i_lt0, i_0lt, i_eq, i_ne0, i_00, i_11, i_01, i_10, i_b, i_rem2, n_rem, i_add, i_mul, i_sub, i_div, i_max, i_min, rdk_0, rdk_3, kp_none, kp_int, kp_ref, kp_long, kp_double, aK_v, aK_0, aK_ite, if_true, if_false, and_self, and_true, true_and, or_false, false_or, not_true_eq_false, not_false_eq_true, ite_self, ↓reduceIte, z0, z1, z2, z4, y0, y1, f1, w1, r1, ht, e152, i64_lt, eq_self]
    exact NX_mk w2 w3 r3 r4 hs hv w5 hg
  · simp (disch := omega) only [r_L_law_1567, r_L_law_1568, r_L_law_1569, r_L_law_1571, r_L_law_1572, r_L_law_1573, r_L_law_1574, r_L_law_1575, r_L_law_1577, r_L_law_1578, r_L_law_1579, r_L_law_1580, r_L_law_1581, r_L_law_1584, r_L_law_1586, r_L_law_1587, r_L_law_1588, r_L_law_1590, r_L_law_1591, r_L_law_1592, r_L_law_1593, r_L_law_1594, r_L_law_1596, r_L_law_1597, r_L_law_1598, r_L_law_1599, r_L_law_1602, r_L_law_1604, r_L_law_1605, r_L_law_1608, r_L_law_1610, r_L_law_1613, r_L_law_1614, r_L_law_1615, r_L_law_1617, r_L_law_1620, r_L_law_1621, r_L_law_1622, r_L_law_1623, r_L_law_1625, r_L_law_1626, r_L_law_1627, r_L_law_1630, r_L_law_1631, r_L_law_1632, up2_o, up2_e, iN_ap, iN_up, i_ix, i_inb, i_lt, i_lt0, i_0lt, i_eq, i_ne0, i_00, i_11, i_01, i_10, i_b, i_rem2, n_rem, i_add, i_mul, i_sub, i_div, i_max, i_min, rdk_0, rdk_3, kp_none, kp_int, kp_ref, kp_long, kp_double, aK_v, aK_0, aK_ite, if_true, if_false, and_self, and_true, true_and, or_false, false_or, not_true_eq_false, not_false_eq_true, ite_self, ↓reduceIte, z0, z1, z2, z4, y0, y1, f1, w1, r1, ht, q, eq_self]
    exact NX_mk w2 w3 r3 r4 hs hv w5 hg
theorem lc_clear (H : LH Z N S g i Ls) : NX Z N c i g (ex 211 824 [some (.ref 100000), some (.ref 0), some (.ref 144), some (.ref 152), some (.int (nI (6 * i))), a5, a6, a7, a8] [] (Z, iN N, L, c)) := by
  obtain ⟨hC, hM, ⟨z1, z2⟩, ⟨y0, y1⟩, ⟨k2, k3⟩, k4, hI, hO, hS, hK, hg⟩ := H
  have z0 := hC.1.1
  have z4 := hM.1.1
  obtain ⟨N1, w1, w2, w3⟩ := q_clear (L := L) (c := c) hC hI
  obtain ⟨N2, r1, r2, r3, r4⟩ := s_mClear (L := L) (c := c) hM (MO_cg hO (fun a h _ => w3 a h))
  rw [if_pos (show (oClr S).1 = 0 from rfl)] at w1
  simp (disch := omega) only [r_L_law_824, r_L_law_825, r_L_law_828, r_L_law_829, r_L_law_832, r_L_law_835, r_L_law_836, up2_o, up2_e, iN_ap, iN_up, i_ix, i_inb, i_lt, i_lt0, i_0lt, i_eq, i_ne0, i_00, i_11, i_01, i_10, i_b, i_rem2, n_rem, i_add, i_mul, i_sub, i_div, i_max, i_min, rdk_0, rdk_3, kp_none, kp_int, kp_ref, kp_long, kp_double, aK_v, aK_0, aK_ite, if_true, if_false, and_self, and_true, true_and, or_false, false_or, not_true_eq_false, not_false_eq_true, ite_self, ↓reduceIte, z0, z1, z2, z4, y0, y1, w1, r1, eq_self]
  exact NX_mk w2 w3 r3 r4 (SOK_clr hS) hK (Or.inl rfl) hg
theorem lc_ends (H : LH Z N S g i Ls) : NX Z N c i g (ex 211 1498 [some (.ref 100000), some (.ref 0), some (.ref 144), some (.ref 152), some (.int (nI (6 * i))), a5, a6, a7, a8] [] (Z, iN N, L, c)) := by
  obtain ⟨hC, hM, ⟨z1, z2⟩, ⟨y0, y1⟩, ⟨k2, k3⟩, k4, hI, hO, hS, hK, hg⟩ := H
  have z0 := hC.1.1
  have z4 := hM.1.1
  obtain ⟨N1, w1, w2, w3⟩ := q_ends (L := L) (c := c) hC hI hS
  obtain ⟨N2, r1, r2, r3, r4⟩ := s_mEnds (L := L) (c := c) hM (MO_cg hO (fun a h _ => w3 a h))
  rw [if_pos (show (oEnd S).1 = 0 from rfl)] at w1
  simp (disch := omega) only [r_L_law_1498, r_L_law_1499, r_L_law_1502, r_L_law_1503, r_L_law_1506, r_L_law_1509, r_L_law_1510, up2_o, up2_e, iN_ap, iN_up, i_ix, i_inb, i_lt, i_lt0, i_0lt, i_eq, i_ne0, i_00, i_11, i_01, i_10, i_b, i_rem2, n_rem, i_add, i_mul, i_sub, i_div, i_max, i_min, rdk_0, rdk_3, kp_none, kp_int, kp_ref, kp_long, kp_double, aK_v, aK_0, aK_ite, if_true, if_false, and_self, and_true, true_and, or_false, false_or, not_true_eq_false, not_false_eq_true, ite_self, ↓reduceIte, z0, z1, z2, z4, y0, y1, w1, r1, eq_self]
  exact NX_mk w2 w3 r3 r4 hS hK (Or.inl rfl) hg
theorem lc_worst (H : LH Z N S g i Ls) : NX Z N c i g (ex 211 1635 [some (.ref 100000), some (.ref 0), some (.ref 144), some (.ref 152), some (.int (nI (6 * i))), a5, a6, a7, a8] [] (Z, iN N, L, c)) := by
  obtain ⟨hC, hM, ⟨z1, z2⟩, ⟨y0, y1⟩, ⟨k2, k3⟩, k4, hI, hO, hS, hK, hg⟩ := H
  have z0 := hC.1.1
  have z4 := hM.1.1
  obtain ⟨N1, w1, w2, w3⟩ := q_worst (L := L) (c := c) hC hI hS
  obtain ⟨N2, r1, r2, r3, r4⟩ := s_mWorst (L := L) (c := c) hM (MO_cg hO (fun a h _ => w3 a h))
  rw [if_pos (show (oWrs S).1 = 0 from rfl)] at w1
  simp (disch := omega) only [r_L_law_1635, r_L_law_1636, r_L_law_1639, r_L_law_1640, r_L_law_1643, r_L_law_1646, r_L_law_1647, up2_o, up2_e, iN_ap, iN_up, i_ix, i_inb, i_lt, i_lt0, i_0lt, i_eq, i_ne0, i_00, i_11, i_01, i_10, i_b, i_rem2, n_rem, i_add, i_mul, i_sub, i_div, i_max, i_min, rdk_0, rdk_3, kp_none, kp_int, kp_ref, kp_long, kp_double, aK_v, aK_0, aK_ite, if_true, if_false, and_self, and_true, true_and, or_false, false_or, not_true_eq_false, not_false_eq_true, ite_self, ↓reduceIte, z0, z1, z2, z4, y0, y1, w1, r1, eq_self]
  exact NX_mk w2 w3 r3 r4 hS hK (Or.inl rfl) hg
theorem lc_first (H : LH Z N S g i Ls) : NX Z N c i g (ex 211 837 [some (.ref 100000), some (.ref 0), some (.ref 144), some (.ref 152), some (.int (nI (6 * i))), a5, a6, a7, a8] [] (Z, iN N, L, c)) := by
  obtain ⟨hC, hM, ⟨z1, z2⟩, ⟨y0, y1⟩, ⟨k2, k3⟩, k4, hI, hO, hS, hK, hg⟩ := H
  have z0 := hC.1.1
  have z4 := hM.1.1
  have hx : ∀ x ∈ S.2.2, x < 1000 := fun x hx => by have := hS.2.2.2.2 x hx; omega
  have k41 := k4 (6 * i + 1)
  by_cases q : N 100000 (6 * i + 1) = 0
  · obtain ⟨N1, w1, w2, w3⟩ := q_first (L := L) (c := c) (b := 0) hC hI hS (by omega)
    have f1 : N1 100000 = N 100000 := w3 _ (by omega)
    obtain ⟨N2, r1, r2, r3, r4⟩ := s_mFirst (L := L) (c := c) (b := 0) hM (MO_cg hO (fun a h _ => w3 a h)) hS.2.2.2.1 hx (by omega)
    rw [if_pos (show (oFst S 0).1 = 0 from rfl)] at w1
    simp (disch := omega) only [r_L_law_837, r_L_law_838, r_L_law_839, r_L_law_841, r_L_law_842, r_L_law_843, r_L_law_844, r_L_law_847, r_L_law_848, r_L_law_851, r_L_law_852, r_L_law_855, r_L_law_856, r_L_law_857, r_L_law_859, r_L_law_860, r_L_law_861, r_L_law_862, r_L_law_865, r_L_law_866, r_L_law_869, r_L_law_870, r_L_law_873, r_L_law_876, r_L_law_877, up2_o, up2_e, iN_ap, iN_up, i_ix, i_inb, i_lt, i_lt0, i_0lt, i_eq, i_ne0, i_00, i_11, i_01, i_10, i_b, i_rem2, n_rem, i_add, i_mul, i_sub, i_div, i_max, i_min, rdk_0, rdk_3, kp_none, kp_int, kp_ref, kp_long, kp_double, aK_v, aK_0, aK_ite, if_true, if_false, and_self, and_true, true_and, or_false, false_or, not_true_eq_false, not_false_eq_true, ite_self, ↓reduceIte, z0, z1, z2, z4, y0, y1, f1, w1, r1, q, eq_self]
    exact NX_mk w2 w3 r3 r4 hS hK (Or.inl rfl) hg
  · obtain ⟨N1, w1, w2, w3⟩ := q_first (L := L) (c := c) (b := 1) hC hI hS (by omega)
    have f1 : N1 100000 = N 100000 := w3 _ (by omega)
    obtain ⟨N2, r1, r2, r3, r4⟩ := s_mFirst (L := L) (c := c) (b := 1) hM (MO_cg hO (fun a h _ => w3 a h)) hS.2.2.2.1 hx (by omega)
    rw [if_pos (show (oFst S 1).1 = 0 from rfl)] at w1
    have qz : (nI (N 100000 (6 * i + 1)) = 0) = False := by
      rw [← nI_0, i_eqU k41 (by omega)]
      exact eq_false q
    simp (disch := omega) only [r_L_law_837, r_L_law_838, r_L_law_839, r_L_law_841, r_L_law_842, r_L_law_843, r_L_law_844, r_L_law_847, r_L_law_848, r_L_law_851, r_L_law_852, r_L_law_855, r_L_law_856, r_L_law_857, r_L_law_859, r_L_law_860, r_L_law_861, r_L_law_862, r_L_law_865, r_L_law_866, r_L_law_869, r_L_law_870, r_L_law_873, r_L_law_876, r_L_law_877, up2_o, up2_e, iN_ap, iN_up, i_ix, i_inb, i_lt, i_lt0, i_0lt, i_eq, i_ne0, i_00, i_11, i_01, i_10, i_b, i_rem2, n_rem, i_add, i_mul, i_sub, i_div, i_max, i_min, rdk_0, rdk_3, kp_none, kp_int, kp_ref, kp_long, kp_double, aK_v, aK_0, aK_ite, if_true, if_false, and_self, and_true, true_and, or_false, false_or, not_true_eq_false, not_false_eq_true, ite_self, ↓reduceIte, z0, z1, z2, z4, y0, y1, f1, w1, r1, qz, eq_self]
    exact NX_mk w2 w3 r3 r4 hS hK (Or.inl rfl) hg
end Lc
