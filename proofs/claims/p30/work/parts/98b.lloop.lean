/-! the law, turn after turn -/
section Lo
variable {Z : aZ} {N : Nat → Nat → Nat} {L : Nat → Nat → Int64} {k : Nat} {S : aSt} {B : Nat → Nat} {o : Nat}
theorem lw_what {x y : Int32} {t : Nat} {a13 : Option Value} (ht : t < 36) : ∃ a, a < 19 ∧ ex 115 171 [some (.ref 100000), some (.ref 0), some (.ref 144), some (.ref 145), some (.ref 146), some (.ref 147), some (.ref 148), some (.ref 149), some (.ref 150), some (.ref 151), some (.int (nI t)), some (.int x), some (.int y), a13] [] (Z, iN N, L, (0, k)) = ex 115 204 [some (.ref 100000), some (.ref 0), some (.ref 144), some (.ref 145), some (.ref 146), some (.ref 147), some (.ref 148), some (.ref 149), some (.ref 150), some (.ref 151), some (.int (nI t)), some (.int x), some (.int y), some (.int (nI a))] [] (Z, iN N, L, (0, k)) := by
  by_cases q2 : t < 2
  · refine ⟨0, by omega, ?_⟩
    simp (disch := omega) only [r_L_law_171, r_L_law_173, r_L_law_174, r_L_law_177, r_L_law_178, r_L_law_202, up2_o, up2_e, iN_ap, iN_up, i_ix, i_inb, i_lt, i_lt0, i_0lt, i_eq, i_ne0, i_00, i_11, i_01, i_10, i_b, i_rem2, n_rem, i_add, i_mul, i_sub, i_div, i_max, i_min, rdk_0, rdk_3, kp_none, kp_int, kp_ref, kp_long, kp_double, aK_v, aK_0, aK_ite, if_true, if_false, and_self, and_true, true_and, or_false, false_or, not_true_eq_false, not_false_eq_true, ite_self, ↓reduceIte, eq_self, Bool.false_eq_true, q2]
  · by_cases q6 : t < 6
    · refine ⟨4, by omega, ?_⟩
      simp (disch := omega) only [r_L_law_171, r_L_law_173, r_L_law_174, r_L_law_177, r_L_law_178, r_L_law_181, r_L_law_183, r_L_law_185, r_L_law_188, r_L_law_189, r_L_law_202, up2_o, up2_e, iN_ap, iN_up, i_ix, i_inb, i_lt, i_lt0, i_0lt, i_eq, i_ne0, i_00, i_11, i_01, i_10, i_b, i_rem2, n_rem, i_add, i_mul, i_sub, i_div, i_max, i_min, rdk_0, rdk_3, kp_none, kp_int, kp_ref, kp_long, kp_double, aK_v, aK_0, aK_ite, if_true, if_false, and_self, and_true, true_and, or_false, false_or, not_true_eq_false, not_false_eq_true, ite_self, ↓reduceIte, eq_self, Bool.false_eq_true, q2, q6]
    · obtain ⟨a, ha, h⟩ := lz_at (x := x >>> (nI 13 &&& 31)) (n := 19) (h := (Z, iN N, L, (0, k))) (by omega) (by omega)
      refine ⟨a, ha, ?_⟩
      simp (disch := omega) only [r_L_law_171, r_L_law_173, r_L_law_174, r_L_law_177, r_L_law_178, r_L_law_181, r_L_law_183, r_L_law_185, r_L_law_188, r_L_law_189, r_L_law_192, r_L_law_194, r_L_law_196, r_L_law_197, r_L_law_199, r_L_law_202, up2_o, up2_e, iN_ap, iN_up, i_ix, i_inb, i_lt, i_lt0, i_0lt, i_eq, i_ne0, i_00, i_11, i_01, i_10, i_b, i_rem2, n_rem, i_add, i_mul, i_sub, i_div, i_max, i_min, rdk_0, rdk_3, kp_none, kp_int, kp_ref, kp_long, kp_double, aK_v, aK_0, aK_ite, if_true, if_false, and_self, and_true, true_and, or_false, false_or, not_true_eq_false, not_false_eq_true, ite_self, ↓reduceIte, eq_self, Bool.false_eq_true, kp_int, kp_ref, q2, q6, h]
theorem lw_ahead {Ls : Nat} {t : Nat} {v11 y : Int32} {a13 : Option Value} (ht : t < 36) (hZ : LZ Z) (H : LW N S B o) (hy : 152 ≤ Z.2.2.2) (hy2 : Z.2.2.2 + 4 ≤ 1000) (z3 : Z.1 100000 = 3 ∧ Z.2.1 100000 = Ls) :
    ∃ Z' N' L' k', ex 115 258 [some (.ref 100000), some (.ref 0), some (.ref 144), some (.ref 145), some (.ref 146), some (.ref 147), some (.ref 148), some (.ref 149), some (.ref 150), some (.ref 151), some (.int (nI t)), some (.int v11), some (.int y), a13] [] (Z, iN N, L, (0, k)) = ex 115 136 [some (.ref 100000), some (.ref 0), some (.ref 144), some (.ref 145), some (.ref 146), some (.ref 147), some (.ref 148), some (.ref 149), some (.ref 150), some (.ref 151), some (.int (nI (t + 1))), some (.int v11), some (.int y), a13] [] (Z', iN N', L', (0, k')) ∧ LZ Z' ∧ LW N' S B o ∧ 152 ≤ Z'.2.2.2 ∧ Z'.2.2.2 ≤ Z.2.2.2 + 4 ∧ (Z'.1 100000 = 3 ∧ Z'.2.1 100000 = Ls) ∧ k' ≤ k + 151 := by
  have h5 : t % 5 < 5 := Nat.mod_lt _ (by omega)
  by_cases q : t % 5 = 4
  · obtain ⟨Z', N', L', e1, e2, e3, e4, e5, e6⟩ := lz_ahead (L := L) (k := k) (x := y >>> (nI 3 &&& 31)) hZ H hy hy2
    refine ⟨Z', N', L', k + 151, ?_, e2, e3, by omega, by omega, ⟨e5.trans z3.1, e6.trans z3.2⟩, Nat.le_refl _⟩
    simp (disch := omega) only [r_L_law_258, r_L_law_260, r_L_law_261, r_L_law_262, r_L_law_263, r_L_law_266, r_L_law_267, r_L_law_269, r_L_law_270, r_L_law_271, r_L_law_272, r_L_law_273, r_L_law_275, r_L_law_277, r_L_law_279, r_L_law_281, r_L_law_284, r_L_law_287, r_L_law_288, r_L_law_289, r_L_law_292, up2_o, up2_e, iN_ap, iN_up, i_ix, i_inb, i_lt, i_lt0, i_0lt, i_eq, i_ne0, i_00, i_11, i_01, i_10, i_b, i_rem2, n_rem, i_add, i_mul, i_sub, i_div, i_max, i_min, rdk_0, rdk_3, kp_none, kp_int, kp_ref, kp_long, kp_double, aK_v, aK_0, aK_ite, if_true, if_false, and_self, and_true, true_and, or_false, false_or, not_true_eq_false, not_false_eq_true, ite_self, ↓reduceIte, eq_self, Bool.false_eq_true, kp_int, kp_ref, q, e1]
  · refine ⟨Z, N, L, k, ?_, hZ, H, hy, by omega, z3, by omega⟩
    simp (disch := omega) only [r_L_law_258, r_L_law_260, r_L_law_261, r_L_law_262, r_L_law_263, r_L_law_266, r_L_law_267, r_L_law_269, r_L_law_270, r_L_law_271, r_L_law_272, r_L_law_273, r_L_law_275, r_L_law_277, r_L_law_279, r_L_law_281, r_L_law_284, r_L_law_287, r_L_law_288, r_L_law_289, r_L_law_292, up2_o, up2_e, iN_ap, iN_up, i_ix, i_inb, i_lt, i_lt0, i_0lt, i_eq, i_ne0, i_00, i_11, i_01, i_10, i_b, i_rem2, n_rem, i_add, i_mul, i_sub, i_div, i_max, i_min, rdk_0, rdk_3, kp_none, kp_int, kp_ref, kp_long, kp_double, aK_v, aK_0, aK_ite, if_true, if_false, and_self, and_true, true_and, or_false, false_or, not_true_eq_false, not_false_eq_true, ite_self, ↓reduceIte, eq_self, Bool.false_eq_true, kp_int, kp_ref, q]
theorem lw_loop {Ls : Nat} (hL : Ls ≤ 260) : ∀ (n t : Nat) (Z : aZ) (N : Nat → Nat → Nat) (L : Nat → Nat → Int64) (k : Nat) (S : aSt) (B : Nat → Nat) (o : Nat) (a11 a12 a13 : Option Value), t + n = 36 → LZ Z → LW N S B o → LS1 S.1.1 → S.1.1 0 0 ≤ 25 * t → o ≤ t → (0 < S.2.1.length ∨ t = 0 ∧ S.1.1 0 1 = 0) → 152 ≤ Z.2.2.2 → Z.2.2.2 + 4 * n ≤ 1000 → (Z.1 100000 = 3 ∧ Z.2.1 100000 = Ls) →
    ∃ h', ex 115 136 [some (.ref 100000), some (.ref 0), some (.ref 144), some (.ref 145), some (.ref 146), some (.ref 147), some (.ref 148), some (.ref 149), some (.ref 150), some (.ref 151), some (.int (nI t)), a11, a12, a13] [] (Z, iN N, L, (0, k)) = some (.inl (some (.int (nI 1))), h') ∧ cn h' ≤ 1000 ∧ us h' ≤ k + 151 * n
  | 0, t, Z, N, L, k, S, B, o, a11, a12, a13, e, hZ, H, h1, h0, ho, hs, hy, hy2, z3 => by
    have et : t = 36 := by omega
    subst et
    have hl : 0 < S.2.1.length := hs.elim id (fun w => absurd w.1 (by omega))
    have hl6 := H.2.2.2.1.2.1
    have z0 := hZ.1.1.1
    have hc := ce_count (L := L) (c := (0, k)) (w := 12) hZ.1 H.2.2.1 H.2.2.2.1 (by omega)
    rw [show aCn S.1.1 S.1.2 S.2.1.length 12 = S.2.1.length from rfl] at hc
    refine ⟨(Z, iN N, L, (0, k)), ?_, ?_, ?_⟩
    · rw [r_L_law_136]
      simp (disch := omega) only [r_L_law_138, r_L_law_140, r_L_law_295, r_L_law_296, r_L_law_298, r_L_law_301, r_L_law_304, r_L_law_305, r_L_law_308, r_L_law_309, up2_o, up2_e, iN_ap, iN_up, i_ix, i_inb, i_lt, i_lt0, i_0lt, i_eq, i_ne0, i_00, i_11, i_01, i_10, i_b, i_rem2, n_rem, i_add, i_mul, i_sub, i_div, i_max, i_min, rdk_0, rdk_3, kp_none, kp_int, kp_ref, kp_long, kp_double, aK_v, aK_0, aK_ite, if_true, if_false, and_self, and_true, true_and, or_false, false_or, not_true_eq_false, not_false_eq_true, ite_self, ↓reduceIte, eq_self, Bool.false_eq_true, kp_int, kp_ref, Nat.lt_irrefl, z0, hc, hl]
    · show Z.2.2.2 + 0 ≤ 1000
      omega
    · show k ≤ _
      omega
  | n + 1, t, Z, N, L, k, S, B, o, a11, a12, a13, e, hZ, H, h1, h0, ho, hs, hy, hy2, z3 => by
    have ht : t < 36 := by omega
    obtain ⟨v1, c1⟩ := lz_cell (Z := Z) (N := N) (L := L) (u := (0, k)) (k := 2 * t) z3.1 z3.2 hL (by omega)
    obtain ⟨v2, c2⟩ := lz_cell (Z := Z) (N := N) (L := L) (u := (0, k)) (k := 2 * t + 1) z3.1 z3.2 hL (by omega)
    have go : ∃ x y, ex 115 136 [some (.ref 100000), some (.ref 0), some (.ref 144), some (.ref 145), some (.ref 146), some (.ref 147), some (.ref 148), some (.ref 149), some (.ref 150), some (.ref 151), some (.int (nI t)), a11, a12, a13] [] (Z, iN N, L, (0, k)) = ex 115 171 [some (.ref 100000), some (.ref 0), some (.ref 144), some (.ref 145), some (.ref 146), some (.ref 147), some (.ref 148), some (.ref 149), some (.ref 150), some (.ref 151), some (.int (nI t)), some (.int x), some (.int y), a13] [] (Z, iN N, L, (0, k)) := by
      refine ⟨v1 &&& 2147483647, v2 &&& 2147483647, ?_⟩
      rw [r_L_law_136]
      simp (disch := omega) only [r_L_law_138, r_L_law_140, r_L_law_143, r_L_law_144, r_L_law_145, r_L_law_147, r_L_law_148, r_L_law_151, r_L_law_153, r_L_law_154, r_L_law_156, r_L_law_157, r_L_law_158, r_L_law_160, r_L_law_161, r_L_law_162, r_L_law_163, r_L_law_166, r_L_law_168, r_L_law_169, up2_o, up2_e, iN_ap, iN_up, i_ix, i_inb, i_lt, i_lt0, i_0lt, i_eq, i_ne0, i_00, i_11, i_01, i_10, i_b, i_rem2, n_rem, i_add, i_mul, i_sub, i_div, i_max, i_min, rdk_0, rdk_3, kp_none, kp_int, kp_ref, kp_long, kp_double, aK_v, aK_0, aK_ite, if_true, if_false, and_self, and_true, true_and, or_false, false_or, not_true_eq_false, not_false_eq_true, ite_self, ↓reduceIte, eq_self, Bool.false_eq_true, kp_int, kp_ref, ht, c1, c2]
    obtain ⟨x, y, go⟩ := go
    obtain ⟨a, ha, gw⟩ := lw_what (Z := Z) (N := N) (L := L) (k := k) (x := x) (y := y) (t := t) (a13 := a13) ht
    obtain ⟨N1, S1, B1, o1, f1, f2, f3, f4, f5, f6⟩ := lz_act (L := L) (u := (0, k)) (x := x) (y := y) (a := a) hZ H h1 (by omega) (by omega) ha
    have ft := lz_told (L := L) (u := (0, k)) (x := y >>> (nI 2 &&& 31)) hZ f2
    obtain ⟨Z2, N2, L2, k2, g1, g2, g3, g4, g5, g6, g7⟩ := lw_ahead (L := L) (k := k) (t := t) (v11 := x) (y := y) (a13 := some (.int (nI a))) ht hZ f2 hy (by omega) z3
    obtain ⟨h', i1, i2, i3⟩ := lw_loop hL n (t + 1) Z2 N2 L2 k2 S1 B1 o1 (some (.int x)) (some (.int y)) (some (.int (nI a))) (by omega) g2 g3 f3 (by omega) (by omega) (Or.inl (f6 (hs.elim Or.inl (fun w => Or.inr w.2)))) g4 (by omega) g6
    refine ⟨h', ?_, i2, by omega⟩
    have ga : ex 115 204 [some (.ref 100000), some (.ref 0), some (.ref 144), some (.ref 145), some (.ref 146), some (.ref 147), some (.ref 148), some (.ref 149), some (.ref 150), some (.ref 151), some (.int (nI t)), some (.int x), some (.int y), some (.int (nI a))] [] (Z, iN N, L, (0, k)) = ex 115 258 [some (.ref 100000), some (.ref 0), some (.ref 144), some (.ref 145), some (.ref 146), some (.ref 147), some (.ref 148), some (.ref 149), some (.ref 150), some (.ref 151), some (.int (nI t)), some (.int x), some (.int y), some (.int (nI a))] [] (Z, iN N1, L, (0, k)) := by
      simp (disch := omega) only [r_L_law_204, r_L_law_205, r_L_law_207, r_L_law_209, r_L_law_211, r_L_law_212, r_L_law_213, r_L_law_215, r_L_law_217, r_L_law_219, r_L_law_221, r_L_law_223, r_L_law_225, r_L_law_228, r_L_law_231, r_L_law_232, r_L_law_234, r_L_law_235, r_L_law_236, r_L_law_237, r_L_law_238, r_L_law_240, r_L_law_242, r_L_law_244, r_L_law_246, r_L_law_248, r_L_law_250, r_L_law_253, up2_o, up2_e, iN_ap, iN_up, i_ix, i_inb, i_lt, i_lt0, i_0lt, i_eq, i_ne0, i_00, i_11, i_01, i_10, i_b, i_rem2, n_rem, i_add, i_mul, i_sub, i_div, i_max, i_min, rdk_0, rdk_3, kp_none, kp_int, kp_ref, kp_long, kp_double, aK_v, aK_0, aK_ite, if_true, if_false, and_self, and_true, true_and, or_false, false_or, not_true_eq_false, not_false_eq_true, ite_self, ↓reduceIte, eq_self, Bool.false_eq_true, kp_int, kp_ref, f1, ft]
    rw [go, gw, ga, g1, i1]
theorem lw_spec {Ls : Nat} {xs : Nat → Int32} (hL : Ls ≤ 260) : ∃ h', ex 115 0 (lay 14 [.ref 100000]) [] (h00 Ls xs) = some (.inl (some (.int 1)), h') ∧ cn h' ≤ 600086 ∧ us h' ≤ 7301442 := by
  obtain ⟨Z, N, L, k, S, e0, hZ, H, h1, s0, s1, hz, z3, hk⟩ := n_law (Ls := Ls) (xs := xs)
  have ft := lz_told (L := L) (u := (0, k)) (x := nI 5) hZ H
  obtain ⟨Z2, N2, L2, e1, g2, g3, g4, g5, g6⟩ := lz_ahead (L := L) (k := k) (x := nI 9) hZ H (by omega) (by omega)
  obtain ⟨h', i1, i2, i3⟩ := lw_loop hL 36 0 Z2 N2 L2 (k + 151) S _ 0 none none none (by omega) g2 g3 h1 (by omega) (by omega) (Or.inr ⟨rfl, s1⟩) (by omega) (by omega) ⟨g5.trans z3.1, g6.trans z3.2⟩
  refine ⟨h', ?_, by omega, by omega⟩
  have go : ex 115 90 [some (.ref 100000), some (.ref 0), some (.ref 144), some (.ref 145), some (.ref 146), some (.ref 147), some (.ref 148), some (.ref 149), some (.ref 150), some (.ref 151), none, none, none, none] [] (Z, iN N, L, (0, k)) = ex 115 136 [some (.ref 100000), some (.ref 0), some (.ref 144), some (.ref 145), some (.ref 146), some (.ref 147), some (.ref 148), some (.ref 149), some (.ref 150), some (.ref 151), some (.int (nI 0)), none, none, none] [] (Z2, iN N2, L2, (0, k + 151)) := by
    simp (disch := omega) only [r_L_law_90, r_L_law_91, r_L_law_92, r_L_law_93, r_L_law_94, r_L_law_96, r_L_law_98, r_L_law_100, r_L_law_102, r_L_law_104, r_L_law_106, r_L_law_109, r_L_law_112, r_L_law_113, r_L_law_115, r_L_law_116, r_L_law_117, r_L_law_119, r_L_law_121, r_L_law_123, r_L_law_125, r_L_law_128, r_L_law_133, r_L_law_134, up2_o, up2_e, iN_ap, iN_up, i_ix, i_inb, i_lt, i_lt0, i_0lt, i_eq, i_ne0, i_00, i_11, i_01, i_10, i_b, i_rem2, n_rem, i_add, i_mul, i_sub, i_div, i_max, i_min, rdk_0, rdk_3, kp_none, kp_int, kp_ref, kp_long, kp_double, aK_v, aK_0, aK_ite, if_true, if_false, and_self, and_true, true_and, or_false, false_or, not_true_eq_false, not_false_eq_true, ite_self, ↓reduceIte, eq_self, Bool.false_eq_true, kp_int, kp_ref, ft, e1]
  rw [e0, go, i1]
  rfl
end Lo
