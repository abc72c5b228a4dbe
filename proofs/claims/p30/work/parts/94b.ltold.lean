/-! what is told, one after another -/
def fB (R : aY) (p : Nat) : Nat := if stg R p = 1 then 1 else 0
def fS (R : aY) (p : Nat) : Nat := if stg R p = 2 then 1 else 0
def fP (R : aY) (p : Nat) : Nat := if stg R p = 2 then R 7 p else 0
def fH (R : aY) (p : Nat) : Nat := sumN (R 12) (p * 4) 4
def fG (R : aY) (p : Nat) : Nat := sumN (R 13) (p * 4) 4
section Lq
variable {Z : aZ} {N : Nat → Nat → Nat} {L : Nat → Nat → Int64} {u : Nat × Nat} {S : aSt} {B : Nat → Nat} {o : Nat}
theorem lz_tA {x : Int32} {a20 a21 a22 a23 a24 a25 : Option Value} (hZ : LZ Z) (H : LW N S B o) : ∀ (n i : Nat), i + n = 12 →
    ex 106 47 [some (.ref 0), some (.int x), some (.ref 144), some (.ref 145), some (.ref 146), some (.ref 147), some (.ref 148), some (.ref 149), some (.ref 150), some (.ref 151), some (.int (nI (lS S.1.1 (fun _ => 1) i))), some (.int (nI (lS S.1.1 (fB S.1.1) i))), some (.int (nI (lS S.1.1 (fS S.1.1) i))), some (.int (nI (lS S.1.1 (fP S.1.1) i))), some (.int (nI (lS S.1.1 (S.1.1 9) i))), some (.int (nI (lS S.1.1 (fH S.1.1) i))), some (.int (nI (lS S.1.1 (S.1.1 10) i))), some (.int (nI (lS S.1.1 (fG S.1.1) i))), some (.int (nI (lS S.1.1 (S.1.1 11) i))), some (.int (nI (i))), a20, a21, a22, a23, a24, a25] [] (Z, iN N, L, u) =
    ex 106 214 [some (.ref 0), some (.int x), some (.ref 144), some (.ref 145), some (.ref 146), some (.ref 147), some (.ref 148), some (.ref 149), some (.ref 150), some (.ref 151), some (.int (nI (lS S.1.1 (fun _ => 1) 12))), some (.int (nI (lS S.1.1 (fB S.1.1) 12))), some (.int (nI (lS S.1.1 (fS S.1.1) 12))), some (.int (nI (lS S.1.1 (fP S.1.1) 12))), some (.int (nI (lS S.1.1 (S.1.1 9) 12))), some (.int (nI (lS S.1.1 (fH S.1.1) 12))), some (.int (nI (lS S.1.1 (S.1.1 10) 12))), some (.int (nI (lS S.1.1 (fG S.1.1) 12))), some (.int (nI (lS S.1.1 (S.1.1 11) 12))), some (.int (nI (12))), a20, a21, a22, a23, a24, a25] [] (Z, iN N, L, u)
  | 0, i, e => by
    have ei : i = 12 := by omega
    subst ei
    rw [r_L_told_47]
    simp (disch := omega) only [r_L_told_49, r_L_told_51, up2_o, up2_e, iN_ap, iN_up, i_ix, i_inb, i_lt, i_lt0, i_0lt, i_eq, i_ne0, i_00, i_11, i_01, i_10, i_b, i_rem2, n_rem, i_add, i_mul, i_sub, i_div, i_max, i_min, rdk_0, rdk_3, kp_none, kp_int, kp_ref, kp_long, kp_double, aK_v, aK_0, aK_ite, if_true, if_false, and_self, and_true, true_and, or_false, false_or, not_true_eq_false, not_false_eq_true, ite_self, ↓reduceIte, eq_self, Bool.false_eq_true, Nat.lt_irrefl]
  | n + 1, i, e => by
    have hi : i < 12 := by omega
    have hA := hZ.2.1
    have hb := LW_LB H
    have hp := pl_lt hi
    obtain ⟨b1, b2, b3, b4⟩ := hb.2.2.1 i hi
    have ht := lz_there (L := L) (u := u) hA.2.2.2.1 hi hb
    have hR := lTh_R H.1 H.2.2.2.1.1.1.2.1 hi
    obtain ⟨f0, f1, f2, f3, f4, f5, f6⟩ := H.1.2.2.2.1 i hi
    have e12 := lz_s12 (L := L) (u := u) hZ H hi
    have e13 := lz_s13 (L := L) (u := u) hZ H hi
    have ih := lz_tA (x := x) (a20 := a20) (a21 := a21) (a22 := a22) (a23 := a23) (a24 := a24) (a25 := a25) hZ H n (i + 1) (by omega)
    rw [← ih, r_L_told_47]
    by_cases t : lTh (N 151) i = true
    · have t2 := hR.mp t
      rcases (show stg S.1.1 (pl i) = 0 ∨ stg S.1.1 (pl i) = 1 ∨ stg S.1.1 (pl i) = 2 by have := stg_le (R := S.1.1) (m := pl i); omega) with es | es | es
      · have e0 : lS S.1.1 (fun _ => 1) (i + 1) = lS S.1.1 (fun _ => 1) i + 1 := by
          rw [lS_s, if_pos t2]
        have e1 : lS S.1.1 (fB S.1.1) (i + 1) = lS S.1.1 (fB S.1.1) i + 0 := by
          rw [lS_s, if_pos t2]
          unfold fB
          rw [es, if_neg (by omega)]
        have e2 : lS S.1.1 (fS S.1.1) (i + 1) = lS S.1.1 (fS S.1.1) i + 0 := by
          rw [lS_s, if_pos t2]
          unfold fS
          rw [es, if_neg (by omega)]
        have e3 : lS S.1.1 (fP S.1.1) (i + 1) = lS S.1.1 (fP S.1.1) i + 0 := by
          rw [lS_s, if_pos t2]
          unfold fP
          rw [es, if_neg (by omega)]
        have e4 : lS S.1.1 (S.1.1 9) (i + 1) = lS S.1.1 (S.1.1 9) i + S.1.1 9 (pl i) := by
          rw [lS_s, if_pos t2]
        have e5 : lS S.1.1 (fH S.1.1) (i + 1) = lS S.1.1 (fH S.1.1) i + sumN (S.1.1 12) (pl i * 4) 4 := by
          rw [lS_s, if_pos t2]
          rfl
        have e6 : lS S.1.1 (S.1.1 10) (i + 1) = lS S.1.1 (S.1.1 10) i + S.1.1 10 (pl i) := by
          rw [lS_s, if_pos t2]
        have e7 : lS S.1.1 (fG S.1.1) (i + 1) = lS S.1.1 (fG S.1.1) i + sumN (S.1.1 13) (pl i * 4) 4 := by
          rw [lS_s, if_pos t2]
          rfl
        have e8 : lS S.1.1 (S.1.1 11) (i + 1) = lS S.1.1 (S.1.1 11) i + S.1.1 11 (pl i) := by
          rw [lS_s, if_pos t2]
        rw [es] at f2
        rw [e0, e1, e2, e3, e4, e5, e6, e7, e8]
        simp (disch := omega) only [r_L_told_49, r_L_told_51, r_L_told_54, r_L_told_56, r_L_told_58, r_L_told_61, r_L_told_64, r_L_told_67, r_L_told_70, r_L_told_72, r_L_told_73, r_L_told_74, r_L_told_76, r_L_told_77, r_L_told_78, r_L_told_79, r_L_told_80, r_L_told_81, r_L_told_84, r_L_told_85, r_L_told_88, r_L_told_89, r_L_told_90, r_L_told_92, r_L_told_94, r_L_told_95, r_L_told_96, r_L_told_98, r_L_told_99, r_L_told_100, r_L_told_101, r_L_told_102, r_L_told_103, r_L_told_106, r_L_told_107, r_L_told_110, r_L_told_111, r_L_told_112, r_L_told_114, r_L_told_116, r_L_told_117, r_L_told_118, r_L_told_120, r_L_told_121, r_L_told_122, r_L_told_123, r_L_told_124, r_L_told_125, r_L_told_128, r_L_told_129, r_L_told_130, r_L_told_132, r_L_told_133, r_L_told_134, r_L_told_135, r_L_told_136, r_L_told_139, r_L_told_140, r_L_told_141, r_L_told_143, r_L_told_145, r_L_told_146, r_L_told_147, r_L_told_149, r_L_told_150, r_L_told_151, r_L_told_152, r_L_told_154, r_L_told_156, r_L_told_157, r_L_told_158, r_L_told_160, r_L_told_161, r_L_told_162, r_L_told_163, r_L_told_164, r_L_told_165, r_L_told_167, r_L_told_169, r_L_told_170, r_L_told_171, r_L_told_173, r_L_told_174, r_L_told_175, r_L_told_176, r_L_told_177, r_L_told_178, r_L_told_180, r_L_told_182, r_L_told_184, r_L_told_185, r_L_told_187, r_L_told_188, r_L_told_191, r_L_told_192, r_L_told_194, r_L_told_196, r_L_told_198, r_L_told_199, r_L_told_201, r_L_told_202, r_L_told_205, r_L_told_206, r_L_told_208, r_L_told_211, up2_o, up2_e, iN_ap, iN_up, i_ix, i_inb, i_lt, i_lt0, i_0lt, i_eq, i_ne0, i_00, i_11, i_01, i_10, i_b, i_rem2, n_rem, i_add, i_mul, i_sub, i_div, i_max, i_min, rdk_0, rdk_3, kp_none, kp_int, kp_ref, kp_long, kp_double, aK_v, aK_0, aK_ite, if_true, if_false, and_self, and_true, true_and, or_false, false_or, not_true_eq_false, not_false_eq_true, ite_self, ↓reduceIte, eq_self, Bool.false_eq_true, hA.1.1, hA.1.2, hA.2.1.1, hA.2.1.2, hA.2.2.1.1, hA.2.2.1.2, hA.2.2.2.1.1, hA.2.2.2.1.2, hA.2.2.2.2.1.1, hA.2.2.2.2.1.2, hA.2.2.2.2.2.1, hA.2.2.2.2.2.2, kp_int, kp_ref, hi, ht, t, f1, f2, f4, f5, f6, e12, e13, ne_12, ne_02, ne_01, ne_21, Nat.add_zero]
      · have e0 : lS S.1.1 (fun _ => 1) (i + 1) = lS S.1.1 (fun _ => 1) i + 1 := by
          rw [lS_s, if_pos t2]
        have e1 : lS S.1.1 (fB S.1.1) (i + 1) = lS S.1.1 (fB S.1.1) i + 1 := by
          rw [lS_s, if_pos t2]
          unfold fB
          rw [es, if_pos rfl]
        have e2 : lS S.1.1 (fS S.1.1) (i + 1) = lS S.1.1 (fS S.1.1) i + 0 := by
          rw [lS_s, if_pos t2]
          unfold fS
          rw [es, if_neg (by omega)]
        have e3 : lS S.1.1 (fP S.1.1) (i + 1) = lS S.1.1 (fP S.1.1) i + 0 := by
          rw [lS_s, if_pos t2]
          unfold fP
          rw [es, if_neg (by omega)]
        have e4 : lS S.1.1 (S.1.1 9) (i + 1) = lS S.1.1 (S.1.1 9) i + S.1.1 9 (pl i) := by
          rw [lS_s, if_pos t2]
        have e5 : lS S.1.1 (fH S.1.1) (i + 1) = lS S.1.1 (fH S.1.1) i + sumN (S.1.1 12) (pl i * 4) 4 := by
          rw [lS_s, if_pos t2]
          rfl
        have e6 : lS S.1.1 (S.1.1 10) (i + 1) = lS S.1.1 (S.1.1 10) i + S.1.1 10 (pl i) := by
          rw [lS_s, if_pos t2]
        have e7 : lS S.1.1 (fG S.1.1) (i + 1) = lS S.1.1 (fG S.1.1) i + sumN (S.1.1 13) (pl i * 4) 4 := by
          rw [lS_s, if_pos t2]
          rfl
        have e8 : lS S.1.1 (S.1.1 11) (i + 1) = lS S.1.1 (S.1.1 11) i + S.1.1 11 (pl i) := by
          rw [lS_s, if_pos t2]
        rw [es] at f2
        rw [e0, e1, e2, e3, e4, e5, e6, e7, e8]
        simp (disch := omega) only [r_L_told_49, r_L_told_51, r_L_told_54, r_L_told_56, r_L_told_58, r_L_told_61, r_L_told_64, r_L_told_67, r_L_told_70, r_L_told_72, r_L_told_73, r_L_told_74, r_L_told_76, r_L_told_77, r_L_told_78, r_L_told_79, r_L_told_80, r_L_told_81, r_L_told_84, r_L_told_85, r_L_told_88, r_L_told_89, r_L_told_90, r_L_told_92, r_L_told_94, r_L_told_95, r_L_told_96, r_L_told_98, r_L_told_99, r_L_told_100, r_L_told_101, r_L_told_102, r_L_told_103, r_L_told_106, r_L_told_107, r_L_told_110, r_L_told_111, r_L_told_112, r_L_told_114, r_L_told_116, r_L_told_117, r_L_told_118, r_L_told_120, r_L_told_121, r_L_told_122, r_L_told_123, r_L_told_124, r_L_told_125, r_L_told_128, r_L_told_129, r_L_told_130, r_L_told_132, r_L_told_133, r_L_told_134, r_L_told_135, r_L_told_136, r_L_told_139, r_L_told_140, r_L_told_141, r_L_told_143, r_L_told_145, r_L_told_146, r_L_told_147, r_L_told_149, r_L_told_150, r_L_told_151, r_L_told_152, r_L_told_154, r_L_told_156, r_L_told_157, r_L_told_158, r_L_told_160, r_L_told_161, r_L_told_162, r_L_told_163, r_L_told_164, r_L_told_165, r_L_told_167, r_L_told_169, r_L_told_170, r_L_told_171, r_L_told_173, r_L_told_174, r_L_told_175, r_L_told_176, r_L_told_177, r_L_told_178, r_L_told_180, r_L_told_182, r_L_told_184, r_L_told_185, r_L_told_187, r_L_told_188, r_L_told_191, r_L_told_192, r_L_told_194, r_L_told_196, r_L_told_198, r_L_told_199, r_L_told_201, r_L_told_202, r_L_told_205, r_L_told_206, r_L_told_208, r_L_told_211, up2_o, up2_e, iN_ap, iN_up, i_ix, i_inb, i_lt, i_lt0, i_0lt, i_eq, i_ne0, i_00, i_11, i_01, i_10, i_b, i_rem2, n_rem, i_add, i_mul, i_sub, i_div, i_max, i_min, rdk_0, rdk_3, kp_none, kp_int, kp_ref, kp_long, kp_double, aK_v, aK_0, aK_ite, if_true, if_false, and_self, and_true, true_and, or_false, false_or, not_true_eq_false, not_false_eq_true, ite_self, ↓reduceIte, eq_self, Bool.false_eq_true, hA.1.1, hA.1.2, hA.2.1.1, hA.2.1.2, hA.2.2.1.1, hA.2.2.1.2, hA.2.2.2.1.1, hA.2.2.2.1.2, hA.2.2.2.2.1.1, hA.2.2.2.2.1.2, hA.2.2.2.2.2.1, hA.2.2.2.2.2.2, kp_int, kp_ref, hi, ht, t, f1, f2, f4, f5, f6, e12, e13, ne_12, ne_02, ne_01, ne_21, Nat.add_zero]
      · have e0 : lS S.1.1 (fun _ => 1) (i + 1) = lS S.1.1 (fun _ => 1) i + 1 := by
          rw [lS_s, if_pos t2]
        have e1 : lS S.1.1 (fB S.1.1) (i + 1) = lS S.1.1 (fB S.1.1) i + 0 := by
          rw [lS_s, if_pos t2]
          unfold fB
          rw [es, if_neg (by omega)]
        have e2 : lS S.1.1 (fS S.1.1) (i + 1) = lS S.1.1 (fS S.1.1) i + 1 := by
          rw [lS_s, if_pos t2]
          unfold fS
          rw [es, if_pos rfl]
        have e3 : lS S.1.1 (fP S.1.1) (i + 1) = lS S.1.1 (fP S.1.1) i + S.1.1 7 (pl i) := by
          rw [lS_s, if_pos t2]
          unfold fP
          rw [es, if_pos rfl]
        have e4 : lS S.1.1 (S.1.1 9) (i + 1) = lS S.1.1 (S.1.1 9) i + S.1.1 9 (pl i) := by
          rw [lS_s, if_pos t2]
        have e5 : lS S.1.1 (fH S.1.1) (i + 1) = lS S.1.1 (fH S.1.1) i + sumN (S.1.1 12) (pl i * 4) 4 := by
          rw [lS_s, if_pos t2]
          rfl
        have e6 : lS S.1.1 (S.1.1 10) (i + 1) = lS S.1.1 (S.1.1 10) i + S.1.1 10 (pl i) := by
          rw [lS_s, if_pos t2]
        have e7 : lS S.1.1 (fG S.1.1) (i + 1) = lS S.1.1 (fG S.1.1) i + sumN (S.1.1 13) (pl i * 4) 4 := by
          rw [lS_s, if_pos t2]
          rfl
        have e8 : lS S.1.1 (S.1.1 11) (i + 1) = lS S.1.1 (S.1.1 11) i + S.1.1 11 (pl i) := by
          rw [lS_s, if_pos t2]
        rw [es] at f2
        rw [e0, e1, e2, e3, e4, e5, e6, e7, e8]
        simp (disch := omega) only [r_L_told_49, r_L_told_51, r_L_told_54, r_L_told_56, r_L_told_58, r_L_told_61, r_L_told_64, r_L_told_67, r_L_told_70, r_L_told_72, r_L_told_73, r_L_told_74, r_L_told_76, r_L_told_77, r_L_told_78, r_L_told_79, r_L_told_80, r_L_told_81, r_L_told_84, r_L_told_85, r_L_told_88, r_L_told_89, r_L_told_90, r_L_told_92, r_L_told_94, r_L_told_95, r_L_told_96, r_L_told_98, r_L_told_99, r_L_told_100, r_L_told_101, r_L_told_102, r_L_told_103, r_L_told_106, r_L_told_107, r_L_told_110, r_L_told_111, r_L_told_112, r_L_told_114, r_L_told_116, r_L_told_117, r_L_told_118, r_L_told_120, r_L_told_121, r_L_told_122, r_L_told_123, r_L_told_124, r_L_told_125, r_L_told_128, r_L_told_129, r_L_told_130, r_L_told_132, r_L_told_133, r_L_told_134, r_L_told_135, r_L_told_136, r_L_told_139, r_L_told_140, r_L_told_141, r_L_told_143, r_L_told_145, r_L_told_146, r_L_told_147, r_L_told_149, r_L_told_150, r_L_told_151, r_L_told_152, r_L_told_154, r_L_told_156, r_L_told_157, r_L_told_158, r_L_told_160, r_L_told_161, r_L_told_162, r_L_told_163, r_L_told_164, r_L_told_165, r_L_told_167, r_L_told_169, r_L_told_170, r_L_told_171, r_L_told_173, r_L_told_174, r_L_told_175, r_L_told_176, r_L_told_177, r_L_told_178, r_L_told_180, r_L_told_182, r_L_told_184, r_L_told_185, r_L_told_187, r_L_told_188, r_L_told_191, r_L_told_192, r_L_told_194, r_L_told_196, r_L_told_198, r_L_told_199, r_L_told_201, r_L_told_202, r_L_told_205, r_L_told_206, r_L_told_208, r_L_told_211, up2_o, up2_e, iN_ap, iN_up, i_ix, i_inb, i_lt, i_lt0, i_0lt, i_eq, i_ne0, i_00, i_11, i_01, i_10, i_b, i_rem2, n_rem, i_add, i_mul, i_sub, i_div, i_max, i_min, rdk_0, rdk_3, kp_none, kp_int, kp_ref, kp_long, kp_double, aK_v, aK_0, aK_ite, if_true, if_false, and_self, and_true, true_and, or_false, false_or, not_true_eq_false, not_false_eq_true, ite_self, ↓reduceIte, eq_self, Bool.false_eq_true, hA.1.1, hA.1.2, hA.2.1.1, hA.2.1.2, hA.2.2.1.1, hA.2.2.1.2, hA.2.2.2.1.1, hA.2.2.2.1.2, hA.2.2.2.2.1.1, hA.2.2.2.2.1.2, hA.2.2.2.2.2.1, hA.2.2.2.2.2.2, kp_int, kp_ref, hi, ht, t, f1, f2, f4, f5, f6, e12, e13, ne_12, ne_02, ne_01, ne_21, Nat.add_zero]
    · have t2 : ¬ pl i % 6 < S.1.1 3 (pl i / 6) := fun z => t (hR.mpr z)
      have e0 : ∀ f, lS S.1.1 f (i + 1) = lS S.1.1 f i := fun f => by
        rw [lS_s, if_neg t2, Nat.add_zero]
      rw [e0, e0, e0, e0, e0, e0, e0, e0, e0]
      simp (disch := omega) only [r_L_told_49, r_L_told_51, r_L_told_54, r_L_told_56, r_L_told_58, r_L_told_61, r_L_told_64, r_L_told_208, r_L_told_211, up2_o, up2_e, iN_ap, iN_up, i_ix, i_inb, i_lt, i_lt0, i_0lt, i_eq, i_ne0, i_00, i_11, i_01, i_10, i_b, i_rem2, n_rem, i_add, i_mul, i_sub, i_div, i_max, i_min, rdk_0, rdk_3, kp_none, kp_int, kp_ref, kp_long, kp_double, aK_v, aK_0, aK_ite, if_true, if_false, and_self, and_true, true_and, or_false, false_or, not_true_eq_false, not_false_eq_true, ite_self, ↓reduceIte, eq_self, Bool.false_eq_true, hA.1.1, hA.1.2, hA.2.1.1, hA.2.1.2, hA.2.2.1.1, hA.2.2.1.2, hA.2.2.2.1.1, hA.2.2.2.1.2, hA.2.2.2.2.1.1, hA.2.2.2.2.1.2, hA.2.2.2.2.2.1, hA.2.2.2.2.2.2, kp_int, hi, ht, t]
theorem lz_tBi {x z19 z20 z21 z24x : Int32} {z10 z11 z12 z13 z14 z15 z16 z17 z18 : Int32} {t : Nat} (hZ : LZ Z) (H : LW N S B o) (ht : t < 4) : ∀ (n i : Nat), i + n = 12 →
    ex 106 241 [some (.ref 0), some (.int x), some (.ref 144), some (.ref 145), some (.ref 146), some (.ref 147), some (.ref 148), some (.ref 149), some (.ref 150), some (.ref 151), some (.int z10), some (.int z11), some (.int z12), some (.int z13), some (.int z14), some (.int z15), some (.int z16), some (.int z17), some (.int z18), some (.int z19), some (.int z20), some (.int z21), some (.int (nI (t))), some (.int (nI (sumN (fun m => S.1.1 13 (pl m * 4 + t)) 0 i))), some (.int (nI (sumN (fun m => S.1.1 12 (pl m * 4 + t)) 0 i))), some (.int (nI (i)))] [] (Z, iN N, L, u) =
    ex 106 284 [some (.ref 0), some (.int x), some (.ref 144), some (.ref 145), some (.ref 146), some (.ref 147), some (.ref 148), some (.ref 149), some (.ref 150), some (.ref 151), some (.int z10), some (.int z11), some (.int z12), some (.int z13), some (.int z14), some (.int z15), some (.int z16), some (.int z17), some (.int z18), some (.int z19), some (.int z20), some (.int z21), some (.int (nI (t))), some (.int (nI (sumN (fun m => S.1.1 13 (pl m * 4 + t)) 0 12))), some (.int (nI (sumN (fun m => S.1.1 12 (pl m * 4 + t)) 0 12))), some (.int (nI (12)))] [] (Z, iN N, L, u)
  | 0, i, e => by
    have ei : i = 12 := by omega
    subst ei
    rw [r_L_told_241]
    simp (disch := omega) only [r_L_told_243, r_L_told_245, up2_o, up2_e, iN_ap, iN_up, i_ix, i_inb, i_lt, i_lt0, i_0lt, i_eq, i_ne0, i_00, i_11, i_01, i_10, i_b, i_rem2, n_rem, i_add, i_mul, i_sub, i_div, i_max, i_min, rdk_0, rdk_3, kp_none, kp_int, kp_ref, kp_long, kp_double, aK_v, aK_0, aK_ite, if_true, if_false, and_self, and_true, true_and, or_false, false_or, not_true_eq_false, not_false_eq_true, ite_self, ↓reduceIte, eq_self, Bool.false_eq_true, Nat.lt_irrefl]
  | n + 1, i, e => by
    have hi : i < 12 := by omega
    have hA := hZ.2.1
    have s1 := H.1.2.2.2.2.2 i hi t ht
    have s2 := H.2.1.1 i hi t ht
    have e1 : sumN (fun m => S.1.1 13 (pl m * 4 + t)) 0 (i + 1) = sumN (fun m => S.1.1 13 (pl m * 4 + t)) 0 i + S.1.1 13 (pl i * 4 + t) := by rw [sumN_succ, Nat.zero_add]
    have e2 : sumN (fun m => S.1.1 12 (pl m * 4 + t)) 0 (i + 1) = sumN (fun m => S.1.1 12 (pl m * 4 + t)) 0 i + S.1.1 12 (pl i * 4 + t) := by rw [sumN_succ, Nat.zero_add]
    have ih := lz_tBi (x := x) (z19 := z19) (z20 := z20) (z21 := z21) (z24x := z24x) (z10 := z10) (z11 := z11) (z12 := z12) (z13 := z13) (z14 := z14) (z15 := z15) (z16 := z16) (z17 := z17) (z18 := z18) hZ H ht n (i + 1) (by omega)
    rw [← ih, e1, e2, r_L_told_241]
    simp (disch := omega) only [r_L_told_243, r_L_told_245, r_L_told_248, r_L_told_250, r_L_told_252, r_L_told_253, r_L_told_255, r_L_told_256, r_L_told_258, r_L_told_259, r_L_told_260, r_L_told_261, r_L_told_263, r_L_told_265, r_L_told_267, r_L_told_268, r_L_told_270, r_L_told_271, r_L_told_273, r_L_told_274, r_L_told_275, r_L_told_276, r_L_told_278, r_L_told_281, up2_o, up2_e, iN_ap, iN_up, i_ix, i_inb, i_lt, i_lt0, i_0lt, i_eq, i_ne0, i_00, i_11, i_01, i_10, i_b, i_rem2, n_rem, i_add, i_mul, i_sub, i_div, i_max, i_min, rdk_0, rdk_3, kp_none, kp_int, kp_ref, kp_long, kp_double, aK_v, aK_0, aK_ite, if_true, if_false, and_self, and_true, true_and, or_false, false_or, not_true_eq_false, not_false_eq_true, ite_self, ↓reduceIte, eq_self, Bool.false_eq_true, hA.1.1, hA.1.2, hA.2.1.1, hA.2.1.2, hA.2.2.1.1, hA.2.2.1.2, hA.2.2.2.1.1, hA.2.2.2.1.2, hA.2.2.2.2.1.1, hA.2.2.2.2.1.2, hA.2.2.2.2.2.1, hA.2.2.2.2.2.2, hZ.2.2.1.1, hZ.2.2.1.2, kp_int, hi, s1, s2]
theorem lz_tB {x : Int32} {z10 z11 z12 z13 z14 z15 z16 z17 z18 : Int32} (hZ : LZ Z) (H : LW N S B o) : ∀ (n t b ws wh : Nat) (a23 a24 a25 : Option Value), t + n = 4 → (b = 4294967295 ∨ b < 4) → ws = (if b = 4294967295 then 0 else aTr S.1.1 b 2) → wh = (if b = 4294967295 then 0 else aTr S.1.1 b 3) →
    ∃ b20 b21 b23 b24 b25, ex 106 226 [some (.ref 0), some (.int x), some (.ref 144), some (.ref 145), some (.ref 146), some (.ref 147), some (.ref 148), some (.ref 149), some (.ref 150), some (.ref 151), some (.int z10), some (.int z11), some (.int z12), some (.int z13), some (.int z14), some (.int z15), some (.int z16), some (.int z17), some (.int z18), some (.int (nI (b))), some (.int (nI (ws))), some (.int (nI (wh))), some (.int (nI (t))), a23, a24, a25] [] (Z, iN N, L, u) =
    ex 106 428 [some (.ref 0), some (.int x), some (.ref 144), some (.ref 145), some (.ref 146), some (.ref 147), some (.ref 148), some (.ref 149), some (.ref 150), some (.ref 151), some (.int z10), some (.int z11), some (.int z12), some (.int z13), some (.int z14), some (.int z15), some (.int z16), some (.int z17), some (.int z18), some (.int (nI (aWo (fun t => aTr S.1.1 t 2) (fun t => aTr S.1.1 t 3) n t b))), b20, some (.int b21), some (.int (nI (4))), b23, b24, b25] [] (Z, iN N, L, u)
  | 0, t, b, ws, wh, a23, a24, a25, e, _, _, _ => by
    have et : t = 4 := by omega
    subst et
    refine ⟨some (.int (nI ws)), nI wh, a23, a24, a25, ?_⟩
    rw [r_L_told_226]
    simp (disch := omega) only [r_L_told_228, r_L_told_229, up2_o, up2_e, iN_ap, iN_up, i_ix, i_inb, i_lt, i_lt0, i_0lt, i_eq, i_ne0, i_00, i_11, i_01, i_10, i_b, i_rem2, n_rem, i_add, i_mul, i_sub, i_div, i_max, i_min, rdk_0, rdk_3, kp_none, kp_int, kp_ref, kp_long, kp_double, aK_v, aK_0, aK_ite, if_true, if_false, and_self, and_true, true_and, or_false, false_or, not_true_eq_false, not_false_eq_true, ite_self, ↓reduceIte, eq_self, Bool.false_eq_true, Nat.lt_irrefl, aWo]
  | n + 1, t, b, ws, wh, a23, a24, a25, e, hb, h1, h2 => by
    have ht : t < 4 := by omega
    have hA := hZ.2.1
    have z0 := hZ.1.1.1
    obtain ⟨k8, l8⟩ := hZ.2.2.2
    have hw := H.2.2.2.1.1.1
    obtain ⟨c1, c2⟩ := lc_tr hw H.2.2.2.2.1 ht
    have li := lz_tBi (L := L) (u := u) (x := x) (z19 := nI b) (z20 := nI ws) (z21 := nI wh) (z24x := 0) (z10 := z10) (z11 := z11) (z12 := z12) (z13 := z13) (z14 := z14) (z15 := z15) (z16 := z16) (z17 := z17) (z18 := z18) hZ H ht 12 0 rfl
    rw [c1, c2] at li
    have e1 : sumN (fun m => S.1.1 13 (pl m * 4 + t)) 0 0 = 0 := rfl
    have e2 : sumN (fun m => S.1.1 12 (pl m * 4 + t)) 0 0 = 0 := rfl
    rw [e1, e2] at li
    have t2 : sumN (fun p => S.1.1 13 (p * 4 + t)) 0 36 = aTr S.1.1 t 2 := rfl
    have t3 : sumN (fun p => S.1.1 12 (p * 4 + t)) 0 36 = aTr S.1.1 t 3 := rfl
    rw [t2, t3] at li
    have md : ∀ w, w ≤ 5 → ex 73 0 [some (.ref 0), some (.int (nI t)), some (.int (nI w))] [] (Z, iN N, L, u) = some (.inl (some (.int (nI (aTr S.1.1 t w)))), (Z, iN N, L, u)) := fun w hw => ce_trade hZ.1 H.2.2.1 ht hw
    have m0 := md 0 (by omega)
    have m1 := md 1 (by omega)
    have m2 := md 2 (by omega)
    have m3 := md 3 (by omega)
    have m4 := md 4 (by omega)
    have m5 := md 5 (by omega)
    have k0 : aTr S.1.1 t 0 = S.1.1 14 (4 * t) := by rw [Nat.mul_comm 4 t]; rfl
    have k1 : aTr S.1.1 t 1 = S.1.1 14 (4 * t + 1) := by rw [Nat.mul_comm 4 t]; rfl
    have k4 : aTr S.1.1 t 4 = S.1.1 14 (4 * t + 2) := by rw [Nat.mul_comm 4 t]; rfl
    have k5 : aTr S.1.1 t 5 = S.1.1 14 (4 * t + 3) := by rw [Nat.mul_comm 4 t]; rfl
    rw [k0] at m0
    rw [k1] at m1
    rw [k4] at m4
    rw [k5] at m5
    have n0 := H.2.1.2 (4 * t) (by omega)
    have n1 := H.2.1.2 (4 * t + 1) (by omega)
    have n4 := H.2.1.2 (4 * t + 2) (by omega)
    have n5 := H.2.1.2 (4 * t + 3) (by omega)
    obtain ⟨x2, x3⟩ := aTr_lt hw ht
    obtain ⟨P, hP⟩ : ∃ P, P = aTr S.1.1 t 2 := ⟨_, rfl⟩
    obtain ⟨Q, hQ⟩ : ∃ Q, Q = aTr S.1.1 t 3 := ⟨_, rfl⟩
    have hb4 : b ≠ 4294967295 → aTr S.1.1 b 2 ≤ 99 * 36 ∧ aTr S.1.1 b 3 ≤ 9999 * 36 := fun z => aTr_lt hw (by omega)
    have hws : ws ≤ 99 * 36 := by
      rw [h1]
      split
      · omega
      · exact (hb4 (by assumption)).1
    have hwh : wh ≤ 9999 * 36 := by
      rw [h2]
      split
      · omega
      · exact (hb4 (by assumption)).2
    have hst : aWo (fun t => aTr S.1.1 t 2) (fun t => aTr S.1.1 t 3) (n + 1) t b = aWo (fun t => aTr S.1.1 t 2) (fun t => aTr S.1.1 t 3) n (t + 1) (if ws < P ∨ (P = ws ∧ 0 < P ∧ Q < wh) then t else b) := by
      show aWo (fun t => aTr S.1.1 t 2) (fun t => aTr S.1.1 t 3) n (t + 1) (if (if b = 4294967295 then 0 else aTr S.1.1 b 2) < aTr S.1.1 t 2 ∨ (0 < aTr S.1.1 t 2 ∧ b ≠ 4294967295 ∧ aTr S.1.1 t 2 = aTr S.1.1 b 2 ∧ aTr S.1.1 t 3 < aTr S.1.1 b 3) then t else b) = _
      rw [← hP, ← hQ]
      congr 1
      by_cases z : b = 4294967295
      · rw [if_pos z] at h1 h2
        rw [if_pos z, h1, h2]
        by_cases y : 0 < P
        · rw [if_pos (Or.inl y), if_pos (Or.inl y)]
        · rw [if_neg (by omega), if_neg (by omega)]
      · rw [if_neg z] at h1 h2
        rw [if_neg z, ← h1, ← h2]
        by_cases y : ws < P ∨ (P = ws ∧ 0 < P ∧ Q < wh)
        · rw [if_pos y, if_pos (by omega)]
        · rw [if_neg y, if_neg (by omega)]
    rw [← hP, ← hQ] at li
    rw [← hP] at m2 x2
    rw [← hQ] at m3 x3
    have take : (ws < P ∨ (P = ws ∧ 0 < P ∧ Q < wh)) → ∃ b20 b21 b23 b24 b25, ex 106 226 [some (.ref 0), some (.int x), some (.ref 144), some (.ref 145), some (.ref 146), some (.ref 147), some (.ref 148), some (.ref 149), some (.ref 150), some (.ref 151), some (.int z10), some (.int z11), some (.int z12), some (.int z13), some (.int z14), some (.int z15), some (.int z16), some (.int z17), some (.int z18), some (.int (nI (t))), some (.int (nI (P))), some (.int (nI (Q))), some (.int (nI (t + 1))), some (.int (nI (P))), some (.int (nI (Q))), some (.int (nI (12)))] [] (Z, iN N, L, u) = ex 106 428 [some (.ref 0), some (.int x), some (.ref 144), some (.ref 145), some (.ref 146), some (.ref 147), some (.ref 148), some (.ref 149), some (.ref 150), some (.ref 151), some (.int z10), some (.int z11), some (.int z12), some (.int z13), some (.int z14), some (.int z15), some (.int z16), some (.int z17), some (.int z18), some (.int (nI (aWo (fun t => aTr S.1.1 t 2) (fun t => aTr S.1.1 t 3) (n + 1) t b))), b20, some (.int b21), some (.int (nI (4))), b23, b24, b25] [] (Z, iN N, L, u) := fun y => by
      rw [hst, if_pos y]
      exact lz_tB hZ H n (t + 1) t P Q _ _ _ (by omega) (Or.inr ht) (by rw [if_neg (by omega)]; exact hP) (by rw [if_neg (by omega)]; exact hQ)
    have leave : ¬ (ws < P ∨ (P = ws ∧ 0 < P ∧ Q < wh)) → ∃ b20 b21 b23 b24 b25, ex 106 226 [some (.ref 0), some (.int x), some (.ref 144), some (.ref 145), some (.ref 146), some (.ref 147), some (.ref 148), some (.ref 149), some (.ref 150), some (.ref 151), some (.int z10), some (.int z11), some (.int z12), some (.int z13), some (.int z14), some (.int z15), some (.int z16), some (.int z17), some (.int z18), some (.int (nI (b))), some (.int (nI (ws))), some (.int (nI (wh))), some (.int (nI (t + 1))), some (.int (nI (P))), some (.int (nI (Q))), some (.int (nI (12)))] [] (Z, iN N, L, u) = ex 106 428 [some (.ref 0), some (.int x), some (.ref 144), some (.ref 145), some (.ref 146), some (.ref 147), some (.ref 148), some (.ref 149), some (.ref 150), some (.ref 151), some (.int z10), some (.int z11), some (.int z12), some (.int z13), some (.int z14), some (.int z15), some (.int z16), some (.int z17), some (.int z18), some (.int (nI (aWo (fun t => aTr S.1.1 t 2) (fun t => aTr S.1.1 t 3) (n + 1) t b))), b20, some (.int b21), some (.int (nI (4))), b23, b24, b25] [] (Z, iN N, L, u) := fun y => by
      rw [hst, if_neg y]
      exact lz_tB hZ H n (t + 1) b ws wh _ _ _ (by omega) hb h1 h2
    have g : ex 106 226 [some (.ref 0), some (.int x), some (.ref 144), some (.ref 145), some (.ref 146), some (.ref 147), some (.ref 148), some (.ref 149), some (.ref 150), some (.ref 151), some (.int z10), some (.int z11), some (.int z12), some (.int z13), some (.int z14), some (.int z15), some (.int z16), some (.int z17), some (.int z18), some (.int (nI (b))), some (.int (nI (ws))), some (.int (nI (wh))), some (.int (nI (t))), a23, a24, a25] [] (Z, iN N, L, u) = ex 106 384 [some (.ref 0), some (.int x), some (.ref 144), some (.ref 145), some (.ref 146), some (.ref 147), some (.ref 148), some (.ref 149), some (.ref 150), some (.ref 151), some (.int z10), some (.int z11), some (.int z12), some (.int z13), some (.int z14), some (.int z15), some (.int z16), some (.int z17), some (.int z18), some (.int (nI (b))), some (.int (nI (ws))), some (.int (nI (wh))), some (.int (nI (t))), some (.int (nI (P))), some (.int (nI (Q))), some (.int (nI (12)))] [] (Z, iN N, L, u) := by
      rw [r_L_told_226]
      simp (disch := omega) only [r_L_told_228, r_L_told_229, r_L_told_232, r_L_told_233, r_L_told_235, r_L_told_236, r_L_told_238, r_L_told_239, up2_o, up2_e, iN_ap, iN_up, i_ix, i_inb, i_lt, i_lt0, i_0lt, i_eq, i_ne0, i_00, i_11, i_01, i_10, i_b, i_rem2, n_rem, i_add, i_mul, i_sub, i_div, i_max, i_min, rdk_0, rdk_3, kp_none, kp_int, kp_ref, kp_long, kp_double, aK_v, aK_0, aK_ite, if_true, if_false, and_self, and_true, true_and, or_false, false_or, not_true_eq_false, not_false_eq_true, ite_self, ↓reduceIte, eq_self, Bool.false_eq_true, kp_int, ht]
      rw [li]
      simp (disch := omega) only [r_L_told_284, r_L_told_285, r_L_told_287, r_L_told_288, r_L_told_291, r_L_told_293, r_L_told_294, r_L_told_296, r_L_told_297, r_L_told_298, r_L_told_301, r_L_told_302, r_L_told_304, r_L_told_305, r_L_told_308, r_L_told_310, r_L_told_311, r_L_told_313, r_L_told_314, r_L_told_315, r_L_told_316, r_L_told_317, r_L_told_320, r_L_told_321, r_L_told_323, r_L_told_324, r_L_told_327, r_L_told_329, r_L_told_332, r_L_told_333, r_L_told_335, r_L_told_336, r_L_told_339, r_L_told_341, r_L_told_344, r_L_told_345, r_L_told_347, r_L_told_348, r_L_told_351, r_L_told_353, r_L_told_354, r_L_told_356, r_L_told_357, r_L_told_358, r_L_told_359, r_L_told_360, r_L_told_363, r_L_told_364, r_L_told_366, r_L_told_367, r_L_told_370, r_L_told_372, r_L_told_373, r_L_told_375, r_L_told_376, r_L_told_377, r_L_told_378, r_L_told_379, up2_o, up2_e, iN_ap, iN_up, i_ix, i_inb, i_lt, i_lt0, i_0lt, i_eq, i_ne0, i_00, i_11, i_01, i_10, i_b, i_rem2, n_rem, i_add, i_mul, i_sub, i_div, i_max, i_min, rdk_0, rdk_3, kp_none, kp_int, kp_ref, kp_long, kp_double, aK_v, aK_0, aK_ite, if_true, if_false, and_self, and_true, true_and, or_false, false_or, not_true_eq_false, not_false_eq_true, ite_self, ↓reduceIte, eq_self, Bool.false_eq_true, kp_int, z0, k8, l8, m0, m1, m2, m3, m4, m5, n0, n1, n4, n5]
    rw [g]
    by_cases y1 : ws < P
    · obtain ⟨b20, b21, b23, b24, b25, e1⟩ := take (Or.inl y1)
      refine ⟨b20, b21, b23, b24, b25, ?_⟩
      rw [← e1]
      simp (disch := omega) only [r_L_told_384, r_L_told_386, r_L_told_388, r_L_told_391, r_L_told_393, r_L_told_395, r_L_told_398, r_L_told_400, r_L_told_403, r_L_told_405, r_L_told_407, r_L_told_410, r_L_told_412, r_L_told_414, r_L_told_416, r_L_told_418, r_L_told_420, r_L_told_422, r_L_told_425, up2_o, up2_e, iN_ap, iN_up, i_ix, i_inb, i_lt, i_lt0, i_0lt, i_eq, i_ne0, i_00, i_11, i_01, i_10, i_b, i_rem2, n_rem, i_add, i_mul, i_sub, i_div, i_max, i_min, rdk_0, rdk_3, kp_none, kp_int, kp_ref, kp_long, kp_double, aK_v, aK_0, aK_ite, if_true, if_false, and_self, and_true, true_and, or_false, false_or, not_true_eq_false, not_false_eq_true, ite_self, ↓reduceIte, eq_self, Bool.false_eq_true, kp_int, y1]
    · by_cases y2 : P = ws
      · by_cases y3 : 0 < P
        · by_cases y4 : Q < wh
          · obtain ⟨b20, b21, b23, b24, b25, e1⟩ := take (Or.inr ⟨y2, y3, y4⟩)
            refine ⟨b20, b21, b23, b24, b25, ?_⟩
            rw [← e1]
            simp (disch := omega) only [r_L_told_384, r_L_told_386, r_L_told_388, r_L_told_391, r_L_told_393, r_L_told_395, r_L_told_398, r_L_told_400, r_L_told_403, r_L_told_405, r_L_told_407, r_L_told_410, r_L_told_412, r_L_told_414, r_L_told_416, r_L_told_418, r_L_told_420, r_L_told_422, r_L_told_425, up2_o, up2_e, iN_ap, iN_up, i_ix, i_inb, i_lt, i_lt0, i_0lt, i_eq, i_ne0, i_00, i_11, i_01, i_10, i_b, i_rem2, n_rem, i_add, i_mul, i_sub, i_div, i_max, i_min, rdk_0, rdk_3, kp_none, kp_int, kp_ref, kp_long, kp_double, aK_v, aK_0, aK_ite, if_true, if_false, and_self, and_true, true_and, or_false, false_or, not_true_eq_false, not_false_eq_true, ite_self, ↓reduceIte, eq_self, Bool.false_eq_true, kp_int, y1, y2, y3, y4, Nat.lt_irrefl]
            try simp (disch := omega) only [← y2, y3, if_true, up2_o, up2_e, iN_ap, iN_up, i_ix, i_inb, i_lt, i_lt0, i_0lt, i_eq, i_ne0, i_00, i_11, i_01, i_10, i_b, i_rem2, n_rem, i_add, i_mul, i_sub, i_div, i_max, i_min, rdk_0, rdk_3, kp_none, kp_int, kp_ref, kp_long, kp_double, aK_v, aK_0, aK_ite, if_true, if_false, and_self, and_true, true_and, or_false, false_or, not_true_eq_false, not_false_eq_true, ite_self, ↓reduceIte, eq_self, Bool.false_eq_true]
          · obtain ⟨b20, b21, b23, b24, b25, e1⟩ := leave (by omega)
            refine ⟨b20, b21, b23, b24, b25, ?_⟩
            rw [← e1]
            subst y2
            simp (disch := omega) only [r_L_told_384, r_L_told_386, r_L_told_388, r_L_told_391, r_L_told_393, r_L_told_395, r_L_told_398, r_L_told_400, r_L_told_403, r_L_told_405, r_L_told_407, r_L_told_410, r_L_told_412, r_L_told_414, r_L_told_416, r_L_told_418, r_L_told_420, r_L_told_422, r_L_told_425, up2_o, up2_e, iN_ap, iN_up, i_ix, i_inb, i_lt, i_lt0, i_0lt, i_eq, i_ne0, i_00, i_11, i_01, i_10, i_b, i_rem2, n_rem, i_add, i_mul, i_sub, i_div, i_max, i_min, rdk_0, rdk_3, kp_none, kp_int, kp_ref, kp_long, kp_double, aK_v, aK_0, aK_ite, if_true, if_false, and_self, and_true, true_and, or_false, false_or, not_true_eq_false, not_false_eq_true, ite_self, ↓reduceIte, eq_self, Bool.false_eq_true, kp_int, y3, y4, Nat.lt_irrefl]
        · obtain ⟨b20, b21, b23, b24, b25, e1⟩ := leave (by omega)
          refine ⟨b20, b21, b23, b24, b25, ?_⟩
          rw [← e1]
          subst y2
          simp (disch := omega) only [r_L_told_384, r_L_told_386, r_L_told_388, r_L_told_391, r_L_told_393, r_L_told_395, r_L_told_398, r_L_told_400, r_L_told_403, r_L_told_405, r_L_told_407, r_L_told_410, r_L_told_412, r_L_told_414, r_L_told_416, r_L_told_418, r_L_told_420, r_L_told_422, r_L_told_425, up2_o, up2_e, iN_ap, iN_up, i_ix, i_inb, i_lt, i_lt0, i_0lt, i_eq, i_ne0, i_00, i_11, i_01, i_10, i_b, i_rem2, n_rem, i_add, i_mul, i_sub, i_div, i_max, i_min, rdk_0, rdk_3, kp_none, kp_int, kp_ref, kp_long, kp_double, aK_v, aK_0, aK_ite, if_true, if_false, and_self, and_true, true_and, or_false, false_or, not_true_eq_false, not_false_eq_true, ite_self, ↓reduceIte, eq_self, Bool.false_eq_true, kp_int, y3, Nat.lt_irrefl]
      · obtain ⟨b20, b21, b23, b24, b25, e1⟩ := leave (by omega)
        refine ⟨b20, b21, b23, b24, b25, ?_⟩
        rw [← e1]
        simp (disch := omega) only [r_L_told_384, r_L_told_386, r_L_told_388, r_L_told_391, r_L_told_393, r_L_told_395, r_L_told_398, r_L_told_400, r_L_told_403, r_L_told_405, r_L_told_407, r_L_told_410, r_L_told_412, r_L_told_414, r_L_told_416, r_L_told_418, r_L_told_420, r_L_told_422, r_L_told_425, up2_o, up2_e, iN_ap, iN_up, i_ix, i_inb, i_lt, i_lt0, i_0lt, i_eq, i_ne0, i_00, i_11, i_01, i_10, i_b, i_rem2, n_rem, i_add, i_mul, i_sub, i_div, i_max, i_min, rdk_0, rdk_3, kp_none, kp_int, kp_ref, kp_long, kp_double, aK_v, aK_0, aK_ite, if_true, if_false, and_self, and_true, true_and, or_false, false_or, not_true_eq_false, not_false_eq_true, ite_self, ↓reduceIte, eq_self, Bool.false_eq_true, kp_int, y1, y2]
end Lq
