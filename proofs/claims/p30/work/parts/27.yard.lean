/-! one yard copied into another -/
def yC (N : Nat → Nat → Nat) (o y k : Nat) : Nat → Nat → Nat := fun b j => if y ≤ b ∧ b < y + k ∧ j < yLen (b - y) then N (o + (b - y)) j else N b j
theorem i_tn {a : Nat} (h : a < 2147483648) : (0 ≤ (nI a).toInt) = True := by
  rw [nI_toInt h]
  exact eq_true (Int.natCast_nonneg a)
theorem yC_cp {N : Nat → Nat → Nat} {o y k n : Nat} (hd : o + 15 < y ∨ y + 15 < o) (hk : k ≤ 15) (hn : yLen k = n) : cpI (iN (yC N o y k)) (o + k) (y + k) 0 0 n = iN (yC N o y (k + 1)) := by
  subst hn
  funext b j
  show (if b = y + k ∧ 0 ≤ j ∧ j < 0 + yLen k then nI (yC N o y k (o + k) (0 + (j - 0))) else nI (yC N o y k b j)) = nI (yC N o y (k + 1) b j)
  rw [← apply_ite nI]
  congr 1
  have e1 : yC N o y k (o + k) (0 + (j - 0)) = N (o + k) j := by
    unfold yC
    rw [if_neg (fun z => by omega), Nat.sub_zero, Nat.zero_add]
  rw [e1]
  by_cases h : b = y + k
  · subst h
    have e2 : y + k - y = k := by omega
    have e3 : yC N o y k (y + k) j = N (y + k) j := if_neg (fun z => by omega)
    rw [e3]
    unfold yC
    rw [e2]
    by_cases q : j < yLen k
    · rw [if_pos ⟨rfl, by omega, by omega⟩, if_pos ⟨by omega, by omega, q⟩]
    · rw [if_neg (fun z => q (by omega)), if_neg (fun z => q z.2.2)]
  · rw [if_neg (fun z => h z.1)]
    unfold yC
    by_cases q : y ≤ b ∧ b < y + k ∧ j < yLen (b - y)
    · rw [if_pos q, if_pos ⟨q.1, by omega, q.2.2⟩]
    · rw [if_neg q, if_neg (fun z => q ⟨z.1, by omega, z.2.2⟩)]
theorem yC_1 {N : Nat → Nat → Nat} {o y : Nat} : up2 (up2 (up2 (up2 N y 0 (N o 0)) y 1 (N o 1)) y 2 (N o 2)) y 3 (N o 3) = yC N o y 1 := by
  funext b j
  unfold yC up2
  by_cases h : b = y
  · subst h
    have e : yLen (b - b) = 4 := by rw [Nat.sub_self]; rfl
    rw [e, Nat.sub_self, Nat.add_zero]
    by_cases q : j < 4
    · rcases (show j = 0 ∨ j = 1 ∨ j = 2 ∨ j = 3 by omega) with rfl | rfl | rfl | rfl <;> simp
    · rw [if_neg (by omega), if_neg (by omega), if_neg (by omega), if_neg (by omega), if_neg (fun z => q z.2.2)]
  · rw [if_neg (fun z => h z.1), if_neg (fun z => h z.1), if_neg (fun z => h z.1), if_neg (fun z => h z.1), if_neg (fun z => h (by omega))]
section Yc
variable {Z : aZ} {N : Nat → Nat → Nat} {L : Nat → Nat → Int64} {c : Nat × Nat} {y o : Nat}
theorem s_copyFrom (hy : YAt Z y) (ho : YAt Z o) (hd : o + 15 < y ∨ y + 15 < o) :
    ex 36 0 [some (.ref y), some (.ref o)] [] (Z, iN N, L, c) = some (.inl none, (Z, iN (yC N o y 16), L, c)) := by
  have hne : (o = y) = False := eq_false (by omega)
  have c1 := yC_cp (N := N) (k := 1) (n := 60) hd (by omega) rfl
  have c2 := yC_cp (N := N) (k := 2) (n := 5) hd (by omega) rfl
  have c3 := yC_cp (N := N) (k := 3) (n := 6) hd (by omega) rfl
  have c4 := yC_cp (N := N) (k := 4) (n := 6) hd (by omega) rfl
  have c5 := yC_cp (N := N) (k := 5) (n := 6) hd (by omega) rfl
  have c6 := yC_cp (N := N) (k := 6) (n := 36) hd (by omega) rfl
  have c7 := yC_cp (N := N) (k := 7) (n := 36) hd (by omega) rfl
  have c8 := yC_cp (N := N) (k := 8) (n := 36) hd (by omega) rfl
  have c9 := yC_cp (N := N) (k := 9) (n := 36) hd (by omega) rfl
  have c10 := yC_cp (N := N) (k := 10) (n := 36) hd (by omega) rfl
  have c11 := yC_cp (N := N) (k := 11) (n := 36) hd (by omega) rfl
  have c12 := yC_cp (N := N) (k := 12) (n := 144) hd (by omega) rfl
  have c13 := yC_cp (N := N) (k := 13) (n := 144) hd (by omega) rfl
  have c14 := yC_cp (N := N) (k := 14) (n := 16) hd (by omega) rfl
  have c15 := yC_cp (N := N) (k := 15) (n := 36) hd (by omega) rfl
  simp (disch := omega) only [r_X6_copyFrom_0, r_X6_copyFrom_1, r_X6_copyFrom_2, r_X6_copyFrom_5, r_X6_copyFrom_8, r_X6_copyFrom_9, r_X6_copyFrom_10, r_X6_copyFrom_13, r_X6_copyFrom_16, r_X6_copyFrom_17, r_X6_copyFrom_18, r_X6_copyFrom_21, r_X6_copyFrom_24, r_X6_copyFrom_25, r_X6_copyFrom_26, r_X6_copyFrom_29, r_X6_copyFrom_32, r_X6_copyFrom_33, r_X6_copyFrom_36, r_X6_copyFrom_37, r_X6_copyFrom_38, r_X6_copyFrom_41, r_X6_copyFrom_42, r_X6_copyFrom_44, r_X6_copyFrom_47, r_X6_copyFrom_48, r_X6_copyFrom_51, r_X6_copyFrom_52, r_X6_copyFrom_53, r_X6_copyFrom_56, r_X6_copyFrom_57, r_X6_copyFrom_58, r_X6_copyFrom_61, r_X6_copyFrom_62, r_X6_copyFrom_65, r_X6_copyFrom_66, r_X6_copyFrom_67, r_X6_copyFrom_70, r_X6_copyFrom_71, r_X6_copyFrom_73, r_X6_copyFrom_76, r_X6_copyFrom_77, r_X6_copyFrom_80, r_X6_copyFrom_81, r_X6_copyFrom_82, r_X6_copyFrom_85, r_X6_copyFrom_86, r_X6_copyFrom_88, r_X6_copyFrom_91, r_X6_copyFrom_92, r_X6_copyFrom_95, r_X6_copyFrom_96, r_X6_copyFrom_97, r_X6_copyFrom_100, r_X6_copyFrom_101, r_X6_copyFrom_103, r_X6_copyFrom_106, r_X6_copyFrom_107, r_X6_copyFrom_110, r_X6_copyFrom_111, r_X6_copyFrom_112, r_X6_copyFrom_115, r_X6_copyFrom_116, r_X6_copyFrom_118, r_X6_copyFrom_121, r_X6_copyFrom_122, r_X6_copyFrom_125, r_X6_copyFrom_126, r_X6_copyFrom_127, r_X6_copyFrom_130, r_X6_copyFrom_131, r_X6_copyFrom_133, r_X6_copyFrom_136, r_X6_copyFrom_137, r_X6_copyFrom_140, r_X6_copyFrom_141, r_X6_copyFrom_142, r_X6_copyFrom_145, r_X6_copyFrom_146, r_X6_copyFrom_148, r_X6_copyFrom_151, r_X6_copyFrom_152, r_X6_copyFrom_155, r_X6_copyFrom_156, r_X6_copyFrom_157, r_X6_copyFrom_160, r_X6_copyFrom_161, r_X6_copyFrom_163, r_X6_copyFrom_166, r_X6_copyFrom_167, r_X6_copyFrom_170, r_X6_copyFrom_171, r_X6_copyFrom_172, r_X6_copyFrom_175, r_X6_copyFrom_176, r_X6_copyFrom_178, r_X6_copyFrom_181, r_X6_copyFrom_182, r_X6_copyFrom_185, r_X6_copyFrom_186, r_X6_copyFrom_187, r_X6_copyFrom_190, r_X6_copyFrom_191, r_X6_copyFrom_193, r_X6_copyFrom_196, r_X6_copyFrom_197, r_X6_copyFrom_200, r_X6_copyFrom_201, r_X6_copyFrom_202, r_X6_copyFrom_205, r_X6_copyFrom_206, r_X6_copyFrom_209, r_X6_copyFrom_212, r_X6_copyFrom_213, r_X6_copyFrom_216, r_X6_copyFrom_217, r_X6_copyFrom_218, r_X6_copyFrom_221, r_X6_copyFrom_222, r_X6_copyFrom_225, r_X6_copyFrom_228, r_X6_copyFrom_229, r_X6_copyFrom_232, r_X6_copyFrom_233, r_X6_copyFrom_234, r_X6_copyFrom_237, r_X6_copyFrom_238, r_X6_copyFrom_240, r_X6_copyFrom_243, r_X6_copyFrom_244, r_X6_copyFrom_247, r_X6_copyFrom_248, r_X6_copyFrom_249, r_X6_copyFrom_252, r_X6_copyFrom_253, r_X6_copyFrom_255, r_X6_copyFrom_258, hy.1, @id (Z.1 (y + 1) = 0) (yK hy 1 rfl), @id (Z.2.1 (y + 1) = 60) (yL hy 1 rfl), @id (Z.2.2.1 y 4 = .ref (y + 1)) (yR hy 1 rfl), @id (Z.1 (y + 2) = 0) (yK hy 2 rfl), @id (Z.2.1 (y + 2) = 5) (yL hy 2 rfl), @id (Z.2.2.1 y 5 = .ref (y + 2)) (yR hy 2 rfl), @id (Z.1 (y + 3) = 0) (yK hy 3 rfl), @id (Z.2.1 (y + 3) = 6) (yL hy 3 rfl), @id (Z.2.2.1 y 6 = .ref (y + 3)) (yR hy 3 rfl), @id (Z.1 (y + 4) = 0) (yK hy 4 rfl), @id (Z.2.1 (y + 4) = 6) (yL hy 4 rfl), @id (Z.2.2.1 y 7 = .ref (y + 4)) (yR hy 4 rfl), @id (Z.1 (y + 5) = 0) (yK hy 5 rfl), @id (Z.2.1 (y + 5) = 6) (yL hy 5 rfl), @id (Z.2.2.1 y 8 = .ref (y + 5)) (yR hy 5 rfl), @id (Z.1 (y + 6) = 0) (yK hy 6 rfl), @id (Z.2.1 (y + 6) = 36) (yL hy 6 rfl), @id (Z.2.2.1 y 9 = .ref (y + 6)) (yR hy 6 rfl), @id (Z.1 (y + 7) = 0) (yK hy 7 rfl), @id (Z.2.1 (y + 7) = 36) (yL hy 7 rfl), @id (Z.2.2.1 y 10 = .ref (y + 7)) (yR hy 7 rfl), @id (Z.1 (y + 8) = 0) (yK hy 8 rfl), @id (Z.2.1 (y + 8) = 36) (yL hy 8 rfl), @id (Z.2.2.1 y 11 = .ref (y + 8)) (yR hy 8 rfl), @id (Z.1 (y + 9) = 0) (yK hy 9 rfl), @id (Z.2.1 (y + 9) = 36) (yL hy 9 rfl), @id (Z.2.2.1 y 12 = .ref (y + 9)) (yR hy 9 rfl), @id (Z.1 (y + 10) = 0) (yK hy 10 rfl), @id (Z.2.1 (y + 10) = 36) (yL hy 10 rfl), @id (Z.2.2.1 y 13 = .ref (y + 10)) (yR hy 10 rfl), @id (Z.1 (y + 11) = 0) (yK hy 11 rfl), @id (Z.2.1 (y + 11) = 36) (yL hy 11 rfl), @id (Z.2.2.1 y 14 = .ref (y + 11)) (yR hy 11 rfl), @id (Z.1 (y + 12) = 0) (yK hy 12 rfl), @id (Z.2.1 (y + 12) = 144) (yL hy 12 rfl), @id (Z.2.2.1 y 15 = .ref (y + 12)) (yR hy 12 rfl), @id (Z.1 (y + 13) = 0) (yK hy 13 rfl), @id (Z.2.1 (y + 13) = 144) (yL hy 13 rfl), @id (Z.2.2.1 y 16 = .ref (y + 13)) (yR hy 13 rfl), @id (Z.1 (y + 14) = 0) (yK hy 14 rfl), @id (Z.2.1 (y + 14) = 16) (yL hy 14 rfl), @id (Z.2.2.1 y 17 = .ref (y + 14)) (yR hy 14 rfl), @id (Z.1 (y + 15) = 0) (yK hy 15 rfl), @id (Z.2.1 (y + 15) = 36) (yL hy 15 rfl), @id (Z.2.2.1 y 18 = .ref (y + 15)) (yR hy 15 rfl), ho.1, @id (Z.1 (o + 1) = 0) (yK ho 1 rfl), @id (Z.2.1 (o + 1) = 60) (yL ho 1 rfl), @id (Z.2.2.1 o 4 = .ref (o + 1)) (yR ho 1 rfl), @id (Z.1 (o + 2) = 0) (yK ho 2 rfl), @id (Z.2.1 (o + 2) = 5) (yL ho 2 rfl), @id (Z.2.2.1 o 5 = .ref (o + 2)) (yR ho 2 rfl), @id (Z.1 (o + 3) = 0) (yK ho 3 rfl), @id (Z.2.1 (o + 3) = 6) (yL ho 3 rfl), @id (Z.2.2.1 o 6 = .ref (o + 3)) (yR ho 3 rfl), @id (Z.1 (o + 4) = 0) (yK ho 4 rfl), @id (Z.2.1 (o + 4) = 6) (yL ho 4 rfl), @id (Z.2.2.1 o 7 = .ref (o + 4)) (yR ho 4 rfl), @id (Z.1 (o + 5) = 0) (yK ho 5 rfl), @id (Z.2.1 (o + 5) = 6) (yL ho 5 rfl), @id (Z.2.2.1 o 8 = .ref (o + 5)) (yR ho 5 rfl), @id (Z.1 (o + 6) = 0) (yK ho 6 rfl), @id (Z.2.1 (o + 6) = 36) (yL ho 6 rfl), @id (Z.2.2.1 o 9 = .ref (o + 6)) (yR ho 6 rfl), @id (Z.1 (o + 7) = 0) (yK ho 7 rfl), @id (Z.2.1 (o + 7) = 36) (yL ho 7 rfl), @id (Z.2.2.1 o 10 = .ref (o + 7)) (yR ho 7 rfl), @id (Z.1 (o + 8) = 0) (yK ho 8 rfl), @id (Z.2.1 (o + 8) = 36) (yL ho 8 rfl), @id (Z.2.2.1 o 11 = .ref (o + 8)) (yR ho 8 rfl), @id (Z.1 (o + 9) = 0) (yK ho 9 rfl), @id (Z.2.1 (o + 9) = 36) (yL ho 9 rfl), @id (Z.2.2.1 o 12 = .ref (o + 9)) (yR ho 9 rfl), @id (Z.1 (o + 10) = 0) (yK ho 10 rfl), @id (Z.2.1 (o + 10) = 36) (yL ho 10 rfl), @id (Z.2.2.1 o 13 = .ref (o + 10)) (yR ho 10 rfl), @id (Z.1 (o + 11) = 0) (yK ho 11 rfl), @id (Z.2.1 (o + 11) = 36) (yL ho 11 rfl), @id (Z.2.2.1 o 14 = .ref (o + 11)) (yR ho 11 rfl), @id (Z.1 (o + 12) = 0) (yK ho 12 rfl), @id (Z.2.1 (o + 12) = 144) (yL ho 12 rfl), @id (Z.2.2.1 o 15 = .ref (o + 12)) (yR ho 12 rfl), @id (Z.1 (o + 13) = 0) (yK ho 13 rfl), @id (Z.2.1 (o + 13) = 144) (yL ho 13 rfl), @id (Z.2.2.1 o 16 = .ref (o + 13)) (yR ho 13 rfl), @id (Z.1 (o + 14) = 0) (yK ho 14 rfl), @id (Z.2.1 (o + 14) = 16) (yL ho 14 rfl), @id (Z.2.2.1 o 17 = .ref (o + 14)) (yR ho 14 rfl), @id (Z.1 (o + 15) = 0) (yK ho 15 rfl), @id (Z.2.1 (o + 15) = 36) (yL ho 15 rfl), @id (Z.2.2.1 o 18 = .ref (o + 15)) (yR ho 15 rfl), up2_o, up2_e, iN_ap, iN_up, i_ix, i_inb, i_lt, i_lt0, i_0lt, i_eq, i_ne0, i_00, i_11, i_01, i_10, i_b, i_rem2, n_rem, i_add, i_mul, i_sub, i_div, i_max, i_min, rdk_0, rdk_3, kp_none, kp_int, kp_ref, kp_long, kp_double, aK_v, aK_0, aK_ite, if_true, if_false, and_self, and_true, true_and, or_false, false_or, not_true_eq_false, not_false_eq_true, ite_self, ↓reduceIte, i_tn, Nat.add_right_cancel_iff, hne, Nat.zero_add, Nat.le_refl, yC_1, c1, c2, c3, c4, c5, c6, c7, c8, c9, c10, c11, c12, c13, c14, c15]
end Yc
