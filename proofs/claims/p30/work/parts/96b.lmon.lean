/-! the law's snags, claims and money -/
theorem LS1_o {R R' : aY} (h : LS1 R) (e1 : R' 0 1 = R 0 1) (e3 : ∀ i, R' 3 i = R 3 i) : LS1 R' := fun i hi => by
  rw [e1] at hi
  rw [e3]
  exact h i hi
section Lx
variable {Z : aZ} {N : Nat → Nat → Nat} {L : Nat → Nat → Int64} {u : Nat × Nat} {S : aSt} {B : Nat → Nat} {o : Nat}
theorem lz_insp {x y : Int32} {a h k t b : Nat} {a16 a17 : Option Value} (hZ : LZ Z) (H : LW N S B o) (h1 : LS1 S.1.1) (hh : h < S.1.1 0 1) (hk : k < S.1.1 3 h) (ht : t < 4) (hb : b < 4) (ha : a < 3) : AR Z L u S o (ex 113 50 [some (.ref 0), some (.int (nI a)), some (.int x), some (.int y), some (.ref 144), some (.ref 145), some (.ref 146), some (.ref 147), some (.ref 148), some (.ref 149), some (.ref 151), some (.int (nI (h))), some (.int (nI (k))), some (.int (nI (4 * h + k))), some (.int (nI (t))), some (.int (nI (b))), a16, a17] [] (Z, iN N, L, u)) := by
  have hA := hZ.2.1
  have z0 := hZ.1.1.1
  obtain ⟨k7, l7⟩ := hZ.2.2.1
  obtain ⟨k8, l8⟩ := hZ.2.2.2
  have hI := H.2.2.1
  have hS := H.2.2.2.1
  have hw := hS.1.1
  have h3 := H.2.2.2.2.1
  have hbk := H.2.2.2.2.2
  have h31 := h3.1
  have h33 := h3.2 h (by omega)
  have hm : 4 * h + k < 12 := by omega
  have hp : pl (4 * h + k) = 6 * h + k := pl_hk (by omega)
  have LB0 := LW_LB H
  obtain ⟨b1, b2, b3, b4⟩ := LB0.2.2.1 _ hm
  have f2 := (H.1.2.2.2.1 _ hm).2.2.1
  have g2 := (H.1.2.2.2.2.1 _ hm).2
  rw [hp, stg_hk (by omega)] at f2
  have w5 := hw.2.1 h (by omega)
  have set2 : N 144 (5 * (4 * h + k) + 2) = 2 ↔ k < S.1.1 5 h := by
    rw [f2]
    by_cases z : k < S.1.1 5 h
    · rw [if_pos z]
      exact ⟨fun _ => z, fun _ => rfl⟩
    · rw [if_neg z]
      refine ⟨fun w => ?_, fun w => absurd w z⟩
      split at w <;> omega
  have e12 := H.1.2.2.2.2.2 _ hm t ht
  have e13 := H.2.1.1 _ hm t ht
  rw [hp] at e12 e13 g2
  have ws := hw.2.2.2.1 (6 * h + k) (by omega) t ht
  have hMT : MT N S.1.1 B o := ⟨H.1, H.2.1⟩
  obtain ⟨r, hr, r1⟩ := lz_at (x := y >>> (nI 6 &&& 31)) (n := 9) (h := (Z, iN N, L, u)) (by omega) (by omega)
  by_cases q1 : N 144 (5 * (4 * h + k) + 2) = 2
  · by_cases q2 : 99 < N 147 (4 * (4 * h + k) + t) + (1 + r)
    · have q3 : N 147 (4 * (4 * h + k) + t) + (1 + r) < 2147483648 := by omega
      have g : ex 113 50 [some (.ref 0), some (.int (nI a)), some (.int x), some (.int y), some (.ref 144), some (.ref 145), some (.ref 146), some (.ref 147), some (.ref 148), some (.ref 149), some (.ref 151), some (.int (nI (h))), some (.int (nI (k))), some (.int (nI (4 * h + k))), some (.int (nI (t))), some (.int (nI (b))), a16, a17] [] (Z, iN N, L, u) = some (.inl (some (.int (nI 1))), (Z, iN N, L, u)) := by
        simp (disch := omega) only [r_L_money_50, r_L_money_51, r_L_money_52, r_L_money_55, r_L_money_56, r_L_money_57, r_L_money_59, r_L_money_60, r_L_money_62, r_L_money_65, r_L_money_66, r_L_money_68, r_L_money_70, r_L_money_71, r_L_money_73, r_L_money_74, r_L_money_75, r_L_money_76, r_L_money_77, r_L_money_78, r_L_money_81, r_L_money_83, r_L_money_84, r_L_money_86, r_L_money_87, r_L_money_89, r_L_money_90, r_L_money_91, r_L_money_93, r_L_money_94, r_L_money_96, r_L_money_99, r_L_money_100, up2_o, up2_e, iN_ap, iN_up, i_ix, i_inb, i_lt, i_lt0, i_0lt, i_eq, i_ne0, i_00, i_11, i_01, i_10, i_b, i_rem2, n_rem, i_add, i_mul, i_sub, i_div, i_max, i_min, rdk_0, rdk_3, kp_none, kp_int, kp_ref, kp_long, kp_double, aK_v, aK_0, aK_ite, if_true, if_false, and_self, and_true, true_and, or_false, false_or, not_true_eq_false, not_false_eq_true, ite_self, ↓reduceIte, eq_self, Bool.false_eq_true, hA.1.1, hA.1.2, hA.2.1.1, hA.2.1.2, hA.2.2.1.1, hA.2.2.1.2, hA.2.2.2.1.1, hA.2.2.2.1.2, hA.2.2.2.2.1.1, hA.2.2.2.2.1.2, hA.2.2.2.2.2.1, hA.2.2.2.2.2.2, k7, l7, kp_int, ha, r1, q1, q2]
      rw [g]
      exact AR_rf H h1
    · obtain ⟨n, hn⟩ : ∃ n, n = 1 + r := ⟨_, rfl⟩
      rw [← hn] at q2
      have MT1 : MT (up2 (up2 N 147 (4 * (4 * h + k) + t) (N 147 (4 * (4 * h + k) + t) + n)) 148 (4 * t + 2) (N 148 (4 * t + 2) + n)) (inR S.1.1 (6 * h + k) t n) B o := by
        have m1 := MT_13 (m := 4 * h + k) (t := t) (v := N 147 (4 * (4 * h + k) + t) + n) hMT ht
        have m2 := MT_tal (t := t) (k := 2) (v := n) m1 (by omega)
        rw [up2_o (by omega), hp, e13] at m2
        rw [e13]
        exact m2
      obtain ⟨W, hW⟩ : ∃ W, W = up2 (up2 N 147 (4 * (4 * h + k) + t) (N 147 (4 * (4 * h + k) + t) + n)) 148 (4 * t + 2) (N 148 (4 * t + 2) + n) := ⟨_, rfl⟩
      rw [← hW] at MT1
      have W7 : W 147 (4 * (4 * h + k) + t) = S.1.1 13 ((6 * h + k) * 4 + t) + n := by
        rw [hW, up2_o (by omega), up2_e ⟨rfl, rfl⟩, e13]
      have hI1 : CI W S := CI_cg hI (fun a ha => by rw [hW, up2_ne (by omega), up2_ne (by omega)])
      have hr0 : oIns S h k t n = (0, S.1.1 13 ((6 * h + k) * 4 + t) + n, (inR S.1.1 (6 * h + k) t n, S.1.2), push S.2.1 S.1, S.2.2) := by
        unfold oIns
        rw [if_neg (not_not_intro ⟨⟨hh, hk⟩, ht⟩), if_neg (by omega), if_neg (by have := set2.mp q1; omega)]
      obtain ⟨N2, c1, c2, c3⟩ := CR_0 (q_inspect (L := L) (c := u) (h := h) (k := k) (t := t) (n := n) hZ.1 hI1 hS (by omega) (by omega) (by omega) (by omega)) hr0
      have hS2 := SOK_ins (h := h) (k := k) (t := t) (n := n) hS
      rw [hr0] at hS2
      have o3 : ∀ c j, c ≠ 13 → c ≠ 14 → inR S.1.1 (6 * h + k) t n c j = S.1.1 c j := fun c j z1 z2 => by
        unfold inR aTal
        rw [up2_o (fun z => z2 z.1), up2_o (fun z => z1 z.1)]
      have HW := LW_mk MT1 c2 c3 hS2 (LS3_o h3 (o3 0 1 (by omega) (by omega)) (fun i => o3 3 i (by omega) (by omega))) hbk
      refine ⟨N2, _, B, o, ?_, HW, LS1_o h1 (o3 0 1 (by omega) (by omega)) (fun i => o3 3 i (by omega) (by omega)), by omega, ?_, fun _ => push_pos⟩
      · have v7 : N2 147 (4 * (4 * h + k) + t) = S.1.1 13 ((6 * h + k) * 4 + t) + n := by rw [c3 147 (by omega)]; exact W7
        have r2 : 1 + r = n := hn.symm
        simp (disch := omega) only [r_L_money_50, r_L_money_51, r_L_money_52, r_L_money_55, r_L_money_56, r_L_money_57, r_L_money_59, r_L_money_60, r_L_money_62, r_L_money_65, r_L_money_66, r_L_money_68, r_L_money_70, r_L_money_71, r_L_money_73, r_L_money_74, r_L_money_75, r_L_money_76, r_L_money_77, r_L_money_78, r_L_money_81, r_L_money_83, r_L_money_84, r_L_money_86, r_L_money_87, r_L_money_89, r_L_money_90, r_L_money_91, r_L_money_93, r_L_money_94, r_L_money_96, r_L_money_99, r_L_money_100, r_L_money_101, r_L_money_103, r_L_money_104, r_L_money_106, r_L_money_107, r_L_money_109, r_L_money_110, r_L_money_111, r_L_money_112, r_L_money_114, r_L_money_115, r_L_money_116, r_L_money_118, r_L_money_119, r_L_money_121, r_L_money_122, r_L_money_123, r_L_money_124, r_L_money_125, r_L_money_126, r_L_money_128, r_L_money_129, up2_o, up2_e, iN_ap, iN_up, i_ix, i_inb, i_lt, i_lt0, i_0lt, i_eq, i_ne0, i_00, i_11, i_01, i_10, i_b, i_rem2, n_rem, i_add, i_mul, i_sub, i_div, i_max, i_min, rdk_0, rdk_3, kp_none, kp_int, kp_ref, kp_long, kp_double, aK_v, aK_0, aK_ite, if_true, if_false, and_self, and_true, true_and, or_false, false_or, not_true_eq_false, not_false_eq_true, ite_self, ↓reduceIte, eq_self, Bool.false_eq_true, hA.1.1, hA.1.2, hA.2.1.1, hA.2.1.2, hA.2.2.1.1, hA.2.2.1.2, hA.2.2.2.1.1, hA.2.2.2.1.2, hA.2.2.2.2.1.1, hA.2.2.2.2.1.2, hA.2.2.2.2.2.1, hA.2.2.2.2.2.2, k7, l7, k8, l8, kp_int, ha, r1, r2, q1, q2]
        rw [← hW]
        simp (disch := omega) only [r_L_money_130, r_L_money_131, r_L_money_133, r_L_money_135, r_L_money_137, r_L_money_139, r_L_money_142, r_L_money_144, r_L_money_145, r_L_money_147, r_L_money_148, r_L_money_150, r_L_money_151, r_L_money_152, r_L_money_155, r_L_money_156, r_L_money_159, r_L_money_160, up2_o, up2_e, iN_ap, iN_up, i_ix, i_inb, i_lt, i_lt0, i_0lt, i_eq, i_ne0, i_00, i_11, i_01, i_10, i_b, i_rem2, n_rem, i_add, i_mul, i_sub, i_div, i_max, i_min, rdk_0, rdk_3, kp_none, kp_int, kp_ref, kp_long, kp_double, aK_v, aK_0, aK_ite, if_true, if_false, and_self, and_true, true_and, or_false, false_or, not_true_eq_false, not_false_eq_true, ite_self, ↓reduceIte, eq_self, Bool.false_eq_true, hA.1.1, hA.1.2, hA.2.1.1, hA.2.1.2, hA.2.2.1.1, hA.2.2.1.2, hA.2.2.2.1.1, hA.2.2.2.1.2, hA.2.2.2.2.1.1, hA.2.2.2.2.1.2, hA.2.2.2.2.2.1, hA.2.2.2.2.2.2, k7, l7, kp_int, z0, c1, v7]
      · show inR S.1.1 (6 * h + k) t n 0 0 ≤ _
        rw [o3 _ _ (by omega) (by omega)]
        omega
  · have g : ex 113 50 [some (.ref 0), some (.int (nI a)), some (.int x), some (.int y), some (.ref 144), some (.ref 145), some (.ref 146), some (.ref 147), some (.ref 148), some (.ref 149), some (.ref 151), some (.int (nI (h))), some (.int (nI (k))), some (.int (nI (4 * h + k))), some (.int (nI (t))), some (.int (nI (b))), a16, a17] [] (Z, iN N, L, u) = some (.inl (some (.int (nI 1))), (Z, iN N, L, u)) := by
      simp (disch := omega) only [r_L_money_50, r_L_money_51, r_L_money_52, r_L_money_55, r_L_money_56, r_L_money_57, r_L_money_59, r_L_money_60, r_L_money_62, r_L_money_65, r_L_money_66, r_L_money_68, r_L_money_70, r_L_money_71, r_L_money_73, r_L_money_74, r_L_money_75, r_L_money_76, r_L_money_77, r_L_money_78, r_L_money_81, r_L_money_83, r_L_money_84, r_L_money_86, r_L_money_87, r_L_money_89, r_L_money_90, r_L_money_91, r_L_money_93, r_L_money_94, r_L_money_96, r_L_money_99, r_L_money_100, up2_o, up2_e, iN_ap, iN_up, i_ix, i_inb, i_lt, i_lt0, i_0lt, i_eq, i_ne0, i_00, i_11, i_01, i_10, i_b, i_rem2, n_rem, i_add, i_mul, i_sub, i_div, i_max, i_min, rdk_0, rdk_3, kp_none, kp_int, kp_ref, kp_long, kp_double, aK_v, aK_0, aK_ite, if_true, if_false, and_self, and_true, true_and, or_false, false_or, not_true_eq_false, not_false_eq_true, ite_self, ↓reduceIte, eq_self, Bool.false_eq_true, hA.1.1, hA.1.2, hA.2.1.1, hA.2.1.2, hA.2.2.1.1, hA.2.2.1.2, hA.2.2.2.1.1, hA.2.2.2.1.2, hA.2.2.2.2.1.1, hA.2.2.2.2.1.2, hA.2.2.2.2.2.1, hA.2.2.2.2.2.2, kp_int, ha, r1, q1]
    rw [g]
    exact AR_rf H h1
theorem lz_fixW {h k t b v c : Nat} (hMT : MT N S.1.1 B o) (hm : 4 * h + k < 12) (hp : pl (4 * h + k) = 6 * h + k) (ht : t < 4) (hb : b < 4) (hbt : b ≠ t) (hv : v = min (S.1.1 2 3) (S.1.1 12 ((6 * h + k) * 4 + t))) (hc : c = 1) : MT (up2 (up2 (up2 (up2 (up2 (up2 N 147 (4 * (4 * h + k) + t) (N 147 (4 * (4 * h + k) + t) - 1)) 146 (4 * (4 * h + k) + t) (N 146 (4 * (4 * h + k) + t) - v)) 145 (3 * (4 * h + k) + 2) (N 145 (3 * (4 * h + k) + 2) + v)) 148 (4 * b + 0) (N 148 (4 * b + 0) + v)) 148 (4 * t + 1) (N 148 (4 * t + 1) + v)) 148 (4 * b + 3) (N 148 (4 * b + 3) + c)) (fxR S.1.1 (6 * h + k) t b) B o := by
  have e12 := hMT.1.2.2.2.2.2 _ hm t ht
  have e13 := hMT.2.1 _ hm t ht
  have e10 := (hMT.1.2.2.2.1 _ hm).2.2.2.2.2.2
  rw [hp] at e12 e13 e10
  have m1 := MT_13 (m := 4 * h + k) (t := t) (v := N 147 (4 * (4 * h + k) + t) - 1) hMT ht
  have m2 := MT_12 (m := 4 * h + k) (t := t) (v := N 146 (4 * (4 * h + k) + t) - v) m1 ht
  have m3 := MT_mi (m := 4 * h + k) (k := 10) (d := 2) (v := N 145 (3 * (4 * h + k) + 2) + v) m2 (Or.inr ⟨rfl, rfl⟩)
  have m4 := MT_tal (t := b) (k := 0) (v := v) m3 (by omega)
  have m5 := MT_tal (t := t) (k := 1) (v := v) m4 (by omega)
  have m6 := MT_tal (t := b) (k := 3) (v := c) m5 (by omega)
  simp (disch := omega) only [up2_o, up2_e, hp, e12, e13, e10] at m6
  unfold fxR
  rw [if_neg hbt, ← hv]
  unfold aMov
  rw [up2_o (f := S.1.1) (by omega), up2_o (f := S.1.1) (by omega)]
  subst hc
  rw [e12, e13, e10]
  exact m6
theorem lz_fixm {x y : Int32} {h k t b : Nat} {a16 a17 : Option Value} (hZ : LZ Z) (H : LW N S B o) (h1 : LS1 S.1.1) (hh : h < S.1.1 0 1) (hk : k < S.1.1 3 h) (ht : t < 4) (hb : b < 4) : AR Z L u S o (ex 113 161 [some (.ref 0), some (.int (nI 3)), some (.int x), some (.int y), some (.ref 144), some (.ref 145), some (.ref 146), some (.ref 147), some (.ref 148), some (.ref 149), some (.ref 151), some (.int (nI (h))), some (.int (nI (k))), some (.int (nI (4 * h + k))), some (.int (nI (t))), some (.int (nI (b))), a16, a17] [] (Z, iN N, L, u)) := by
  have hA := hZ.2.1
  have z0 := hZ.1.1.1
  obtain ⟨k7, l7⟩ := hZ.2.2.1
  obtain ⟨k8, l8⟩ := hZ.2.2.2
  have hI := H.2.2.1
  have hS := H.2.2.2.1
  have hw := hS.1.1
  have h3 := H.2.2.2.2.1
  have hbk := H.2.2.2.2.2
  have h31 := h3.1
  have h33 := h3.2 h (by omega)
  have hm : 4 * h + k < 12 := by omega
  have hp : pl (4 * h + k) = 6 * h + k := pl_hk (by omega)
  have LB0 := LW_LB H
  obtain ⟨b1, b2, b3, b4⟩ := LB0.2.2.1 _ hm
  have f2 := (H.1.2.2.2.1 _ hm).2.2.1
  have g2 := (H.1.2.2.2.2.1 _ hm).2
  rw [hp, stg_hk (by omega)] at f2
  have w5 := hw.2.1 h (by omega)
  have set2 : N 144 (5 * (4 * h + k) + 2) = 2 ↔ k < S.1.1 5 h := by
    rw [f2]
    by_cases z : k < S.1.1 5 h
    · rw [if_pos z]
      exact ⟨fun _ => z, fun _ => rfl⟩
    · rw [if_neg z]
      refine ⟨fun w => ?_, fun w => absurd w z⟩
      split at w <;> omega
  have e12 := H.1.2.2.2.2.2 _ hm t ht
  have e13 := H.2.1.1 _ hm t ht
  rw [hp] at e12 e13 g2
  have ws := hw.2.2.2.1 (6 * h + k) (by omega) t ht
  have hMT : MT N S.1.1 B o := ⟨H.1, H.2.1⟩
  by_cases q1 : N 147 (4 * (4 * h + k) + t) = 0
  · have g : ex 113 161 [some (.ref 0), some (.int (nI 3)), some (.int x), some (.int y), some (.ref 144), some (.ref 145), some (.ref 146), some (.ref 147), some (.ref 148), some (.ref 149), some (.ref 151), some (.int (nI (h))), some (.int (nI (k))), some (.int (nI (4 * h + k))), some (.int (nI (t))), some (.int (nI (b))), a16, a17] [] (Z, iN N, L, u) = some (.inl (some (.int (nI 1))), (Z, iN N, L, u)) := by
      have q2 : (nI (N 147 (4 * (4 * h + k) + t)) = 0) = True := by rw [q1]; exact i_00
      simp (disch := omega) only [r_L_money_161, r_L_money_162, r_L_money_163, r_L_money_166, r_L_money_168, r_L_money_169, r_L_money_171, r_L_money_172, r_L_money_174, r_L_money_175, r_L_money_176, r_L_money_179, r_L_money_180, up2_o, up2_e, iN_ap, iN_up, i_ix, i_inb, i_lt, i_lt0, i_0lt, i_eq, i_ne0, i_00, i_11, i_01, i_10, i_b, i_rem2, n_rem, i_add, i_mul, i_sub, i_div, i_max, i_min, rdk_0, rdk_3, kp_none, kp_int, kp_ref, kp_long, kp_double, aK_v, aK_0, aK_ite, if_true, if_false, and_self, and_true, true_and, or_false, false_or, not_true_eq_false, not_false_eq_true, ite_self, ↓reduceIte, eq_self, Bool.false_eq_true, hA.1.1, hA.1.2, hA.2.1.1, hA.2.1.2, hA.2.2.1.1, hA.2.2.1.2, hA.2.2.2.1.1, hA.2.2.2.1.2, hA.2.2.2.2.1.1, hA.2.2.2.2.1.2, hA.2.2.2.2.2.1, hA.2.2.2.2.2.2, k7, l7, kp_int, q2]
    rw [g]
    exact AR_rf H h1
  · have q0 : N 147 (4 * (4 * h + k) + t) ≤ 99 := by rw [e13]; exact ws.2.1
    have q2 : (nI (N 147 (4 * (4 * h + k) + t)) = 0) = False := i_ne0 (by omega) (by omega)
    have q9 : N 146 (4 * (4 * h + k) + t) ≤ 9999 := by rw [e12]; exact ws.1
    have s3 : N 149 3 ≤ 100 := by rw [H.1.2.2.1 3 (by omega)]; exact hw.1.2.2.2.2.2.2.2.2.1
    have o3 : ∀ c j, c ≠ 13 → c ≠ 14 → c ≠ 12 → c ≠ 10 → fxR S.1.1 (6 * h + k) t b c j = S.1.1 c j := fun c j z1 z2 z3 z4 => by
      unfold fxR
      split
      · exact up2_o (fun z => z1 z.1)
      · unfold aMov aTal
        rw [up2_o (fun z => z2 z.1), up2_o (fun z => z2 z.1), up2_o (fun z => z2 z.1), up2_o (fun z => z4 z.1), up2_o (fun z => z3 z.1), up2_o (fun z => z1 z.1)]
    have fin : ∀ (W : Nat → Nat → Nat), (∀ a, (a < 144 ∨ 1000 ≤ a) → W a = N a) → MT W (fxR S.1.1 (6 * h + k) t b) B o → ∃ N2, ex 63 0 [some (.ref 0), some (.int (nI h)), some (.int (nI k)), some (.int (nI t)), some (.int (nI b)), none, none, none] [] (Z, iN W, L, u) = some (.inl (some (.int (nI (if b = t then 0 else min (S.1.1 2 3) (S.1.1 12 ((6 * h + k) * 4 + t)))))), (Z, iN N2, L, u)) ∧ AR Z L u S o (some (.inl (some (.int (nI 1))), (Z, iN N2, L, u))) := fun W hW hM => by
      have hr0 : oFix S h k t b = (0, (if b = t then 0 else min (S.1.1 2 3) (S.1.1 12 ((6 * h + k) * 4 + t))), (fxR S.1.1 (6 * h + k) t b, S.1.2), push S.2.1 S.1, S.2.2) := by
        unfold oFix
        rw [if_neg (not_not_intro ⟨⟨⟨hh, hk⟩, ht⟩, hb⟩), if_neg (by omega)]
      obtain ⟨N2, c1, c2, c3⟩ := CR_0 (q_fix (L := L) (c := u) (h := h) (k := k) (t := t) (b := b) hZ.1 (CI_cg hI hW) hS (by omega) (by omega) (by omega) (by omega)) hr0
      have hS2 := SOK_fix (h := h) (k := k) (t := t) (b := b) hS
      rw [hr0] at hS2
      have HW := LW_mk hM c2 c3 hS2 (LS3_o h3 (o3 0 1 (by omega) (by omega) (by omega) (by omega)) (fun i => o3 3 i (by omega) (by omega) (by omega) (by omega))) hbk
      refine ⟨N2, c1, N2, _, B, o, rfl, HW, LS1_o h1 (o3 0 1 (by omega) (by omega) (by omega) (by omega)) (fun i => o3 3 i (by omega) (by omega) (by omega) (by omega)), by omega, ?_, fun _ => push_pos⟩
      · show fxR S.1.1 (6 * h + k) t b 0 0 ≤ _
        rw [o3 _ _ (by omega) (by omega) (by omega) (by omega)]
        omega
    by_cases q3 : b = t
    · subst q3
      have m1 := MT_13 (m := 4 * h + k) (t := b) (v := N 147 (4 * (4 * h + k) + b) - 1) hMT ht
      have ef : fxR S.1.1 (6 * h + k) b b = up2 S.1.1 13 ((6 * h + k) * 4 + b) (S.1.1 13 ((6 * h + k) * 4 + b) - 1) := by
        unfold fxR
        rw [if_pos rfl]
      obtain ⟨W, hW⟩ : ∃ W, W = up2 N 147 (4 * (4 * h + k) + b) (N 147 (4 * (4 * h + k) + b) - 1) := ⟨_, rfl⟩
      have ec : up2 (up2 (up2 (up2 (up2 (up2 N 147 (4 * (4 * h + k) + b) (N 147 (4 * (4 * h + k) + b) - 1)) 146 (4 * (4 * h + k) + b) (N 146 (4 * (4 * h + k) + b))) 145 (3 * (4 * h + k) + 2) (N 145 (3 * (4 * h + k) + 2))) 148 (4 * b) (N 148 (4 * b))) 148 (4 * b + 1) (N 148 (4 * b + 1))) 148 (4 * b + 3) (N 148 (4 * b + 3)) = W := by
        have s : ∀ (f : Nat → Nat → Nat) (a j v : Nat), f a j = v → up2 f a j v = f := fun f a j v e => by
          funext a2 j2
          unfold up2
          by_cases z : a2 = a ∧ j2 = j
          · rw [if_pos z, z.1, z.2, e]
          · rw [if_neg z]
        rw [hW]
        rw [s (up2 N 147 _ _) 146 _ _ (up2_o (by omega)), s (up2 N 147 _ _) 145 _ _ (up2_o (by omega)), s (up2 N 147 _ _) 148 _ _ (up2_o (by omega)), s (up2 N 147 _ _) 148 _ _ (up2_o (by omega)), s (up2 N 147 _ _) 148 _ _ (up2_o (by omega))]
      rw [← hW, hp, e13, ← ef] at m1
      obtain ⟨N2, c1, c2⟩ := fin W (fun a ha => by rw [hW]; exact up2_ne (by omega)) m1
      rw [if_pos rfl] at c1
      have g : ex 113 161 [some (.ref 0), some (.int (nI 3)), some (.int x), some (.int y), some (.ref 144), some (.ref 145), some (.ref 146), some (.ref 147), some (.ref 148), some (.ref 149), some (.ref 151), some (.int (nI (h))), some (.int (nI (k))), some (.int (nI (4 * h + k))), some (.int (nI (b))), some (.int (nI (b))), a16, a17] [] (Z, iN N, L, u) = some (.inl (some (.int (nI 1))), (Z, iN N2, L, u)) := by
        simp (disch := omega) only [r_L_money_161, r_L_money_162, r_L_money_163, r_L_money_166, r_L_money_168, r_L_money_169, r_L_money_171, r_L_money_172, r_L_money_174, r_L_money_175, r_L_money_176, r_L_money_179, r_L_money_180, r_L_money_181, r_L_money_183, r_L_money_185, r_L_money_188, r_L_money_189, r_L_money_192, r_L_money_194, r_L_money_195, r_L_money_197, r_L_money_198, r_L_money_200, r_L_money_201, r_L_money_202, r_L_money_204, r_L_money_205, r_L_money_206, r_L_money_209, r_L_money_211, r_L_money_212, r_L_money_214, r_L_money_215, r_L_money_217, r_L_money_218, r_L_money_219, r_L_money_222, r_L_money_224, r_L_money_225, r_L_money_226, r_L_money_228, r_L_money_230, r_L_money_231, r_L_money_233, r_L_money_234, r_L_money_236, r_L_money_237, r_L_money_238, r_L_money_239, r_L_money_240, r_L_money_241, r_L_money_242, r_L_money_244, r_L_money_245, r_L_money_247, r_L_money_248, r_L_money_250, r_L_money_251, r_L_money_252, r_L_money_253, r_L_money_255, r_L_money_256, r_L_money_257, r_L_money_259, r_L_money_260, r_L_money_262, r_L_money_263, r_L_money_264, r_L_money_265, r_L_money_266, r_L_money_267, r_L_money_269, r_L_money_270, r_L_money_271, r_L_money_273, r_L_money_274, r_L_money_276, r_L_money_277, r_L_money_278, r_L_money_279, r_L_money_281, r_L_money_282, r_L_money_283, r_L_money_285, r_L_money_286, r_L_money_288, r_L_money_289, r_L_money_290, r_L_money_291, r_L_money_292, r_L_money_293, r_L_money_295, r_L_money_296, r_L_money_297, r_L_money_299, r_L_money_300, r_L_money_302, r_L_money_303, r_L_money_304, r_L_money_305, r_L_money_306, r_L_money_307, r_L_money_309, r_L_money_311, r_L_money_314, r_L_money_315, r_L_money_318, r_L_money_319, r_L_money_320, up2_o, up2_e, iN_ap, iN_up, i_ix, i_inb, i_lt, i_lt0, i_0lt, i_eq, i_ne0, i_00, i_11, i_01, i_10, i_b, i_rem2, n_rem, i_add, i_mul, i_sub, i_div, i_max, i_min, rdk_0, rdk_3, kp_none, kp_int, kp_ref, kp_long, kp_double, aK_v, aK_0, aK_ite, if_true, if_false, and_self, and_true, true_and, or_false, false_or, not_true_eq_false, not_false_eq_true, ite_self, ↓reduceIte, eq_self, Bool.false_eq_true, hA.1.1, hA.1.2, hA.2.1.1, hA.2.1.2, hA.2.2.1.1, hA.2.2.1.2, hA.2.2.2.1.1, hA.2.2.2.1.2, hA.2.2.2.2.1.1, hA.2.2.2.2.1.2, hA.2.2.2.2.2.1, hA.2.2.2.2.2.2, k7, l7, k8, l8, kp_int, q2, Nat.add_zero, Nat.sub_zero]
        rw [ec]
        simp (disch := omega) only [r_L_money_321, r_L_money_322, r_L_money_324, r_L_money_326, r_L_money_328, r_L_money_330, r_L_money_333, r_L_money_335, r_L_money_338, r_L_money_339, r_L_money_342, r_L_money_343, up2_o, up2_e, iN_ap, iN_up, i_ix, i_inb, i_lt, i_lt0, i_0lt, i_eq, i_ne0, i_00, i_11, i_01, i_10, i_b, i_rem2, n_rem, i_add, i_mul, i_sub, i_div, i_max, i_min, rdk_0, rdk_3, kp_none, kp_int, kp_ref, kp_long, kp_double, aK_v, aK_0, aK_ite, if_true, if_false, and_self, and_true, true_and, or_false, false_or, not_true_eq_false, not_false_eq_true, ite_self, ↓reduceIte, eq_self, Bool.false_eq_true, kp_int, z0, c1]
      rw [g]
      exact c2
    · obtain ⟨v, hv⟩ : ∃ v, v = min (S.1.1 2 3) (S.1.1 12 ((6 * h + k) * 4 + t)) := ⟨_, rfl⟩
      have m1 := lz_fixW (c := 1) hMT hm hp ht hb q3 hv rfl
      obtain ⟨W, hW⟩ : ∃ W, W = up2 (up2 (up2 (up2 (up2 (up2 N 147 (4 * (4 * h + k) + t) (N 147 (4 * (4 * h + k) + t) - 1)) 146 (4 * (4 * h + k) + t) (N 146 (4 * (4 * h + k) + t) - v)) 145 (3 * (4 * h + k) + 2) (N 145 (3 * (4 * h + k) + 2) + v)) 148 (4 * b + 0) (N 148 (4 * b + 0) + v)) 148 (4 * t + 1) (N 148 (4 * t + 1) + v)) 148 (4 * b + 3) (N 148 (4 * b + 3) + 1) := ⟨_, rfl⟩
      rw [← hW] at m1
      obtain ⟨N2, c1, c2⟩ := fin W (fun a ha => by rw [hW]; repeat rw [up2_ne (by omega)]) m1
      rw [if_neg q3, ← hv] at c1
      have hN : v = if N 146 (4 * (4 * h + k) + t) < N 149 3 then N 146 (4 * (4 * h + k) + t) else N 149 3 := by
        rw [hv, e12, H.1.2.2.1 3 (by omega)]
        split <;> omega
      have hv2 : v ≤ N 146 (4 * (4 * h + k) + t) := by
        rw [hN]
        split <;> omega
      have g0 : ex 113 161 [some (.ref 0), some (.int (nI 3)), some (.int x), some (.int y), some (.ref 144), some (.ref 145), some (.ref 146), some (.ref 147), some (.ref 148), some (.ref 149), some (.ref 151), some (.int (nI (h))), some (.int (nI (k))), some (.int (nI (4 * h + k))), some (.int (nI (t))), some (.int (nI (b))), a16, a17] [] (Z, iN N, L, u) = ex 113 228 [some (.ref 0), some (.int (nI 3)), some (.int x), some (.int y), some (.ref 144), some (.ref 145), some (.ref 146), some (.ref 147), some (.ref 148), some (.ref 149), some (.ref 151), some (.int (nI (h))), some (.int (nI (k))), some (.int (nI (4 * h + k))), some (.int (nI (t))), some (.int (nI (b))), some (.int (nI v)), a17] [] (Z, iN N, L, u) := by
        by_cases q5 : N 146 (4 * (4 * h + k) + t) < N 149 3
        · rw [if_pos q5] at hN
          rw [hN]
          simp (disch := omega) only [r_L_money_161, r_L_money_162, r_L_money_163, r_L_money_166, r_L_money_168, r_L_money_169, r_L_money_171, r_L_money_172, r_L_money_174, r_L_money_175, r_L_money_176, r_L_money_179, r_L_money_180, r_L_money_181, r_L_money_183, r_L_money_185, r_L_money_188, r_L_money_189, r_L_money_192, r_L_money_194, r_L_money_195, r_L_money_197, r_L_money_198, r_L_money_200, r_L_money_201, r_L_money_202, r_L_money_204, r_L_money_205, r_L_money_206, r_L_money_209, r_L_money_211, r_L_money_212, r_L_money_214, r_L_money_215, r_L_money_217, r_L_money_218, r_L_money_219, r_L_money_222, r_L_money_224, r_L_money_225, r_L_money_226, up2_o, up2_e, iN_ap, iN_up, i_ix, i_inb, i_lt, i_lt0, i_0lt, i_eq, i_ne0, i_00, i_11, i_01, i_10, i_b, i_rem2, n_rem, i_add, i_mul, i_sub, i_div, i_max, i_min, rdk_0, rdk_3, kp_none, kp_int, kp_ref, kp_long, kp_double, aK_v, aK_0, aK_ite, if_true, if_false, and_self, and_true, true_and, or_false, false_or, not_true_eq_false, not_false_eq_true, ite_self, ↓reduceIte, eq_self, Bool.false_eq_true, hA.1.1, hA.1.2, hA.2.1.1, hA.2.1.2, hA.2.2.1.1, hA.2.2.1.2, hA.2.2.2.1.1, hA.2.2.2.1.2, hA.2.2.2.2.1.1, hA.2.2.2.2.1.2, hA.2.2.2.2.2.1, hA.2.2.2.2.2.2, k7, l7, kp_int, q2, q3, q5]
        · rw [if_neg q5] at hN
          rw [hN]
          simp (disch := omega) only [r_L_money_161, r_L_money_162, r_L_money_163, r_L_money_166, r_L_money_168, r_L_money_169, r_L_money_171, r_L_money_172, r_L_money_174, r_L_money_175, r_L_money_176, r_L_money_179, r_L_money_180, r_L_money_181, r_L_money_183, r_L_money_185, r_L_money_188, r_L_money_189, r_L_money_192, r_L_money_194, r_L_money_195, r_L_money_197, r_L_money_198, r_L_money_200, r_L_money_201, r_L_money_202, r_L_money_204, r_L_money_205, r_L_money_206, r_L_money_209, r_L_money_211, r_L_money_212, r_L_money_214, r_L_money_215, r_L_money_217, r_L_money_218, r_L_money_219, r_L_money_222, r_L_money_224, r_L_money_225, r_L_money_226, up2_o, up2_e, iN_ap, iN_up, i_ix, i_inb, i_lt, i_lt0, i_0lt, i_eq, i_ne0, i_00, i_11, i_01, i_10, i_b, i_rem2, n_rem, i_add, i_mul, i_sub, i_div, i_max, i_min, rdk_0, rdk_3, kp_none, kp_int, kp_ref, kp_long, kp_double, aK_v, aK_0, aK_ite, if_true, if_false, and_self, and_true, true_and, or_false, false_or, not_true_eq_false, not_false_eq_true, ite_self, ↓reduceIte, eq_self, Bool.false_eq_true, hA.1.1, hA.1.2, hA.2.1.1, hA.2.1.2, hA.2.2.1.1, hA.2.2.1.2, hA.2.2.2.1.1, hA.2.2.2.1.2, hA.2.2.2.2.1.1, hA.2.2.2.2.1.2, hA.2.2.2.2.2.1, hA.2.2.2.2.2.2, k7, l7, kp_int, q2, q3, q5]
      have g : ex 113 228 [some (.ref 0), some (.int (nI 3)), some (.int x), some (.int y), some (.ref 144), some (.ref 145), some (.ref 146), some (.ref 147), some (.ref 148), some (.ref 149), some (.ref 151), some (.int (nI (h))), some (.int (nI (k))), some (.int (nI (4 * h + k))), some (.int (nI (t))), some (.int (nI (b))), some (.int (nI v)), a17] [] (Z, iN N, L, u) = some (.inl (some (.int (nI 1))), (Z, iN N2, L, u)) := by
        have h40 : 4 * b + 0 = 4 * b := rfl
        rw [h40] at hW
        clear hN hv
        simp (disch := omega) only [r_L_money_228, r_L_money_230, r_L_money_231, r_L_money_233, r_L_money_234, r_L_money_236, r_L_money_237, r_L_money_238, r_L_money_239, r_L_money_240, r_L_money_241, r_L_money_242, r_L_money_244, r_L_money_245, r_L_money_247, r_L_money_248, r_L_money_250, r_L_money_251, r_L_money_252, r_L_money_253, r_L_money_255, r_L_money_256, r_L_money_257, r_L_money_259, r_L_money_260, r_L_money_262, r_L_money_263, r_L_money_264, r_L_money_265, r_L_money_266, r_L_money_267, r_L_money_269, r_L_money_270, r_L_money_271, r_L_money_273, r_L_money_274, r_L_money_276, r_L_money_277, r_L_money_278, r_L_money_279, r_L_money_281, r_L_money_282, r_L_money_283, r_L_money_285, r_L_money_286, r_L_money_288, r_L_money_289, r_L_money_290, r_L_money_291, r_L_money_292, r_L_money_293, r_L_money_295, r_L_money_296, r_L_money_297, r_L_money_299, r_L_money_300, r_L_money_302, r_L_money_303, r_L_money_304, r_L_money_305, r_L_money_306, r_L_money_307, r_L_money_309, r_L_money_311, r_L_money_314, r_L_money_315, r_L_money_318, r_L_money_319, r_L_money_320, up2_o, up2_e, iN_ap, iN_up, i_ix, i_inb, i_lt, i_lt0, i_0lt, i_eq, i_ne0, i_00, i_11, i_01, i_10, i_b, i_rem2, n_rem, i_add, i_mul, i_sub, i_div, i_max, i_min, rdk_0, rdk_3, kp_none, kp_int, kp_ref, kp_long, kp_double, aK_v, aK_0, aK_ite, if_true, if_false, and_self, and_true, true_and, or_false, false_or, not_true_eq_false, not_false_eq_true, ite_self, ↓reduceIte, eq_self, Bool.false_eq_true, hA.1.1, hA.1.2, hA.2.1.1, hA.2.1.2, hA.2.2.1.1, hA.2.2.1.2, hA.2.2.2.1.1, hA.2.2.2.1.2, hA.2.2.2.2.1.1, hA.2.2.2.2.1.2, hA.2.2.2.2.2.1, hA.2.2.2.2.2.2, k7, l7, k8, l8, kp_int, q3]
        rw [← hW]
        simp (disch := omega) only [r_L_money_321, r_L_money_322, r_L_money_324, r_L_money_326, r_L_money_328, r_L_money_330, r_L_money_333, r_L_money_335, r_L_money_338, r_L_money_339, r_L_money_342, r_L_money_343, up2_o, up2_e, iN_ap, iN_up, i_ix, i_inb, i_lt, i_lt0, i_0lt, i_eq, i_ne0, i_00, i_11, i_01, i_10, i_b, i_rem2, n_rem, i_add, i_mul, i_sub, i_div, i_max, i_min, rdk_0, rdk_3, kp_none, kp_int, kp_ref, kp_long, kp_double, aK_v, aK_0, aK_ite, if_true, if_false, and_self, and_true, true_and, or_false, false_or, not_true_eq_false, not_false_eq_true, ite_self, ↓reduceIte, eq_self, Bool.false_eq_true, kp_int, z0, c1]
      rw [g0, g]
      exact c2
end Lx
