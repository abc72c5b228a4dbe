/-! what would be, from its first row -/
def cp4 (N : Nat → Nat → Nat) (y : Nat) : Nat → Nat → Nat := cpS (cpS (cpS (cpS N y 144 60) (y + 1) 145 36) (y + 2) 146 48) (y + 3) 151 7
theorem cpS_o {N : Nat → Nat → Nat} {t f n a : Nat} (h : a ≠ t) : cpS N t f n a = N a := by
  funext j
  unfold cpS
  rw [if_neg (fun z => h z.1)]
theorem cpS_t {N : Nat → Nat → Nat} {t f n j : Nat} (h : j < n) : cpS N t f n t j = N f j := by
  unfold cpS
  rw [if_pos ⟨rfl, h⟩]
theorem cp4_o {N : Nat → Nat → Nat} {y a : Nat} (h1 : a ≠ y) (h2 : a ≠ y + 1) (h3 : a ≠ y + 2) (h4 : a ≠ y + 3) : cp4 N y a = N a := by
  unfold cp4
  rw [cpS_o h4, cpS_o h3, cpS_o h2, cpS_o h1]
theorem cp4_LM {N : Nat → Nat → Nat} {y : Nat} {R : aY} {S B : Nat → Nat} {o : Nat} (hy : 152 ≤ y) (h : LM N 144 145 146 151 R S B o) : LM (cp4 N y) y (y + 1) (y + 2) (y + 3) R S B o := by
  refine LM_cp h (fun j hj => ?_) (fun j hj => ?_) (fun j hj => ?_) (fun j hj => ?_) (cp4_o (by omega) (by omega) (by omega) (by omega)) (cp4_o (by omega) (by omega) (by omega) (by omega))
  · unfold cp4
    rw [cpS_o (by omega), cpS_o (by omega), cpS_o (by omega), cpS_t hj]
  · unfold cp4
    rw [cpS_o (by omega), cpS_o (by omega), cpS_t hj, cpS_o (by omega)]
  · unfold cp4
    rw [cpS_o (by omega), cpS_t hj, cpS_o (by omega), cpS_o (by omega)]
  · unfold cp4
    rw [cpS_t hj, cpS_o (by omega), cpS_o (by omega), cpS_o (by omega)]
theorem cp4_LW {N : Nat → Nat → Nat} {y : Nat} {S : aSt} {B : Nat → Nat} {o : Nat} (hy : 152 ≤ y) (hy2 : y + 4 ≤ 1000) (h : LW N S B o) : LW (cp4 N y) S B o := LW_cg2 h (fun a ha => cp4_o (by omega) (by omega) (by omega) (by omega))
section Lw
variable {L : Nat → Nat → Int64} {S : aSt} {B : Nat → Nat} {o : Nat}
theorem lz_ahead {Z : aZ} {N : Nat → Nat → Nat} {x : Int32} {k : Nat} (hZ : LZ Z) (H : LW N S B o) (hy : 152 ≤ Z.2.2.2) (hy2 : Z.2.2.2 + 4 ≤ 1000) :
    ∃ Z' N' L', ex 109 0 [some (.ref 0), some (.int x), some (.ref 144), some (.ref 145), some (.ref 146), some (.ref 149), some (.ref 150), some (.ref 151), none, none, none, none, none, none, none, none, none, none, none, none] [] (Z, iN N, L, (0, k)) = some (.inl (some (.int (nI 1))), (Z', iN N', L', (0, k + 151))) ∧ LZ Z' ∧ LW N' S B o ∧ Z'.2.2.2 = Z.2.2.2 + 4 ∧ Z'.1 100000 = Z.1 100000 ∧ Z'.2.1 100000 = Z.2.1 100000 := by
  obtain ⟨K, G, F, y⟩ := Z
  dsimp only at hy hy2
  obtain ⟨Z1, N1, L1, e1, m1, m2, m3, r1, r2, r3, r4⟩ := lz_mk (K := K) (G := G) (F := F) (y := y) (k := k) (N := N) (L := L) (x := x) hy2
  have hZ1 : LZ Z1 := LZ_cg hZ (fun a ha => m2 a (by omega))
  have H1 : LW N1 S B o := LW_cg2 H (fun a ha => m3 a (by omega))
  have hA2 : LA Z1 y (y + 1) (y + 2) (y + 3) := ⟨r1, r2, r3, r4, hZ1.2.1.2.2.2.2⟩
  have hD2 : LD y (y + 1) (y + 2) (y + 3) := by unfold LD; omega
  obtain ⟨u, hu⟩ : ∃ u : Nat × Nat, u = (0, k + 151) := ⟨_, rfl⟩
  rw [← hu] at e1 ⊢
  have hA := hZ1.2.1
  have z0 := hZ1.1.1.1
  have ht := H.2.2.2.1.1.2
  have hw := H.2.2.2.1.1.1
  have h3 := H.2.2.2.2.1
  have hbk := H.2.2.2.2.2
  have cps : ∀ (M : Nat → Nat → Nat), (ex 107 0 [some (.ref y), some (.ref 144), none] [] (Z1, iN M, L1, u) = some (.inl none, (Z1, iN (cpS M y 144 60), L1, u))) ∧ (ex 107 0 [some (.ref (y + 1)), some (.ref 145), none] [] (Z1, iN (cpS M y 144 60), L1, u) = some (.inl none, (Z1, iN (cpS (cpS M y 144 60) (y + 1) 145 36), L1, u))) ∧ (ex 107 0 [some (.ref (y + 2)), some (.ref 146), none] [] (Z1, iN (cpS (cpS M y 144 60) (y + 1) 145 36), L1, u) = some (.inl none, (Z1, iN (cpS (cpS (cpS M y 144 60) (y + 1) 145 36) (y + 2) 146 48), L1, u))) ∧ (ex 107 0 [some (.ref (y + 3)), some (.ref 151), none] [] (Z1, iN (cpS (cpS (cpS M y 144 60) (y + 1) 145 36) (y + 2) 146 48), L1, u) = some (.inl none, (Z1, iN (cp4 M y), L1, u))) := fun M =>
    ⟨lz_same0 (by omega) r1.1 hA.1.1 r1.2 hA.1.2 (by omega), lz_same0 (by omega) r2.1 hA.2.1.1 r2.2 hA.2.1.2 (by omega), lz_same0 (by omega) r3.1 hA.2.2.1.1 r3.2 hA.2.2.1.2 (by omega), lz_same0 (by omega) r4.1 hA.2.2.2.1.1 r4.2 hA.2.2.2.1.2 (by omega)⟩
  obtain ⟨s1, s2, s3, s4⟩ := cps N1
  have g1 : ex 109 24 [some (.ref 0), some (.int x), some (.ref 144), some (.ref 145), some (.ref 146), some (.ref 149), some (.ref 150), some (.ref 151), some (.ref y), some (.ref (y + 1)), some (.ref (y + 2)), some (.ref (y + 3)), none, none, none, none, none, none, none, none] [] (Z1, iN N1, L1, u) = ex 109 56 [some (.ref 0), some (.int x), some (.ref 144), some (.ref 145), some (.ref 146), some (.ref 149), some (.ref 150), some (.ref 151), some (.ref y), some (.ref (y + 1)), some (.ref (y + 2)), some (.ref (y + 3)), some (.int (nI (4294967295))), some (.int (nI (0))), none, none, none, none, none, none] [] (Z1, iN (cp4 N1 y), L1, u) := by
    simp (disch := omega) only [r_L_ahead_24, r_L_ahead_26, r_L_ahead_27, r_L_ahead_30, r_L_ahead_32, r_L_ahead_33, r_L_ahead_36, r_L_ahead_38, r_L_ahead_40, r_L_ahead_43, r_L_ahead_45, r_L_ahead_47, r_L_ahead_50, r_L_ahead_51, r_L_ahead_53, r_L_ahead_54, up2_o, up2_e, iN_ap, iN_up, i_ix, i_inb, i_lt, i_lt0, i_0lt, i_eq, i_ne0, i_00, i_11, i_01, i_10, i_b, i_rem2, n_rem, i_add, i_mul, i_sub, i_div, i_max, i_min, rdk_0, rdk_3, kp_none, kp_int, kp_ref, kp_long, kp_double, aK_v, aK_0, aK_ite, if_true, if_false, and_self, and_true, true_and, or_false, false_or, not_true_eq_false, not_false_eq_true, ite_self, ↓reduceIte, eq_self, Bool.false_eq_true, kp_ref, kp_int, kp_none, nM1, s1, s2, s3, s4]
  obtain ⟨N3, last, k3, i1, i2, i3, i4, i5⟩ := lz_eloop (L := L1) (u := u) (x := x) (a14 := none) (a15 := none) (a16 := none) (a17 := none) (a18 := none) (a19 := none) hA2 hD2 300 0 4294967295 (cp4 N1 y) S.1.1 S.1.2 rfl (cp4_LM hy H1.1) hw h3 hbk (by omega) (by omega)
  have H3 : LW N3 S B o := LW_cg2 (cp4_LW hy hy2 H1) (fun a ha => i3 a (by omega) (by omega) (by omega) (by omega))
  obtain ⟨N4, j1, j2, j3⟩ := ce_ends (L := L1) (c := u) hZ1.1 H3.2.2.1 H3.2.2.2.1
  have H4 := LW_cg H3 j2 j3
  have hB4 : LB N4 y (y + 3) := by
    unfold LB
    rw [j3 y (by omega), j3 (y + 3) (by omega)]
    exact i4
  have op := lz_open (L := L1) (u := u) hA2 hB4
  rw [lOp_cg (j3 y (by omega)) (j3 (y + 3) (by omega))] at op
  have g2 : ex 109 106 [some (.ref 0), some (.int x), some (.ref 144), some (.ref 145), some (.ref 146), some (.ref 149), some (.ref 150), some (.ref 151), some (.ref y), some (.ref (y + 1)), some (.ref (y + 2)), some (.ref (y + 3)), some (.int (nI (last))), some (.int (nI (k3))), none, none, none, none, none, none] [] (Z1, iN N3, L1, u) = ex 109 131 [some (.ref 0), some (.int x), some (.ref 144), some (.ref 145), some (.ref 146), some (.ref 149), some (.ref 150), some (.ref 151), some (.ref y), some (.ref (y + 1)), some (.ref (y + 2)), some (.ref (y + 3)), some (.int (nI (last))), some (.int (nI (k3))), none, none, none, none, none, none] [] (Z1, iN N4, L1, u) := by
    by_cases q : lOp N3 y (y + 3) 12 = true
    · rw [if_pos q] at i2
      rw [← i2] at j1
      simp (disch := omega) only [r_L_ahead_106, r_L_ahead_107, r_L_ahead_110, r_L_ahead_112, r_L_ahead_114, r_L_ahead_117, r_L_ahead_120, r_L_ahead_121, r_L_ahead_124, r_L_ahead_126, up2_o, up2_e, iN_ap, iN_up, i_ix, i_inb, i_lt, i_lt0, i_0lt, i_eq, i_ne0, i_00, i_11, i_01, i_10, i_b, i_rem2, n_rem, i_add, i_mul, i_sub, i_div, i_max, i_min, rdk_0, rdk_3, kp_none, kp_int, kp_ref, kp_long, kp_double, aK_v, aK_0, aK_ite, if_true, if_false, and_self, and_true, true_and, or_false, false_or, not_true_eq_false, not_false_eq_true, ite_self, ↓reduceIte, eq_self, Bool.false_eq_true, z0, j1, op, q, nM1]
    · rw [if_neg q] at i2
      rw [← i2] at j1
      simp (disch := omega) only [r_L_ahead_106, r_L_ahead_107, r_L_ahead_110, r_L_ahead_112, r_L_ahead_114, r_L_ahead_117, r_L_ahead_120, r_L_ahead_121, r_L_ahead_124, r_L_ahead_126, up2_o, up2_e, iN_ap, iN_up, i_ix, i_inb, i_lt, i_lt0, i_0lt, i_eq, i_ne0, i_00, i_11, i_01, i_10, i_b, i_rem2, n_rem, i_add, i_mul, i_sub, i_div, i_max, i_min, rdk_0, rdk_3, kp_none, kp_int, kp_ref, kp_long, kp_double, aK_v, aK_0, aK_ite, if_true, if_false, and_self, and_true, true_and, or_false, false_or, not_true_eq_false, not_false_eq_true, ite_self, ↓reduceIte, eq_self, Bool.false_eq_true, z0, j1, op, q, nM1]
  obtain ⟨t1, t2, t3, t4⟩ := cps N4
  obtain ⟨r, hr, a1⟩ := lz_at (x := x) (n := 60) (h := (Z1, iN (cp4 N4 y), L1, u)) (by omega) (by omega)
  have g3 : ex 109 131 [some (.ref 0), some (.int x), some (.ref 144), some (.ref 145), some (.ref 146), some (.ref 149), some (.ref 150), some (.ref 151), some (.ref y), some (.ref (y + 1)), some (.ref (y + 2)), some (.ref (y + 3)), some (.int (nI (last))), some (.int (nI (k3))), none, none, none, none, none, none] [] (Z1, iN N4, L1, u) = ex 109 173 [some (.ref 0), some (.int x), some (.ref 144), some (.ref 145), some (.ref 146), some (.ref 149), some (.ref 150), some (.ref 151), some (.ref y), some (.ref (y + 1)), some (.ref (y + 2)), some (.ref (y + 3)), some (.int (nI (last))), some (.int (nI (1 + r))), some (.int (nI (0))), some (.int (nI (0))), none, none, none, none] [] (Z1, iN (cp4 N4 y), L1, u) := by
    simp (disch := omega) only [r_L_ahead_131, r_L_ahead_133, r_L_ahead_134, r_L_ahead_137, r_L_ahead_139, r_L_ahead_140, r_L_ahead_143, r_L_ahead_145, r_L_ahead_147, r_L_ahead_150, r_L_ahead_152, r_L_ahead_154, r_L_ahead_157, r_L_ahead_158, r_L_ahead_159, r_L_ahead_161, r_L_ahead_164, r_L_ahead_165, r_L_ahead_167, r_L_ahead_168, r_L_ahead_170, r_L_ahead_171, up2_o, up2_e, iN_ap, iN_up, i_ix, i_inb, i_lt, i_lt0, i_0lt, i_eq, i_ne0, i_00, i_11, i_01, i_10, i_b, i_rem2, n_rem, i_add, i_mul, i_sub, i_div, i_max, i_min, rdk_0, rdk_3, kp_none, kp_int, kp_ref, kp_long, kp_double, aK_v, aK_0, aK_ite, if_true, if_false, and_self, and_true, true_and, or_false, false_or, not_true_eq_false, not_false_eq_true, ite_self, ↓reduceIte, eq_self, Bool.false_eq_true, kp_ref, kp_int, kp_none, t1, t2, t3, t4, a1]
  have H5 := cp4_LW hy hy2 H4
  obtain ⟨N6, l1, l2, l3⟩ := lz_aloop (L := L1) (u := u) (x := x) (z12 := nI last) (d := 1 + r) (a16 := none) (a17 := none) (a18 := none) (a19 := none) (by omega) hA2 hD2 (1 + r) 0 0 (cp4 N4 y) S.1 (by omega) (cp4_LM hy H4.1) hw h3 hbk (by omega)
  have H6 : LW N6 S B o := LW_cg2 H5 (fun a ha => l3 a (by omega) (by omega) (by omega) (by omega))
  obtain ⟨N7, p1, p2, p3⟩ := ce_ifp (L := L1) (c := u) (n := 1 + r) (h := 4294967295) hZ1.1 H6.2.2.1 H6.2.2.2.1 (by omega) (Or.inl rfl)
  have H7 := LW_cg H6 p2 p3
  have ev : aSn (aPn (1 + r) S.1).1 4294967295 - aSn S.1.1 4294967295 = 0 + (S.1.2.length - (aPn (1 + r) S.1).2.length) := by
    obtain ⟨wp, wp0⟩ := WF_Pn (1 + r) S.1 hw (by omega)
    have c1 := hw.2.2.2.2.2.2.2.1
    have c2 := wp.2.2.2.2.2.2.2.1
    have c3 : sumN ((aPn (1 + r) S.1).1 4) 0 6 = sumN (S.1.1 4) 0 6 := sumN_congr (fun i _ => aPn_o (by omega) (by omega) (by omega) (by omega) (by omega) (by omega) _ _)
    unfold aSn
    rw [if_pos rfl, if_pos rfl]
    omega
  rw [ev] at p1
  have h27 := LM_cg (N' := N7) l2 (fun a ha => p3 a (by omega))
  have g4 : ex 109 206 [some (.ref 0), some (.int x), some (.ref 144), some (.ref 145), some (.ref 146), some (.ref 149), some (.ref 150), some (.ref 151), some (.ref y), some (.ref (y + 1)), some (.ref (y + 2)), some (.ref (y + 3)), some (.int (nI last)), some (.int (nI (1 + r))), some (.int (nI (0 + (S.1.2.length - (aPn (1 + r) S.1).2.length)))), some (.int (nI (1 + r))), none, none, none, none] [] (Z1, iN N6, L1, u) = ex 109 223 [some (.ref 0), some (.int x), some (.ref 144), some (.ref 145), some (.ref 146), some (.ref 149), some (.ref 150), some (.ref 151), some (.ref y), some (.ref (y + 1)), some (.ref (y + 2)), some (.ref (y + 3)), some (.int (nI last)), some (.int (nI (1 + r))), some (.int (nI (0 + (S.1.2.length - (aPn (1 + r) S.1).2.length)))), some (.int (nI (0))), none, none, none, none] [] (Z1, iN N7, L1, u) := by
    simp (disch := omega) only [r_L_ahead_206, r_L_ahead_207, r_L_ahead_209, r_L_ahead_210, r_L_ahead_213, r_L_ahead_215, r_L_ahead_218, r_L_ahead_219, r_L_ahead_220, r_L_ahead_221, up2_o, up2_e, iN_ap, iN_up, i_ix, i_inb, i_lt, i_lt0, i_0lt, i_eq, i_ne0, i_00, i_11, i_01, i_10, i_b, i_rem2, n_rem, i_add, i_mul, i_sub, i_div, i_max, i_min, rdk_0, rdk_3, kp_none, kp_int, kp_ref, kp_long, kp_double, aK_v, aK_0, aK_ite, if_true, if_false, and_self, and_true, true_and, or_false, false_or, not_true_eq_false, not_false_eq_true, ite_self, ↓reduceIte, eq_self, Bool.false_eq_true, kp_int, z0, nM1, p1]
  obtain ⟨N8, f1, f2⟩ := lz_ahh (L := L1) (u := u) (x := x) (z12 := nI last) (z14 := nI (0 + (S.1.2.length - (aPn (1 + r) S.1).2.length))) (d := 1 + r) (by omega) hy hZ1 hA2 (S.1.1 0 1) 0 N7 none none none none (by omega) H7 h27
  refine ⟨Z1, N8, L1, ?_, hZ1, f2, m1, (m2 100000 (by omega)).1, (m2 100000 (by omega)).2.1⟩
  rw [e1, g1, i1, g2, g3, l1, g4, f1]
end Lw
