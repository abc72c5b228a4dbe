/-! the law acts: settings, and what a booking writes -/
section Ly
variable {Z : aZ} {N : Nat → Nat → Nat} {L : Nat → Nat → Int64} {u : Nat × Nat} {S : aSt} {B : Nat → Nat} {o : Nat}
theorem lz_setV {x y : Int32} {s v : Nat} {a14 a15 : Option Value} (hZ : LZ Z) (H : LW N S B o) (h1 : LS1 S.1.1) (hs : s < 5) (hv : stLo s ≤ v ∧ v ≤ stHi s) : AR Z L u S o (ex 114 132 [some (.ref 0), some (.int (nI (2))), some (.int x), some (.int y), some (.ref 144), some (.ref 145), some (.ref 146), some (.ref 147), some (.ref 148), some (.ref 149), some (.ref 150), some (.ref 151), some (.int (nI (s))), some (.int (nI (S.1.1 2 s))), a14, a15] [.int (nI v), .int (nI s), .ref 149] (Z, iN N, L, u)) := by
  have hA := hZ.2.1
  have z0 : Z.1 0 = 10 := hZ.1.1.1
  have hI := H.2.2.1
  have hSk := H.2.2.2.1
  have hL3 := H.2.2.2.2.1
  have hbk := H.2.2.2.2.2
  have hMT : MT N S.1.1 B o := ⟨H.1, H.2.1⟩
  have hv2 : v ≤ 100 := by
    have := hv.2
    unfold stHi at this
    split at this
    · omega
    · split at this
      · omega
      · split at this <;> omega
  have hb : S.1.1 2 s < 2147483648 := by
    obtain ⟨-, -, g1, g2, g3, g4, g5, g6, g7, g8⟩ := hSk.1.1.1
    rcases (show s = 0 ∨ s = 1 ∨ s = 2 ∨ s = 3 ∨ s = 4 by omega) with q | q | q | q | q <;> rw [q] <;> omega
  have m1 := MT_2 (i := s) (v := v) hMT
  obtain ⟨W, hW⟩ : ∃ W, W = up2 N 149 s v := ⟨_, rfl⟩
  rw [← hW] at m1
  have hr0 : oSet S s v = (0, S.1.1 2 s, (up2 S.1.1 2 s v, S.1.2), push S.2.1 S.1, S.2.2) := by
    unfold oSet
    rw [if_neg (not_not_intro hs), if_neg (by omega)]
  obtain ⟨N3, k1, k2, k3⟩ := CR_0 (q_set (L := L) (c := u) (s := s) (v := v) hZ.1 (CI_cg hI (N' := W) (fun a ha => by rw [hW, up2_ne (by omega)])) hSk (by omega) (by omega)) hr0
  have hS2 := SOK_set (s := s) (v := v) hSk
  rw [hr0] at hS2
  have o0 : ∀ k j, k ≠ 2 → up2 S.1.1 2 s v k j = S.1.1 k j := fun k j q1 => up2_o (by omega)
  have HW := LW_mk (S2 := ((up2 S.1.1 2 s v, S.1.2), push S.2.1 S.1, S.2.2)) m1 k2 k3 hS2 (LS3_o hL3 (o0 0 1 (by omega)) (fun i => o0 3 i (by omega))) hbk
  refine ⟨N3, _, B, o, ?_, HW, LS1_o h1 (o0 0 1 (by omega)) (fun i => o0 3 i (by omega)), by omega, ?_, fun _ => push_pos⟩
  · have c3 : W 149 s = v := by rw [hW]; exact up2_e ⟨rfl, rfl⟩
    rw [r_L_act_132]
    simp (disch := omega) only [up2_o, up2_e, iN_ap, iN_up, i_ix, i_inb, i_lt, i_lt0, i_0lt, i_eq, i_ne0, i_00, i_11, i_01, i_10, i_b, i_rem2, n_rem, i_add, i_mul, i_sub, i_div, i_max, i_min, rdk_0, rdk_3, kp_none, kp_int, kp_ref, kp_long, kp_double, aK_v, aK_0, aK_ite, if_true, if_false, and_self, and_true, true_and, or_false, false_or, not_true_eq_false, not_false_eq_true, ite_self, ↓reduceIte, eq_self, Bool.false_eq_true, hA.1.1, hA.1.2, hA.2.1.1, hA.2.1.2, hA.2.2.1.1, hA.2.2.1.2, hA.2.2.2.1.1, hA.2.2.2.1.2, hA.2.2.2.2.1.1, hA.2.2.2.2.1.2, hA.2.2.2.2.2.1, hA.2.2.2.2.2.2]
    rw [← hW]
    simp (disch := omega) only [r_L_act_133, r_L_act_134, r_L_act_136, r_L_act_138, r_L_act_140, r_L_act_141, r_L_act_144, r_L_act_146, r_L_act_149, r_L_act_150, r_L_act_153, r_L_act_154, up2_o, up2_e, iN_ap, iN_up, i_ix, i_inb, i_lt, i_lt0, i_0lt, i_eq, i_ne0, i_00, i_11, i_01, i_10, i_b, i_rem2, n_rem, i_add, i_mul, i_sub, i_div, i_max, i_min, rdk_0, rdk_3, kp_none, kp_int, kp_ref, kp_long, kp_double, aK_v, aK_0, aK_ite, if_true, if_false, and_self, and_true, true_and, or_false, false_or, not_true_eq_false, not_false_eq_true, ite_self, ↓reduceIte, eq_self, Bool.false_eq_true, hA.1.1, hA.1.2, hA.2.1.1, hA.2.1.2, hA.2.2.1.1, hA.2.2.1.2, hA.2.2.2.1.1, hA.2.2.2.1.2, hA.2.2.2.2.1.1, hA.2.2.2.2.1.2, hA.2.2.2.2.2.1, hA.2.2.2.2.2.2, kp_int, kp_ref, z0, c3, k1]
  · show up2 S.1.1 2 s v 0 0 ≤ _
    rw [o0 0 0 (by omega)]
    omega
theorem lz_act2 {x y : Int32} {a12 a13 a14 a15 : Option Value} (hZ : LZ Z) (H : LW N S B o) (h1 : LS1 S.1.1) (h0 : 1 ≤ S.1.1 0 1) : AR Z L u S o (ex 114 0 [some (.ref 0), some (.int (nI (2))), some (.int x), some (.int y), some (.ref 144), some (.ref 145), some (.ref 146), some (.ref 147), some (.ref 148), some (.ref 149), some (.ref 150), some (.ref 151), a12, a13, a14, a15] [] (Z, iN N, L, u)) := by
  have hA := hZ.2.1
  have c0 := H.1.1.1
  have hL31 := H.2.2.2.2.1.1
  obtain ⟨s, hs, a1⟩ := lz_at (x := x) (n := 5) (h := (Z, iN N, L, u)) (by omega) (by omega)
  have es := H.1.2.2.1 s hs
  have z0 : ¬ S.1.1 0 1 = 0 := by omega
  have zz : (nI (S.1.1 0 1) = 0) = False := i_ne0 (by omega) (by omega)
  have w21 : ((2 : Nat) = 1) = False := eq_false (by omega)
  have go : ex 114 0 [some (.ref 0), some (.int (nI (2))), some (.int x), some (.int y), some (.ref 144), some (.ref 145), some (.ref 146), some (.ref 147), some (.ref 148), some (.ref 149), some (.ref 150), some (.ref 151), a12, a13, a14, a15] [] (Z, iN N, L, u) = ex 114 73 [some (.ref 0), some (.int (nI (2))), some (.int x), some (.int y), some (.ref 144), some (.ref 145), some (.ref 146), some (.ref 147), some (.ref 148), some (.ref 149), some (.ref 150), some (.ref 151), some (.int (nI (s))), some (.int (nI (S.1.1 2 s))), a14, a15] [] (Z, iN N, L, u) := by
    have w20 : (nI 2 = 0) = False := i_ne0 (by omega) (by omega)
    simp (disch := omega) only [r_L_act_0, r_L_act_1, r_L_act_4, r_L_act_6, r_L_act_7, r_L_act_8, r_L_act_38, r_L_act_39, r_L_act_40, r_L_act_54, r_L_act_55, r_L_act_56, r_L_act_59, r_L_act_60, r_L_act_61, r_L_act_64, r_L_act_66, r_L_act_68, r_L_act_70, r_L_act_71, up2_o, up2_e, iN_ap, iN_up, i_ix, i_inb, i_lt, i_lt0, i_0lt, i_eq, i_ne0, i_00, i_11, i_01, i_10, i_b, i_rem2, n_rem, i_add, i_mul, i_sub, i_div, i_max, i_min, rdk_0, rdk_3, kp_none, kp_int, kp_ref, kp_long, kp_double, aK_v, aK_0, aK_ite, if_true, if_false, and_self, and_true, true_and, or_false, false_or, not_true_eq_false, not_false_eq_true, ite_self, ↓reduceIte, eq_self, Bool.false_eq_true, hA.1.1, hA.1.2, hA.2.1.1, hA.2.1.2, hA.2.2.1.1, hA.2.2.1.2, hA.2.2.2.1.1, hA.2.2.2.1.2, hA.2.2.2.2.1.1, hA.2.2.2.2.1.2, hA.2.2.2.2.2.1, hA.2.2.2.2.2.2, kp_int, kp_ref, w20, c0, zz, w21, a1, es]
  rw [go]
  by_cases q0 : s = 0
  · obtain ⟨r, hr, a2⟩ := lz_at (x := y) (n := 3) (h := (Z, iN N, L, u)) (by omega) (by omega)
    obtain ⟨v, hv⟩ : ∃ v, v = 1 + r := ⟨_, rfl⟩
    have g := lz_setV (L := L) (u := u) (x := x) (y := y) (s := s) (v := v) (a14 := a14) (a15 := a15) hZ H h1 hs (by subst q0; show 1 ≤ v ∧ v ≤ 3; omega)
    have e : ex 114 73 [some (.ref 0), some (.int (nI (2))), some (.int x), some (.int y), some (.ref 144), some (.ref 145), some (.ref 146), some (.ref 147), some (.ref 148), some (.ref 149), some (.ref 150), some (.ref 151), some (.int (nI (s))), some (.int (nI (S.1.1 2 s))), a14, a15] [] (Z, iN N, L, u) = ex 114 132 [some (.ref 0), some (.int (nI (2))), some (.int x), some (.int y), some (.ref 144), some (.ref 145), some (.ref 146), some (.ref 147), some (.ref 148), some (.ref 149), some (.ref 150), some (.ref 151), some (.int (nI (s))), some (.int (nI (S.1.1 2 s))), a14, a15] [.int (nI v), .int (nI s), .ref 149] (Z, iN N, L, u) := by
      have v2 : 1 + r = v := hv.symm
      have zs : (nI s = 0) = True := by rw [q0]; exact i_00
      simp (disch := omega) only [r_L_act_73, r_L_act_75, r_L_act_77, r_L_act_79, r_L_act_82, r_L_act_83, r_L_act_84, r_L_act_85, r_L_act_88, r_L_act_89, up2_o, up2_e, iN_ap, iN_up, i_ix, i_inb, i_lt, i_lt0, i_0lt, i_eq, i_ne0, i_00, i_11, i_01, i_10, i_b, i_rem2, n_rem, i_add, i_mul, i_sub, i_div, i_max, i_min, rdk_0, rdk_3, kp_none, kp_int, kp_ref, kp_long, kp_double, aK_v, aK_0, aK_ite, if_true, if_false, and_self, and_true, true_and, or_false, false_or, not_true_eq_false, not_false_eq_true, ite_self, ↓reduceIte, eq_self, Bool.false_eq_true, kp_int, kp_ref, zs, a2, v2]
    rw [e]
    exact g
  · have zs : (nI s = 0) = False := i_ne0 (by omega) (by omega)
    by_cases q1 : s = 1
    · obtain ⟨r, hr, a2⟩ := lz_at (x := y) (n := 7) (h := (Z, iN N, L, u)) (by omega) (by omega)
      obtain ⟨v, hv⟩ : ∃ v, v = 3 + r := ⟨_, rfl⟩
      have g := lz_setV (L := L) (u := u) (x := x) (y := y) (s := s) (v := v) (a14 := a14) (a15 := a15) hZ H h1 hs (by subst q1; show 3 ≤ v ∧ v ≤ 9; omega)
      have e : ex 114 73 [some (.ref 0), some (.int (nI (2))), some (.int x), some (.int y), some (.ref 144), some (.ref 145), some (.ref 146), some (.ref 147), some (.ref 148), some (.ref 149), some (.ref 150), some (.ref 151), some (.int (nI (s))), some (.int (nI (S.1.1 2 s))), a14, a15] [] (Z, iN N, L, u) = ex 114 132 [some (.ref 0), some (.int (nI (2))), some (.int x), some (.int y), some (.ref 144), some (.ref 145), some (.ref 146), some (.ref 147), some (.ref 148), some (.ref 149), some (.ref 150), some (.ref 151), some (.int (nI (s))), some (.int (nI (S.1.1 2 s))), a14, a15] [.int (nI v), .int (nI s), .ref 149] (Z, iN N, L, u) := by
        have v2 : 3 + r = v := hv.symm
        have z1 : (nI s = nI 1) = True := by rw [q1]; exact eq_true rfl
        simp (disch := omega) only [r_L_act_73, r_L_act_75, r_L_act_77, r_L_act_79, r_L_act_92, r_L_act_94, r_L_act_95, r_L_act_98, r_L_act_99, r_L_act_100, r_L_act_102, r_L_act_105, r_L_act_106, up2_o, up2_e, iN_ap, iN_up, i_ix, i_inb, i_lt, i_lt0, i_0lt, i_ne0, i_00, i_11, i_01, i_10, i_b, i_rem2, n_rem, i_add, i_mul, i_sub, i_div, i_max, i_min, rdk_0, rdk_3, kp_none, kp_int, kp_ref, kp_long, kp_double, aK_v, aK_0, aK_ite, if_true, if_false, and_self, and_true, true_and, or_false, false_or, not_true_eq_false, not_false_eq_true, ite_self, ↓reduceIte, eq_self, Bool.false_eq_true, kp_int, kp_ref, zs, z1, a2, v2]
      rw [e]
      exact g
    · have z1 : (nI s = nI 1) = False := by rw [i_eq (by omega) (by omega)]; exact eq_false q1
      by_cases q3 : s = 3
      · obtain ⟨r, hr, a2⟩ := lz_at (x := y) (n := 100) (h := (Z, iN N, L, u)) (by omega) (by omega)
        obtain ⟨v, hv⟩ : ∃ v, v = 1 + r := ⟨_, rfl⟩
        have g := lz_setV (L := L) (u := u) (x := x) (y := y) (s := s) (v := v) (a14 := a14) (a15 := a15) hZ H h1 hs (by subst q3; show 1 ≤ v ∧ v ≤ 100; omega)
        have e : ex 114 73 [some (.ref 0), some (.int (nI (2))), some (.int x), some (.int y), some (.ref 144), some (.ref 145), some (.ref 146), some (.ref 147), some (.ref 148), some (.ref 149), some (.ref 150), some (.ref 151), some (.int (nI (s))), some (.int (nI (S.1.1 2 s))), a14, a15] [] (Z, iN N, L, u) = ex 114 132 [some (.ref 0), some (.int (nI (2))), some (.int x), some (.int y), some (.ref 144), some (.ref 145), some (.ref 146), some (.ref 147), some (.ref 148), some (.ref 149), some (.ref 150), some (.ref 151), some (.int (nI (s))), some (.int (nI (S.1.1 2 s))), a14, a15] [.int (nI v), .int (nI s), .ref 149] (Z, iN N, L, u) := by
          have v2 : 1 + r = v := hv.symm
          have z3 : (nI s = nI 3) = True := by rw [q3]; exact eq_true rfl
          simp (disch := omega) only [r_L_act_73, r_L_act_75, r_L_act_77, r_L_act_79, r_L_act_92, r_L_act_94, r_L_act_95, r_L_act_109, r_L_act_111, r_L_act_112, r_L_act_115, r_L_act_116, r_L_act_117, r_L_act_119, r_L_act_122, r_L_act_123, up2_o, up2_e, iN_ap, iN_up, i_ix, i_inb, i_lt, i_lt0, i_0lt, i_ne0, i_00, i_11, i_01, i_10, i_b, i_rem2, n_rem, i_add, i_mul, i_sub, i_div, i_max, i_min, rdk_0, rdk_3, kp_none, kp_int, kp_ref, kp_long, kp_double, aK_v, aK_0, aK_ite, if_true, if_false, and_self, and_true, true_and, or_false, false_or, not_true_eq_false, not_false_eq_true, ite_self, ↓reduceIte, eq_self, Bool.false_eq_true, kp_int, kp_ref, zs, z1, z3, a2, v2]
        rw [e]
        exact g
      · have z3 : (nI s = nI 3) = False := by rw [i_eq (by omega) (by omega)]; exact eq_false q3
        obtain ⟨r, hr, a2⟩ := lz_at (x := y) (n := 31) (h := (Z, iN N, L, u)) (by omega) (by omega)
        have g := lz_setV (L := L) (u := u) (x := x) (y := y) (s := s) (v := r) (a14 := a14) (a15 := a15) hZ H h1 hs (by
          unfold stLo stHi
          rw [if_neg q0, if_neg q1, if_neg q3, if_neg q0, if_neg q1, if_neg q3]
          omega)
        have e : ex 114 73 [some (.ref 0), some (.int (nI (2))), some (.int x), some (.int y), some (.ref 144), some (.ref 145), some (.ref 146), some (.ref 147), some (.ref 148), some (.ref 149), some (.ref 150), some (.ref 151), some (.int (nI (s))), some (.int (nI (S.1.1 2 s))), a14, a15] [] (Z, iN N, L, u) = ex 114 132 [some (.ref 0), some (.int (nI (2))), some (.int x), some (.int y), some (.ref 144), some (.ref 145), some (.ref 146), some (.ref 147), some (.ref 148), some (.ref 149), some (.ref 150), some (.ref 151), some (.int (nI (s))), some (.int (nI (S.1.1 2 s))), a14, a15] [.int (nI r), .int (nI s), .ref 149] (Z, iN N, L, u) := by
          simp (disch := omega) only [r_L_act_73, r_L_act_75, r_L_act_77, r_L_act_79, r_L_act_92, r_L_act_94, r_L_act_95, r_L_act_109, r_L_act_111, r_L_act_112, r_L_act_126, r_L_act_127, r_L_act_129, up2_o, up2_e, iN_ap, iN_up, i_ix, i_inb, i_lt, i_lt0, i_0lt, i_ne0, i_00, i_11, i_01, i_10, i_b, i_rem2, n_rem, i_add, i_mul, i_sub, i_div, i_max, i_min, rdk_0, rdk_3, kp_none, kp_int, kp_ref, kp_long, kp_double, aK_v, aK_0, aK_ite, if_true, if_false, and_self, and_true, true_and, or_false, false_or, not_true_eq_false, not_false_eq_true, ite_self, ↓reduceIte, eq_self, Bool.false_eq_true, kp_int, kp_ref, zs, z1, z3, a2]
        rw [e]
        exact g
end Ly
