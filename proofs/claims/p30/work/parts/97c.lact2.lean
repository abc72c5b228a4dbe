/-! the law unbooks, passes days; all its acts -/
section Ly
variable {Z : aZ} {N : Nat → Nat → Nat} {L : Nat → Nat → Int64} {u : Nat × Nat} {S : aSt} {B : Nat → Nat} {o : Nat}
theorem lz_act8 {x y : Int32} {a12 a13 a14 a15 : Option Value} (hZ : LZ Z) (H : LW N S B o) (h1 : LS1 S.1.1) (h0 : 1 ≤ S.1.1 0 1) : AR Z L u S o (ex 114 0 [some (.ref 0), some (.int (nI (8))), some (.int x), some (.int y), some (.ref 144), some (.ref 145), some (.ref 146), some (.ref 147), some (.ref 148), some (.ref 149), some (.ref 150), some (.ref 151), a12, a13, a14, a15] [] (Z, iN N, L, u)) := by
  have hA := hZ.2.1
  have z0 : Z.1 0 = 10 := hZ.1.1.1
  have hI := H.2.2.1
  have hSk := H.2.2.2.1
  have hw := hSk.1.1
  have hL3 := H.2.2.2.2.1
  have h31 := hL3.1
  have hbk := H.2.2.2.2.2
  have hMT : MT N S.1.1 B o := ⟨H.1, H.2.1⟩
  have c0 := H.1.1.1
  obtain ⟨h, hh, a1⟩ := lz_at (x := x) (n := S.1.1 0 1) (h := (Z, iN N, L, u)) (by omega) (by omega)
  have h33 := hL3.2 h (by omega)
  have w1 := hw.2.1 h (by omega)
  have nx := lz_nxt (L := L) (u := u) hZ H hh
  have zc : (nI (S.1.1 0 1) = 0) = False := i_ne0 (by omega) (by omega)
  have z8 : (nI 8 = 0) = False := i_ne0 (by omega) (by omega)
  have z81 : ((8 : Nat) = 1) = False := eq_false (by omega)
  have z82 : ((8 : Nat) = 2) = False := eq_false (by omega)
  by_cases q0 : S.1.1 4 h = 0
  · have zm : nI 0 - nI 1 = nI 4294967295 := by decide
    have zn : (nI 4294967295 < 0) = True := eq_true (by decide)
    have g : ex 114 0 [some (.ref 0), some (.int (nI (8))), some (.int x), some (.int y), some (.ref 144), some (.ref 145), some (.ref 146), some (.ref 147), some (.ref 148), some (.ref 149), some (.ref 150), some (.ref 151), a12, a13, a14, a15] [] (Z, iN N, L, u) = some (.inl (some (.int (nI 1))), (Z, iN N, L, u)) := by
      simp (disch := omega) only [r_L_act_0, r_L_act_1, r_L_act_4, r_L_act_6, r_L_act_7, r_L_act_8, r_L_act_38, r_L_act_39, r_L_act_40, r_L_act_54, r_L_act_55, r_L_act_56, r_L_act_155, r_L_act_156, r_L_act_158, r_L_act_324, r_L_act_325, r_L_act_327, r_L_act_330, r_L_act_331, r_L_act_333, r_L_act_334, r_L_act_335, r_L_act_338, r_L_act_340, r_L_act_342, r_L_act_344, r_L_act_346, r_L_act_349, r_L_act_350, r_L_act_351, up2_o, up2_e, iN_ap, iN_up, i_ix, i_inb, i_lt, i_lt0, i_0lt, i_eq, i_ne0, i_00, i_11, i_01, i_10, i_b, i_rem2, n_rem, i_add, i_mul, i_sub, i_div, i_max, i_min, rdk_0, rdk_3, kp_none, kp_int, kp_ref, kp_long, kp_double, aK_v, aK_0, aK_ite, if_true, if_false, and_self, and_true, true_and, or_false, false_or, not_true_eq_false, not_false_eq_true, ite_self, ↓reduceIte, eq_self, Bool.false_eq_true, hA.1.1, hA.1.2, hA.2.1.1, hA.2.1.2, hA.2.2.1.1, hA.2.2.1.2, hA.2.2.2.1.1, hA.2.2.2.1.2, hA.2.2.2.2.1.1, hA.2.2.2.2.1.2, hA.2.2.2.2.2.1, hA.2.2.2.2.2.2, kp_int, kp_ref, z8, z81, z82, Nat.lt_irrefl, zc, c0, a1, nx, q0, zm]
      rw [r_L_act_353]
      simp (disch := omega) only [r_L_act_355, r_L_act_358, r_L_act_360, r_L_act_361, r_L_act_362, r_L_act_364, r_L_act_365, r_L_act_367, r_L_act_368, r_L_act_369, r_L_act_370, r_L_act_371, r_L_act_372, r_L_act_373, r_L_act_376, r_L_act_377, up2_o, up2_e, iN_ap, iN_up, i_ix, i_inb, i_lt, i_lt0, i_0lt, i_ne0, i_00, i_11, i_01, i_10, i_b, i_rem2, n_rem, i_add, i_mul, i_sub, i_div, i_max, i_min, rdk_0, rdk_3, kp_none, kp_int, kp_ref, kp_long, kp_double, aK_v, aK_0, aK_ite, if_true, if_false, and_self, and_true, true_and, or_false, false_or, not_true_eq_false, not_false_eq_true, ite_self, ↓reduceIte, eq_self, Bool.false_eq_true, zn]
    rw [g]
    exact AR_rf H h1
  · obtain ⟨k, hk⟩ : ∃ k, k = S.1.1 4 h - 1 := ⟨_, rfl⟩
    have ek : S.1.1 4 h = k + 1 := by omega
    have sk : nI (k + 1) - nI 1 = nI k := by rw [i_sub (by omega), Nat.add_sub_cancel]
    have hm : 4 * h + k < 12 := by omega
    have hp : pl (4 * h + k) = 6 * h + k := pl_hk (by omega)
    have f2 := (H.1.2.2.2.1 _ hm).2.2.1
    have g2 := (H.1.2.2.2.2.1 _ hm).2
    rw [hp, stg_hk (by omega)] at f2
    rw [hp] at g2
    have go : ex 114 0 [some (.ref 0), some (.int (nI (8))), some (.int x), some (.int y), some (.ref 144), some (.ref 145), some (.ref 146), some (.ref 147), some (.ref 148), some (.ref 149), some (.ref 150), some (.ref 151), a12, a13, a14, a15] [] (Z, iN N, L, u) = ex 114 353 [some (.ref 0), some (.int (nI (8))), some (.int x), some (.int y), some (.ref 144), some (.ref 145), some (.ref 146), some (.ref 147), some (.ref 148), some (.ref 149), some (.ref 150), some (.ref 151), some (.int (nI (h))), some (.int (nI (k))), a14, a15] [] (Z, iN N, L, u) := by
      simp (disch := omega) only [r_L_act_0, r_L_act_1, r_L_act_4, r_L_act_6, r_L_act_7, r_L_act_8, r_L_act_38, r_L_act_39, r_L_act_40, r_L_act_54, r_L_act_55, r_L_act_56, r_L_act_155, r_L_act_156, r_L_act_158, r_L_act_324, r_L_act_325, r_L_act_327, r_L_act_330, r_L_act_331, r_L_act_333, r_L_act_334, r_L_act_335, r_L_act_338, r_L_act_340, r_L_act_342, r_L_act_344, r_L_act_346, r_L_act_349, r_L_act_350, r_L_act_351, up2_o, up2_e, iN_ap, iN_up, i_ix, i_inb, i_lt, i_lt0, i_0lt, i_eq, i_ne0, i_00, i_11, i_01, i_10, i_b, i_rem2, n_rem, i_add, i_mul, i_div, i_max, i_min, rdk_0, rdk_3, kp_none, kp_int, kp_ref, kp_long, kp_double, aK_v, aK_0, aK_ite, if_true, if_false, and_self, and_true, true_and, or_false, false_or, not_true_eq_false, not_false_eq_true, ite_self, ↓reduceIte, eq_self, Bool.false_eq_true, hA.1.1, hA.1.2, hA.2.1.1, hA.2.1.2, hA.2.2.1.1, hA.2.2.1.2, hA.2.2.2.1.1, hA.2.2.2.1.2, hA.2.2.2.2.1.1, hA.2.2.2.2.1.2, hA.2.2.2.2.2.1, hA.2.2.2.2.2.2, kp_int, kp_ref, z8, z81, z82, Nat.lt_irrefl, zc, c0, a1, nx, ek, sk]
    rw [go]
    have q1 : ¬ k < 0 := by omega
    by_cases q2 : k < S.1.1 5 h
    · rw [if_pos q2] at f2
      have g : ex 114 353 [some (.ref 0), some (.int (nI (8))), some (.int x), some (.int y), some (.ref 144), some (.ref 145), some (.ref 146), some (.ref 147), some (.ref 148), some (.ref 149), some (.ref 150), some (.ref 151), some (.int (nI (h))), some (.int (nI (k))), a14, a15] [] (Z, iN N, L, u) = some (.inl (some (.int (nI 1))), (Z, iN N, L, u)) := by
        simp (disch := omega) only [r_L_act_353, r_L_act_355, r_L_act_358, r_L_act_360, r_L_act_361, r_L_act_362, r_L_act_364, r_L_act_365, r_L_act_367, r_L_act_368, r_L_act_369, r_L_act_370, r_L_act_371, r_L_act_372, r_L_act_373, r_L_act_376, r_L_act_377, up2_o, up2_e, iN_ap, iN_up, i_ix, i_inb, i_lt, i_lt0, i_0lt, i_eq, i_ne0, i_00, i_11, i_01, i_10, i_b, i_rem2, n_rem, i_add, i_mul, i_sub, i_div, i_max, i_min, rdk_0, rdk_3, kp_none, kp_int, kp_ref, kp_long, kp_double, aK_v, aK_0, aK_ite, if_true, if_false, and_self, and_true, true_and, or_false, false_or, not_true_eq_false, not_false_eq_true, ite_self, ↓reduceIte, eq_self, Bool.false_eq_true, hA.1.1, hA.1.2, hA.2.1.1, hA.2.1.2, hA.2.2.1.1, hA.2.2.1.2, hA.2.2.2.1.1, hA.2.2.2.1.2, hA.2.2.2.2.1.1, hA.2.2.2.2.1.2, hA.2.2.2.2.2.1, hA.2.2.2.2.2.2, kp_int, kp_ref, q1, f2]
      rw [g]
      exact AR_rf H h1
    · rw [if_neg q2, if_pos (by omega)] at f2
      have w12 : ((1 : Nat) = 2) = False := eq_false (by omega)
      obtain ⟨p, hpd⟩ : ∃ p, p = 6 * h + k := ⟨_, rfl⟩
      rw [← hpd] at hp g2
      have p6 : p / 6 = h ∧ p % 6 = k := by omega
      have g2 := g2 (by rw [p6.1, p6.2]; omega)
      have g3 := (H.1.2.2.2.2.1 _ hm).1
      have m1 := MT_ub hMT hm (by rw [hp, p6.1, p6.2]; exact ek) (by rw [hp, p6.1]; omega)
      obtain ⟨W, hW⟩ : ∃ W, W = up2 N 144 (5 * (4 * h + k) + 2) 0 := ⟨_, rfl⟩
      rw [← hW, hp] at m1
      have hr0 : oUnb S h = (0, S.1.1 8 p, (ubR S.1.1 p, S.1.2.filter (fun x => !Nat.beq x p)), push S.2.1 S.1, S.2.2) := by
        unfold oUnb
        rw [if_neg (not_not_intro hh), if_neg (by omega), ← hk, ← hpd]
      obtain ⟨N3, k1, k2, k3⟩ := CR_0 (q_unbook (L := L) (c := u) (h := h) hZ.1 (CI_cg hI (N' := W) (fun a ha => by rw [hW, up2_ne (by omega)])) hSk (by omega)) hr0
      have hS2 := SOK_unb (h := h) hSk
      rw [hr0] at hS2
      have o0 : ∀ k j, k ≠ 8 → k ≠ 4 → ubR S.1.1 p k j = S.1.1 k j := fun k j q1 q2 => by
        unfold ubR
        rw [up2_o (by omega), up2_o (by omega)]
      have HW := LW_mk (S2 := ((ubR S.1.1 p, S.1.2.filter (fun x => !Nat.beq x p)), push S.2.1 S.1, S.2.2)) m1 k2 k3 hS2 (LS3_o hL3 (o0 0 1 (by omega) (by omega)) (fun i => o0 3 i (by omega) (by omega))) (BK_sub hbk List.filter_sublist)
      refine ⟨N3, _, B, o, ?_, HW, LS1_o h1 (o0 0 1 (by omega) (by omega)) (fun i => o0 3 i (by omega) (by omega)), by omega, ?_, fun _ => push_pos⟩
      · have v3 : N3 144 (5 * (4 * h + k) + 3) = S.1.1 8 p := by
          rw [k3 144 (by omega), hW, up2_o (by omega)]
          exact g2
        simp (disch := omega) only [r_L_act_353, r_L_act_355, r_L_act_358, r_L_act_360, r_L_act_361, r_L_act_362, r_L_act_364, r_L_act_365, r_L_act_367, r_L_act_368, r_L_act_369, r_L_act_370, r_L_act_371, r_L_act_372, r_L_act_373, r_L_act_376, r_L_act_377, r_L_act_378, r_L_act_380, r_L_act_381, r_L_act_382, r_L_act_384, r_L_act_385, r_L_act_387, r_L_act_388, r_L_act_389, r_L_act_390, r_L_act_391, r_L_act_392, up2_o, up2_e, iN_ap, iN_up, i_ix, i_inb, i_lt, i_lt0, i_0lt, i_eq, i_ne0, i_00, i_11, i_01, i_10, i_b, i_rem2, n_rem, i_add, i_mul, i_sub, i_div, i_max, i_min, rdk_0, rdk_3, kp_none, kp_int, kp_ref, kp_long, kp_double, aK_v, aK_0, aK_ite, if_true, if_false, and_self, and_true, true_and, or_false, false_or, not_true_eq_false, not_false_eq_true, ite_self, ↓reduceIte, eq_self, Bool.false_eq_true, hA.1.1, hA.1.2, hA.2.1.1, hA.2.1.2, hA.2.2.1.1, hA.2.2.1.2, hA.2.2.2.1.1, hA.2.2.2.1.2, hA.2.2.2.2.1.1, hA.2.2.2.2.1.2, hA.2.2.2.2.2.1, hA.2.2.2.2.2.2, kp_int, kp_ref, q1, f2, w12]
        rw [← hW]
        simp (disch := omega) only [r_L_act_393, r_L_act_394, r_L_act_396, r_L_act_399, r_L_act_401, r_L_act_402, r_L_act_403, r_L_act_405, r_L_act_406, r_L_act_408, r_L_act_409, r_L_act_410, r_L_act_411, r_L_act_412, r_L_act_413, r_L_act_416, r_L_act_417, r_L_act_420, r_L_act_421, up2_o, up2_e, iN_ap, iN_up, i_ix, i_inb, i_lt, i_lt0, i_0lt, i_eq, i_ne0, i_00, i_11, i_01, i_10, i_b, i_rem2, n_rem, i_add, i_mul, i_sub, i_div, i_max, i_min, rdk_0, rdk_3, kp_none, kp_int, kp_ref, kp_long, kp_double, aK_v, aK_0, aK_ite, if_true, if_false, and_self, and_true, true_and, or_false, false_or, not_true_eq_false, not_false_eq_true, ite_self, ↓reduceIte, eq_self, Bool.false_eq_true, hA.1.1, hA.1.2, hA.2.1.1, hA.2.1.2, hA.2.2.1.1, hA.2.2.1.2, hA.2.2.2.1.1, hA.2.2.2.1.2, hA.2.2.2.2.1.1, hA.2.2.2.2.1.2, hA.2.2.2.2.2.1, hA.2.2.2.2.2.2, kp_int, kp_ref, z0, k1, v3]
      · show ubR S.1.1 p 0 0 ≤ _
        rw [o0 0 0 (by omega) (by omega)]
        omega
theorem lz_ploop {x y : Int32} {a d : Nat} {a15 : Option Value} (hZ : LZ Z) (hd : d ≤ 60) : ∀ (n k all : Nat) (N : Nat → Nat → Nat) (s : aY × List Nat), k + n = d → LM N 144 145 146 151 s.1 (stg s.1) B o → WF s.1 s.2 → LS3 s.1 → BK s.2 B o → s.1 0 0 + n ≤ 1300 →
    ∃ N', ex 114 454 [some (.ref 0), some (.int (nI (a))), some (.int x), some (.int y), some (.ref 144), some (.ref 145), some (.ref 146), some (.ref 147), some (.ref 148), some (.ref 149), some (.ref 150), some (.ref 151), some (.int (nI (d))), some (.int (nI (all))), some (.int (nI (k))), a15] [] (Z, iN N, L, u) = ex 114 487 [some (.ref 0), some (.int (nI (a))), some (.int x), some (.int y), some (.ref 144), some (.ref 145), some (.ref 146), some (.ref 147), some (.ref 148), some (.ref 149), some (.ref 150), some (.ref 151), some (.int (nI (d))), some (.int (nI (all + (s.2.length - (aPn n s).2.length)))), some (.int (nI (d))), a15] [] (Z, iN N', L, u) ∧ LM N' 144 145 146 151 (aPn n s).1 (stg (aPn n s).1) B o ∧ BK (aPn n s).2 B o ∧ ∀ a, a ≠ 144 → a ≠ 145 → a ≠ 146 → a ≠ 151 → N' a = N a
  | 0, k, all, N, s, e, h, hw, h3, hb, ht => by
    have ek : k = d := by omega
    subst ek
    refine ⟨N, ?_, h, hb, fun _ _ _ _ _ => rfl⟩
    have e0 : all + (s.2.length - (aPn 0 s).2.length) = all := by show all + (s.2.length - s.2.length) = all; omega
    rw [e0, r_L_act_454]
    simp (disch := omega) only [r_L_act_456, r_L_act_458, up2_o, up2_e, iN_ap, iN_up, i_ix, i_inb, i_lt, i_lt0, i_0lt, i_eq, i_ne0, i_00, i_11, i_01, i_10, i_b, i_rem2, n_rem, i_add, i_mul, i_sub, i_div, i_max, i_min, rdk_0, rdk_3, kp_none, kp_int, kp_ref, kp_long, kp_double, aK_v, aK_0, aK_ite, if_true, if_false, and_self, and_true, true_and, or_false, false_or, not_true_eq_false, not_false_eq_true, ite_self, ↓reduceIte, eq_self, Bool.false_eq_true, Nat.lt_irrefl]
  | n + 1, k, all, N, s, e, h, hw, h3, hb, ht => by
    have hk : k < d := by omega
    obtain ⟨N1, d1, d2, d3⟩ := lz_day (L := L) (u := u) hZ.2.1 LD0 h hw h3 hb (by omega)
    obtain ⟨w1, w2, -⟩ := WF_P (s := s) hw (by omega)
    have e2 : (aP s).2 = aQ s.2 s.1 := aP_2
    have hb2 : BK (aP s).2 B o := by rw [e2]; exact BK_sub hb (aQ_sub s.2 s.1)
    have l1 := (aQ_sub s.2 s.1).length_le
    have l2 := aPn_len n (aP s)
    rw [e2] at l2
    obtain ⟨N', i1, i2, i4, i3⟩ := lz_ploop (x := x) (y := y) (a := a) (a15 := a15) hZ hd n (k + 1) (all + (s.2.length - (aQ s.2 s.1).length)) N1 (aP s) (by omega) d2 w1 (LS3_P h3) hb2 (by rw [w2]; omega)
    rw [aPn_s]
    rw [e2, show all + (s.2.length - (aQ s.2 s.1).length) + ((aQ s.2 s.1).length - (aPn n (aP s)).2.length) = all + (s.2.length - (aPn n (aP s)).2.length) by omega] at i1
    refine ⟨N', ?_, i2, i4, fun a a1 a2 a3 a4 => (i3 a a1 a2 a3 a4).trans (d3 a a1 a2 a3 a4)⟩
    rw [← i1, r_L_act_454]
    simp (disch := omega) only [r_L_act_456, r_L_act_458, r_L_act_461, r_L_act_463, r_L_act_465, r_L_act_467, r_L_act_469, r_L_act_471, r_L_act_473, r_L_act_475, r_L_act_478, r_L_act_479, r_L_act_481, r_L_act_484, up2_o, up2_e, iN_ap, iN_up, i_ix, i_inb, i_lt, i_lt0, i_0lt, i_eq, i_ne0, i_00, i_11, i_01, i_10, i_b, i_rem2, n_rem, i_add, i_mul, i_sub, i_div, i_max, i_min, rdk_0, rdk_3, kp_none, kp_int, kp_ref, kp_long, kp_double, aK_v, aK_0, aK_ite, if_true, if_false, and_self, and_true, true_and, or_false, false_or, not_true_eq_false, not_false_eq_true, ite_self, ↓reduceIte, eq_self, Bool.false_eq_true, kp_int, kp_ref, hk, d1]
theorem lz_pass {x y : Int32} {a n : Nat} {a14 a15 : Option Value} {z13 : Option Value} (hZ : LZ Z) (H : LW N S B o) (h1 : LS1 S.1.1) (h7 : S.1.1 0 0 ≤ 975) (hn : 1 ≤ n ∧ n ≤ 25) : AR Z L u S o (ex 114 448 [some (.ref 0), some (.int (nI (a))), some (.int x), some (.int y), some (.ref 144), some (.ref 145), some (.ref 146), some (.ref 147), some (.ref 148), some (.ref 149), some (.ref 150), some (.ref 151), some (.int (nI (n))), z13, a14, a15] [] (Z, iN N, L, u)) := by
  have hA := hZ.2.1
  have z0 : Z.1 0 = 10 := hZ.1.1.1
  have hI := H.2.2.1
  have hSk := H.2.2.2.1
  have hw := hSk.1.1
  have hL3 := H.2.2.2.2.1
  have hbk := H.2.2.2.2.2
  obtain ⟨N1, l1, l2, l4, l3⟩ := lz_ploop (L := L) (u := u) (x := x) (y := y) (a := a) (d := n) (a15 := a15) hZ (by omega) n 0 0 N S.1 (by omega) H.1 hw hL3 hbk (by omega)
  obtain ⟨wp, wp0⟩ := WF_Pn n S.1 hw (by omega)
  have o0 : ∀ k j, k ≠ 5 → k ≠ 8 → k ≠ 9 → k ≠ 11 → k ≠ 12 → (k ≠ 0 ∨ j ≠ 0) → (aPn n S.1).1 k j = S.1.1 k j := fun k j q1 q2 q3 q4 q5 q6 => aPn_o q1 q2 q3 q4 q5 q6 n S.1
  have m1 : MT N1 (aPn n S.1).1 B o := ⟨l2, LT_o H.2.1 (l3 147 (by omega) (by omega) (by omega) (by omega)) (l3 148 (by omega) (by omega) (by omega) (by omega)) (fun i => o0 13 i (by omega) (by omega) (by omega) (by omega) (by omega) (by omega)) (fun i => o0 14 i (by omega) (by omega) (by omega) (by omega) (by omega) (by omega))⟩
  have hr0 : oPass S n = (0, S.1.2.length - (aPn n S.1).2.length, aPn n S.1, push S.2.1 S.1, S.2.2) := by
    unfold oPass
    rw [if_neg (by omega), if_neg (by omega)]
  obtain ⟨N3, k1, k2, k3⟩ := CR_0 (q_pass (L := L) (c := u) (n := n) hZ.1 (CI_cg hI (N' := N1) (fun a ha => l3 a (by omega) (by omega) (by omega) (by omega))) hSk (by omega)) hr0
  have hS2 := SOK_pass (n := n) hSk
  rw [hr0] at hS2
  have hlen := WF_len hw
  have HW := LW_mk (S2 := (aPn n S.1, push S.2.1 S.1, S.2.2)) m1 k2 k3 hS2 (LS3_o hL3 (o0 0 1 (by omega) (by omega) (by omega) (by omega) (by omega) (by omega)) (fun i => o0 3 i (by omega) (by omega) (by omega) (by omega) (by omega) (by omega))) l4
  refine ⟨N3, _, B, o, ?_, HW, LS1_o h1 (o0 0 1 (by omega) (by omega) (by omega) (by omega) (by omega) (by omega)) (fun i => o0 3 i (by omega) (by omega) (by omega) (by omega) (by omega) (by omega)), by omega, ?_, fun _ => push_pos⟩
  · have g : ex 114 448 [some (.ref 0), some (.int (nI (a))), some (.int x), some (.int y), some (.ref 144), some (.ref 145), some (.ref 146), some (.ref 147), some (.ref 148), some (.ref 149), some (.ref 150), some (.ref 151), some (.int (nI (n))), z13, a14, a15] [] (Z, iN N, L, u) = ex 114 454 [some (.ref 0), some (.int (nI (a))), some (.int x), some (.int y), some (.ref 144), some (.ref 145), some (.ref 146), some (.ref 147), some (.ref 148), some (.ref 149), some (.ref 150), some (.ref 151), some (.int (nI (n))), some (.int (nI (0))), some (.int (nI (0))), a15] [] (Z, iN N, L, u) := by
      simp (disch := omega) only [r_L_act_448, r_L_act_449, r_L_act_451, r_L_act_452, up2_o, up2_e, iN_ap, iN_up, i_ix, i_inb, i_lt, i_lt0, i_0lt, i_eq, i_ne0, i_00, i_11, i_01, i_10, i_b, i_rem2, n_rem, i_add, i_mul, i_sub, i_div, i_max, i_min, rdk_0, rdk_3, kp_none, kp_int, kp_ref, kp_long, kp_double, aK_v, aK_0, aK_ite, if_true, if_false, and_self, and_true, true_and, or_false, false_or, not_true_eq_false, not_false_eq_true, ite_self, ↓reduceIte, eq_self, Bool.false_eq_true]
    rw [g, l1, Nat.zero_add]
    simp (disch := omega) only [r_L_act_487, r_L_act_488, r_L_act_490, r_L_act_493, r_L_act_495, r_L_act_498, r_L_act_499, r_L_act_502, r_L_act_503, up2_o, up2_e, iN_ap, iN_up, i_ix, i_inb, i_lt, i_lt0, i_0lt, i_eq, i_ne0, i_00, i_11, i_01, i_10, i_b, i_rem2, n_rem, i_add, i_mul, i_sub, i_div, i_max, i_min, rdk_0, rdk_3, kp_none, kp_int, kp_ref, kp_long, kp_double, aK_v, aK_0, aK_ite, if_true, if_false, and_self, and_true, true_and, or_false, false_or, not_true_eq_false, not_false_eq_true, ite_self, ↓reduceIte, eq_self, Bool.false_eq_true, hA.1.1, hA.1.2, hA.2.1.1, hA.2.1.2, hA.2.2.1.1, hA.2.2.1.2, hA.2.2.2.1.1, hA.2.2.2.1.2, hA.2.2.2.2.1.1, hA.2.2.2.2.1.2, hA.2.2.2.2.2.1, hA.2.2.2.2.2.2, kp_int, kp_ref, z0, k1]
  · show (aPn n S.1).1 0 0 ≤ _
    rw [wp0]
    omega
theorem lz_act9 {x y : Int32} {a : Nat} {a12 a13 a14 a15 : Option Value} (hZ : LZ Z) (H : LW N S B o) (h1 : LS1 S.1.1) (h7 : S.1.1 0 0 ≤ 975) (h0 : 1 ≤ S.1.1 0 1) (ha : 9 ≤ a ∧ a < 13) : AR Z L u S o (ex 114 0 [some (.ref 0), some (.int (nI (a))), some (.int x), some (.int y), some (.ref 144), some (.ref 145), some (.ref 146), some (.ref 147), some (.ref 148), some (.ref 149), some (.ref 150), some (.ref 151), a12, a13, a14, a15] [] (Z, iN N, L, u)) := by
  have hA := hZ.2.1
  have c0 := H.1.1.1
  have h31 := H.2.2.2.2.1.1
  have za : (nI a = 0) = False := i_ne0 (by omega) (by omega)
  have zc : (nI (S.1.1 0 1) = 0) = False := i_ne0 (by omega) (by omega)
  have za1 : (a = 1) = False := eq_false (by omega)
  have za2 : (a = 2) = False := eq_false (by omega)
  have za8 : (a < 8) = False := eq_false (by omega)
  have zb8 : (a = 8) = False := eq_false (by omega)
  by_cases q9 : a = 9
  · obtain ⟨r, hr, a1⟩ := lz_at (x := x) (n := 25) (h := (Z, iN N, L, u)) (by omega) (by omega)
    obtain ⟨n, hn⟩ : ∃ n, n = 1 + r := ⟨_, rfl⟩
    have n2 : 1 + r = n := hn.symm
    have z9 : (nI a = nI 9) = True := by rw [q9]; exact eq_true rfl
    have z13 : (nI a < nI 13) = True := by rw [i_lt (by omega) (by omega)]; exact eq_true ha.2
    have z8a : (nI a < nI 8) = False := by rw [i_lt (by omega) (by omega)]; exact za8
    have y1 : (nI a = nI 1) = False := by rw [i_eq (by omega) (by omega)]; exact za1
    have y2 : (nI a = nI 2) = False := by rw [i_eq (by omega) (by omega)]; exact za2
    have y8 : (nI a = nI 8) = False := by rw [i_eq (by omega) (by omega)]; exact zb8
    have go : ex 114 0 [some (.ref 0), some (.int (nI (a))), some (.int x), some (.int y), some (.ref 144), some (.ref 145), some (.ref 146), some (.ref 147), some (.ref 148), some (.ref 149), some (.ref 150), some (.ref 151), a12, a13, a14, a15] [] (Z, iN N, L, u) = ex 114 448 [some (.ref 0), some (.int (nI (a))), some (.int x), some (.int y), some (.ref 144), some (.ref 145), some (.ref 146), some (.ref 147), some (.ref 148), some (.ref 149), some (.ref 150), some (.ref 151), some (.int (nI (n))), a13, a14, a15] [] (Z, iN N, L, u) := by
      simp (disch := omega) only [r_L_act_0, r_L_act_1, r_L_act_4, r_L_act_6, r_L_act_7, r_L_act_8, r_L_act_38, r_L_act_39, r_L_act_40, r_L_act_54, r_L_act_55, r_L_act_56, r_L_act_155, r_L_act_156, r_L_act_158, r_L_act_324, r_L_act_325, r_L_act_327, r_L_act_422, r_L_act_423, r_L_act_425, r_L_act_428, r_L_act_429, r_L_act_430, r_L_act_431, r_L_act_433, r_L_act_436, r_L_act_438, r_L_act_441, r_L_act_442, r_L_act_445, r_L_act_446, up2_o, up2_e, iN_ap, iN_up, i_ix, i_inb, i_lt0, i_0lt, i_ne0, i_00, i_11, i_01, i_10, i_b, i_rem2, n_rem, i_add, i_mul, i_sub, i_div, i_max, i_min, rdk_0, rdk_3, kp_none, kp_int, kp_ref, kp_long, kp_double, aK_v, aK_0, aK_ite, if_true, if_false, and_self, and_true, true_and, or_false, false_or, not_true_eq_false, not_false_eq_true, ite_self, ↓reduceIte, eq_self, Bool.false_eq_true, hA.1.1, hA.1.2, hA.2.1.1, hA.2.1.2, hA.2.2.1.1, hA.2.2.1.2, hA.2.2.2.1.1, hA.2.2.2.1.2, hA.2.2.2.2.1.1, hA.2.2.2.2.1.2, hA.2.2.2.2.2.1, hA.2.2.2.2.2.2, kp_int, kp_ref, za, zc, y1, y2, z8a, y8, z13, z9, c0, a1, n2]
    rw [go]
    exact lz_pass hZ H h1 h7 (by omega)
  · obtain ⟨r, hr, a1⟩ := lz_at (x := x) (n := 4) (h := (Z, iN N, L, u)) (by omega) (by omega)
    obtain ⟨n, hn⟩ : ∃ n, n = 1 + r := ⟨_, rfl⟩
    have n2 : 1 + r = n := hn.symm
    have go : ex 114 0 [some (.ref 0), some (.int (nI (a))), some (.int x), some (.int y), some (.ref 144), some (.ref 145), some (.ref 146), some (.ref 147), some (.ref 148), some (.ref 149), some (.ref 150), some (.ref 151), a12, a13, a14, a15] [] (Z, iN N, L, u) = ex 114 448 [some (.ref 0), some (.int (nI (a))), some (.int x), some (.int y), some (.ref 144), some (.ref 145), some (.ref 146), some (.ref 147), some (.ref 148), some (.ref 149), some (.ref 150), some (.ref 151), some (.int (nI (n))), a13, a14, a15] [] (Z, iN N, L, u) := by
      simp (disch := omega) only [r_L_act_0, r_L_act_1, r_L_act_4, r_L_act_6, r_L_act_7, r_L_act_8, r_L_act_38, r_L_act_39, r_L_act_40, r_L_act_54, r_L_act_55, r_L_act_56, r_L_act_155, r_L_act_156, r_L_act_158, r_L_act_324, r_L_act_325, r_L_act_327, r_L_act_422, r_L_act_423, r_L_act_425, r_L_act_428, r_L_act_429, r_L_act_430, r_L_act_431, r_L_act_433, r_L_act_436, r_L_act_438, r_L_act_441, r_L_act_442, r_L_act_445, r_L_act_446, up2_o, up2_e, iN_ap, iN_up, i_ix, i_inb, i_lt, i_lt0, i_0lt, i_eq, i_ne0, i_00, i_11, i_01, i_10, i_b, i_rem2, n_rem, i_add, i_mul, i_sub, i_div, i_max, i_min, rdk_0, rdk_3, kp_none, kp_int, kp_ref, kp_long, kp_double, aK_v, aK_0, aK_ite, if_true, if_false, and_self, and_true, true_and, or_false, false_or, not_true_eq_false, not_false_eq_true, ite_self, ↓reduceIte, eq_self, Bool.false_eq_true, hA.1.1, hA.1.2, hA.2.1.1, hA.2.1.2, hA.2.2.1.1, hA.2.2.1.2, hA.2.2.2.1.1, hA.2.2.2.1.2, hA.2.2.2.2.1.1, hA.2.2.2.2.1.2, hA.2.2.2.2.2.1, hA.2.2.2.2.2.2, kp_int, kp_ref, za, zc, za1, za2, za8, zb8, ha.2, q9, c0, a1, n2]
    rw [go]
    exact lz_pass hZ H h1 h7 (by omega)
theorem lz_act13 {x y : Int32} {a : Nat} {a12 a13 a14 a15 : Option Value} (hZ : LZ Z) (H : LW N S B o) (h1 : LS1 S.1.1) (h0 : 1 ≤ S.1.1 0 1) (ha : 13 ≤ a ∧ a < 19) : AR Z L u S o (ex 114 0 [some (.ref 0), some (.int (nI (a))), some (.int x), some (.int y), some (.ref 144), some (.ref 145), some (.ref 146), some (.ref 147), some (.ref 148), some (.ref 149), some (.ref 150), some (.ref 151), a12, a13, a14, a15] [] (Z, iN N, L, u)) := by
  have hA := hZ.2.1
  have c0 := H.1.1.1
  have h31 := H.2.2.2.2.1.1
  have za : (nI a = 0) = False := i_ne0 (by omega) (by omega)
  have zc : (nI (S.1.1 0 1) = 0) = False := i_ne0 (by omega) (by omega)
  have za1 : (a = 1) = False := eq_false (by omega)
  have za2 : (a = 2) = False := eq_false (by omega)
  have za8 : (a < 8) = False := eq_false (by omega)
  have zb8 : (a = 8) = False := eq_false (by omega)
  have z13 : (a < 13) = False := eq_false (by omega)
  obtain ⟨N', S', B', o', g1, g2⟩ := lz_money (L := L) (u := u) (x := x) (y := y) (a := a - 13) hZ H h1 h0 (by omega)
  refine ⟨N', S', B', o', ?_, g2⟩
  have s13 : 13 ≤ a := ha.1
  simp (disch := omega) only [r_L_act_0, r_L_act_1, r_L_act_4, r_L_act_6, r_L_act_7, r_L_act_8, r_L_act_38, r_L_act_39, r_L_act_40, r_L_act_54, r_L_act_55, r_L_act_56, r_L_act_155, r_L_act_156, r_L_act_158, r_L_act_324, r_L_act_325, r_L_act_327, r_L_act_422, r_L_act_423, r_L_act_425, r_L_act_504, r_L_act_505, r_L_act_506, r_L_act_508, r_L_act_509, r_L_act_510, r_L_act_511, r_L_act_513, r_L_act_515, r_L_act_517, r_L_act_519, r_L_act_521, r_L_act_523, r_L_act_525, r_L_act_528, up2_o, up2_e, iN_ap, iN_up, i_ix, i_inb, i_lt, i_lt0, i_0lt, i_eq, i_ne0, i_00, i_11, i_01, i_10, i_b, i_rem2, n_rem, i_add, i_mul, i_sub, i_div, i_max, i_min, rdk_0, rdk_3, kp_none, kp_int, kp_ref, kp_long, kp_double, aK_v, aK_0, aK_ite, if_true, if_false, and_self, and_true, true_and, or_false, false_or, not_true_eq_false, not_false_eq_true, ite_self, ↓reduceIte, eq_self, Bool.false_eq_true, hA.1.1, hA.1.2, hA.2.1.1, hA.2.1.2, hA.2.2.1.1, hA.2.2.1.2, hA.2.2.2.1.1, hA.2.2.2.1.2, hA.2.2.2.2.1.1, hA.2.2.2.2.1.2, hA.2.2.2.2.2.1, hA.2.2.2.2.2.2, kp_int, kp_ref, za, zc, za1, za2, za8, zb8, z13, c0, g1]
/-- an act: the saved yards do not end; a first house saves one -/
theorem lz_act {x y : Int32} {a : Nat} (hZ : LZ Z) (H : LW N S B o) (h1 : LS1 S.1.1) (h7 : S.1.1 0 0 ≤ 975) (ho : o < 1000) (ha : a < 19) : ∃ N' S' B' o', ex 114 0 [some (.ref 0), some (.int (nI (a))), some (.int x), some (.int y), some (.ref 144), some (.ref 145), some (.ref 146), some (.ref 147), some (.ref 148), some (.ref 149), some (.ref 150), some (.ref 151), none, none, none, none] [] (Z, iN N, L, u) = some (.inl (some (.int (nI 1))), (Z, iN N', L, u)) ∧ LW N' S' B' o' ∧ LS1 S'.1.1 ∧ o' ≤ o + 1 ∧ S'.1.1 0 0 ≤ S.1.1 0 0 + 25 ∧ (0 < S.2.1.length ∨ S.1.1 0 1 = 0 → 0 < S'.2.1.length) := by
  have hA := hZ.2.1
  have c0 := H.1.1.1
  have h31 := H.2.2.2.2.1.1
  have cv : 1 ≤ S.1.1 0 1 → AR Z L u S o (ex 114 0 [some (.ref 0), some (.int (nI (a))), some (.int x), some (.int y), some (.ref 144), some (.ref 145), some (.ref 146), some (.ref 147), some (.ref 148), some (.ref 149), some (.ref 150), some (.ref 151), none, none, none, none] [] (Z, iN N, L, u)) → ∃ N' S' B' o', ex 114 0 [some (.ref 0), some (.int (nI (a))), some (.int x), some (.int y), some (.ref 144), some (.ref 145), some (.ref 146), some (.ref 147), some (.ref 148), some (.ref 149), some (.ref 150), some (.ref 151), none, none, none, none] [] (Z, iN N, L, u) = some (.inl (some (.int (nI 1))), (Z, iN N', L, u)) ∧ LW N' S' B' o' ∧ LS1 S'.1.1 ∧ o' ≤ o + 1 ∧ S'.1.1 0 0 ≤ S.1.1 0 0 + 25 ∧ (0 < S.2.1.length ∨ S.1.1 0 1 = 0 → 0 < S'.2.1.length) := fun hz ⟨N', S', B', o', g1, g2, g3, g4, g5, g6⟩ => ⟨N', S', B', o', g1, g2, g3, g4, g5, fun hh => hh.elim g6 (fun z => absurd z (by omega))⟩
  by_cases q : a = 0 ∨ S.1.1 0 1 = 0
  · have go : ex 114 0 [some (.ref 0), some (.int (nI (a))), some (.int x), some (.int y), some (.ref 144), some (.ref 145), some (.ref 146), some (.ref 147), some (.ref 148), some (.ref 149), some (.ref 150), some (.ref 151), none, none, none, none] [] (Z, iN N, L, u) = ex 114 11 [some (.ref 0), some (.int (nI (a))), some (.int x), some (.int y), some (.ref 144), some (.ref 145), some (.ref 146), some (.ref 147), some (.ref 148), some (.ref 149), some (.ref 150), some (.ref 151), none, none, none, none] [] (Z, iN N, L, u) := by
      by_cases w : a = 0
      · have za : (nI a = 0) = True := by rw [w]; exact i_00
        simp (disch := omega) only [r_L_act_0, r_L_act_1, up2_o, up2_e, iN_ap, iN_up, i_ix, i_inb, i_lt, i_lt0, i_0lt, i_eq, i_ne0, i_00, i_11, i_01, i_10, i_b, i_rem2, n_rem, i_add, i_mul, i_sub, i_div, i_max, i_min, rdk_0, rdk_3, kp_none, kp_int, kp_ref, kp_long, kp_double, aK_v, aK_0, aK_ite, if_true, if_false, and_self, and_true, true_and, or_false, false_or, not_true_eq_false, not_false_eq_true, ite_self, ↓reduceIte, eq_self, Bool.false_eq_true, za]
      · have za : (nI a = 0) = False := i_ne0 (by omega) (by omega)
        have zc : (nI (S.1.1 0 1) = 0) = True := by rw [show S.1.1 0 1 = 0 by omega]; exact i_00
        simp (disch := omega) only [r_L_act_0, r_L_act_1, r_L_act_4, r_L_act_6, r_L_act_7, r_L_act_8, up2_o, up2_e, iN_ap, iN_up, i_ix, i_inb, i_lt, i_lt0, i_0lt, i_eq, i_ne0, i_00, i_11, i_01, i_10, i_b, i_rem2, n_rem, i_add, i_mul, i_sub, i_div, i_max, i_min, rdk_0, rdk_3, kp_none, kp_int, kp_ref, kp_long, kp_double, aK_v, aK_0, aK_ite, if_true, if_false, and_self, and_true, true_and, or_false, false_or, not_true_eq_false, not_false_eq_true, ite_self, ↓reduceIte, eq_self, Bool.false_eq_true, hA.1.1, hA.1.2, hA.2.1.1, hA.2.1.2, hA.2.2.1.1, hA.2.2.1.2, hA.2.2.2.1.1, hA.2.2.2.1.2, hA.2.2.2.2.1.1, hA.2.2.2.2.1.2, hA.2.2.2.2.2.1, hA.2.2.2.2.2.2, za, c0, zc]
    rw [go]
    by_cases q3 : S.1.1 0 1 = 3
    · have g : ex 114 11 [some (.ref 0), some (.int (nI (a))), some (.int x), some (.int y), some (.ref 144), some (.ref 145), some (.ref 146), some (.ref 147), some (.ref 148), some (.ref 149), some (.ref 150), some (.ref 151), none, none, none, none] [] (Z, iN N, L, u) = some (.inl (some (.int (nI 1))), (Z, iN N, L, u)) := by
        simp (disch := omega) only [r_L_act_11, r_L_act_13, r_L_act_14, r_L_act_15, r_L_act_16, r_L_act_19, r_L_act_20, r_L_act_21, r_L_act_22, r_L_act_24, r_L_act_26, r_L_act_29, r_L_act_32, r_L_act_33, r_L_act_36, r_L_act_37, up2_o, up2_e, iN_ap, iN_up, i_ix, i_inb, i_lt, i_lt0, i_0lt, i_eq, i_ne0, i_00, i_11, i_01, i_10, i_b, i_rem2, n_rem, i_add, i_mul, i_sub, i_div, i_max, i_min, rdk_0, rdk_3, kp_none, kp_int, kp_ref, kp_long, kp_double, aK_v, aK_0, aK_ite, if_true, if_false, and_self, and_true, true_and, or_false, false_or, not_true_eq_false, not_false_eq_true, ite_self, ↓reduceIte, eq_self, Bool.false_eq_true, hA.1.1, hA.1.2, hA.2.1.1, hA.2.1.2, hA.2.2.1.1, hA.2.2.1.2, hA.2.2.2.1.1, hA.2.2.2.1.2, hA.2.2.2.2.1.1, hA.2.2.2.2.1.2, hA.2.2.2.2.2.1, hA.2.2.2.2.2.2, c0, q3]
      rw [g]
      exact ⟨N, S, B, o, rfl, H, h1, by omega, by omega, fun hh => hh.elim (fun z => z) (fun z => absurd z (by omega))⟩
    · obtain ⟨N', S', g1, g2, g3, g4, g5, -⟩ := lz_adds (L := L) (u := u) (x := x) (y := y) hZ H h1 (by omega)
      refine ⟨N', S', B, o, ?_, g2, g3, by omega, by omega, fun _ => g5⟩
      simp (disch := omega) only [r_L_act_11, r_L_act_13, r_L_act_14, r_L_act_15, r_L_act_16, r_L_act_19, r_L_act_20, r_L_act_21, r_L_act_22, r_L_act_24, r_L_act_26, r_L_act_29, r_L_act_32, r_L_act_33, r_L_act_36, r_L_act_37, up2_o, up2_e, iN_ap, iN_up, i_ix, i_inb, i_lt, i_lt0, i_0lt, i_eq, i_ne0, i_00, i_11, i_01, i_10, i_b, i_rem2, n_rem, i_add, i_mul, i_sub, i_div, i_max, i_min, rdk_0, rdk_3, kp_none, kp_int, kp_ref, kp_long, kp_double, aK_v, aK_0, aK_ite, if_true, if_false, and_self, and_true, true_and, or_false, false_or, not_true_eq_false, not_false_eq_true, ite_self, ↓reduceIte, eq_self, Bool.false_eq_true, hA.1.1, hA.1.2, hA.2.1.1, hA.2.1.2, hA.2.2.1.1, hA.2.2.1.2, hA.2.2.2.1.1, hA.2.2.2.1.2, hA.2.2.2.2.1.1, hA.2.2.2.2.1.2, hA.2.2.2.2.2.1, hA.2.2.2.2.2.2, kp_int, kp_ref, c0, q3, g1]
  · have h0 : 1 ≤ S.1.1 0 1 := by omega
    refine cv h0 ?_
    rcases (show a = 1 ∨ a = 2 ∨ (3 ≤ a ∧ a < 8) ∨ a = 8 ∨ (9 ≤ a ∧ a < 13) ∨ (13 ≤ a ∧ a < 19) by omega) with w | w | w | w | w | w
    · have zc : (nI (S.1.1 0 1) = 0) = False := i_ne0 (by omega) (by omega)
      have za : (nI a = 0) = False := i_ne0 (by omega) (by omega)
      have z1 : (nI a = nI 1) = True := by rw [w]; exact eq_true rfl
      obtain ⟨N', S', B', o', g1, g2⟩ := lz_winds (L := L) (u := u) (x := x) (y := y) hZ H h1
      refine ⟨N', S', B', o', ?_, g2⟩
      simp (disch := omega) only [r_L_act_0, r_L_act_1, r_L_act_4, r_L_act_6, r_L_act_7, r_L_act_8, r_L_act_38, r_L_act_39, r_L_act_40, r_L_act_43, r_L_act_44, r_L_act_45, r_L_act_46, r_L_act_48, r_L_act_50, r_L_act_53, up2_o, up2_e, iN_ap, iN_up, i_ix, i_inb, i_lt, i_lt0, i_0lt, i_ne0, i_00, i_11, i_01, i_10, i_b, i_rem2, n_rem, i_add, i_mul, i_sub, i_div, i_max, i_min, rdk_0, rdk_3, kp_none, kp_int, kp_ref, kp_long, kp_double, aK_v, aK_0, aK_ite, if_true, if_false, and_self, and_true, true_and, or_false, false_or, not_true_eq_false, not_false_eq_true, ite_self, ↓reduceIte, eq_self, Bool.false_eq_true, hA.1.1, hA.1.2, hA.2.1.1, hA.2.1.2, hA.2.2.1.1, hA.2.2.1.2, hA.2.2.2.1.1, hA.2.2.2.1.2, hA.2.2.2.2.1.1, hA.2.2.2.2.1.2, hA.2.2.2.2.2.1, hA.2.2.2.2.2.2, kp_int, kp_ref, za, zc, z1, c0, g1, i_11, i_10]
    · subst w
      exact lz_act2 hZ H h1 h0
    · exact lz_act3 hZ H h1 ho h0 w
    · subst w
      exact lz_act8 hZ H h1 h0
    · exact lz_act9 hZ H h1 h7 h0 w
    · exact lz_act13 hZ H h1 h0 w
end Ly
