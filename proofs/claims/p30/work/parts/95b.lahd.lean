/-! what would be: when all are set; how many by so many days -/
theorem lOp_q {N : Nat → Nat → Nat} {a b c d : Nat} {R : aY} {q : List Nat} {B : Nat → Nat} {o : Nat} (h : LM N a b c d R (stg R) B o) (hw : WF R q) (h3 : LS3 R) : lOp N a d 12 = true ↔ 0 < q.length := by
  rw [lOp_iff]
  refine ⟨fun ⟨m, h1, h2, h4⟩ => ?_, fun hq => ?_⟩
  · have hp := pl_lt h1
    rw [(h.2.2.2.1 m h1).2.2.1] at h4
    exact List.length_pos_of_mem ((stg_1 hw (by omega)).mp h4)
  · cases q with
    | nil => exact absurd hq (Nat.lt_irrefl 0)
    | cons p q =>
      have hx := (hw.2.2.2.2.2.2.1 p).mp List.mem_cons_self
      have h2 := (hw.2.1 (p / 6) (by omega)).2.1
      obtain ⟨g1, g2, g3, g4⟩ := LS_in h3 hw.2.1 hx.1 (by omega)
      refine ⟨lp p, g3, ?_, ?_⟩
      · rw [lTh_R h hw.2.1 g3, g4]
        omega
      · rw [(h.2.2.2.1 (lp p) g3).2.2.1, g4]
        exact (stg_1 hw hx.1).mpr List.mem_cons_self
theorem lOp_cg {N N' : Nat → Nat → Nat} {a d : Nat} (h1 : N' a = N a) (h2 : N' d = N d) : ∀ n, lOp N' a d n = lOp N a d n
  | 0 => rfl
  | n + 1 => by
    unfold lOp
    rw [lOp_cg h1 h2 n, h1, h2]
theorem LS3_P {s : aY × List Nat} (h : LS3 s.1) : LS3 (aP s).1 := LS3_o h (aP_o (by omega) (by omega) (by omega) (by omega) (by omega) (by omega)) (fun i => aP_o (by omega) (by omega) (by omega) (by omega) (by omega) (by omega))
theorem LM_bd {N : Nat → Nat → Nat} {a b c d : Nat} {R : aY} {q : List Nat} {B : Nat → Nat} {o : Nat} (h : LM N a b c d R (stg R) B o) (hw : WF R q) (h3 : LS3 R) (hb : BK q B o) (ht : R 0 0 ≤ 1300) : LB N a d :=
  LM_LB h (WF_z hw ht) h3 (fun m _ => by have := stg_le (R := R) (m := m); omega) ⟨hb.2.1, hb.2.2.2⟩
section Lu
variable {Z : aZ} {L : Nat → Nat → Int64} {u : Nat × Nat} {B : Nat → Nat} {o y : Nat}
theorem lz_eloop {x : Int32} {a14 a15 a16 a17 a18 a19 : Option Value} (hA : LA Z y (y + 1) (y + 2) (y + 3)) (hD : LD y (y + 1) (y + 2) (y + 3)) : ∀ (n k last : Nat) (N : Nat → Nat → Nat) (R : aY) (q : List Nat), k + n = 300 → LM N y (y + 1) (y + 2) (y + 3) R (stg R) B o → WF R q → LS3 R → BK q B o → R 0 0 + n ≤ 1300 → last < 4294967296 →
    ∃ N' last' k', ex 109 56 [some (.ref 0), some (.int x), some (.ref 144), some (.ref 145), some (.ref 146), some (.ref 149), some (.ref 150), some (.ref 151), some (.ref y), some (.ref (y + 1)), some (.ref (y + 2)), some (.ref (y + 3)), some (.int (nI (last))), some (.int (nI (k))), a14, a15, a16, a17, a18, a19] [] (Z, iN N, L, u) = ex 109 106 [some (.ref 0), some (.int x), some (.ref 144), some (.ref 145), some (.ref 146), some (.ref 149), some (.ref 150), some (.ref 151), some (.ref y), some (.ref (y + 1)), some (.ref (y + 2)), some (.ref (y + 3)), some (.int (nI (last'))), some (.int (nI (k'))), a14, a15, a16, a17, a18, a19] [] (Z, iN N', L, u) ∧ (if lOp N' y (y + 3) 12 = true then 4294967295 else last') = aEn n last (R, q) ∧ (∀ a, a ≠ y → a ≠ y + 1 → a ≠ y + 2 → a ≠ y + 3 → N' a = N a) ∧ LB N' y (y + 3) ∧ last' < 4294967296
  | 0, k, last, N, R, q, e, h, hw, h3, hb, ht, hl => by
    have ek : k = 300 := by omega
    subst ek
    have ho := lOp_q h hw h3
    refine ⟨N, last, 300, ?_, ?_, fun _ _ _ _ _ => rfl, LM_bd h hw h3 hb (by omega), hl⟩
    · rw [r_L_ahead_56]
      simp (disch := omega) only [r_L_ahead_58, r_L_ahead_61, up2_o, up2_e, iN_ap, iN_up, i_ix, i_inb, i_lt, i_lt0, i_0lt, i_eq, i_ne0, i_00, i_11, i_01, i_10, i_b, i_rem2, n_rem, i_add, i_mul, i_sub, i_div, i_max, i_min, rdk_0, rdk_3, kp_none, kp_int, kp_ref, kp_long, kp_double, aK_v, aK_0, aK_ite, if_true, if_false, and_self, and_true, true_and, or_false, false_or, not_true_eq_false, not_false_eq_true, ite_self, ↓reduceIte, eq_self, Bool.false_eq_true, Nat.lt_irrefl]
    · unfold aEn
      by_cases z : 0 < q.length
      · rw [if_pos (ho.mpr z), if_pos z]
      · rw [if_neg (fun w => z (ho.mp w)), if_neg z]
  | n + 1, k, last, N, R, q, e, h, hw, h3, hb, ht, hl => by
    have hk : k < 300 := by omega
    have ho := lOp_q h hw h3
    have hB := LM_bd h hw h3 hb (by omega)
    have hop := lz_open (L := L) (u := u) hA hB
    by_cases z : 0 < q.length
    · have z2 := ho.mpr z
      obtain ⟨N1, d1, d2, d3⟩ := lz_day (L := L) (u := u) hA hD h hw h3 hb (by omega)
      obtain ⟨w1, w2, -⟩ := WF_P (s := (R, q)) hw (by dsimp only; omega)
      have e2 : (aP (R, q)).2 = aQ q R := aP_2
      have hb2 : BK (aP (R, q)).2 B o := by rw [e2]; exact BK_sub hb (aQ_sub q R)
      have hc1 : N1 (y + 3) 1 = R 0 0 + 1 := by rw [d2.1.2.1]; exact w2
      have hlen : q.length - (aQ q R).length < 2147483648 := by have := WF_len hw; omega
      obtain ⟨N', last', k', i1, i2, i3, i4, i5⟩ := lz_eloop (x := x) (a14 := a14) (a15 := a15) (a16 := a16) (a17 := a17) (a18 := a18) (a19 := a19) hA hD n (k + 1) (if 0 < q.length - (aQ q R).length then R 0 0 + 1 - 1 else last) N1 (aP (R, q)).1 (aP (R, q)).2 (by omega) d2 w1 (LS3_P h3) hb2 (by rw [w2]; dsimp only; omega) (by split <;> omega)
      refine ⟨N', last', k', ?_, ?_, fun a a1 a2 a3 a4 => (i3 a a1 a2 a3 a4).trans (d3 a a1 a2 a3 a4), i4, i5⟩
      · rw [← i1, r_L_ahead_56]
        by_cases w : 0 < q.length - (aQ q R).length
        · rw [if_pos w]
          simp (disch := omega) only [r_L_ahead_58, r_L_ahead_61, r_L_ahead_64, r_L_ahead_66, r_L_ahead_68, r_L_ahead_71, r_L_ahead_74, r_L_ahead_76, r_L_ahead_78, r_L_ahead_80, r_L_ahead_82, r_L_ahead_84, r_L_ahead_86, r_L_ahead_89, r_L_ahead_92, r_L_ahead_94, r_L_ahead_95, r_L_ahead_96, r_L_ahead_97, r_L_ahead_98, r_L_ahead_100, r_L_ahead_103, up2_o, up2_e, iN_ap, iN_up, i_ix, i_inb, i_lt, i_lt0, i_0lt, i_eq, i_ne0, i_00, i_11, i_01, i_10, i_b, i_rem2, n_rem, i_add, i_mul, i_sub, i_div, i_max, i_min, rdk_0, rdk_3, kp_none, kp_int, kp_ref, kp_long, kp_double, aK_v, aK_0, aK_ite, if_true, if_false, and_self, and_true, true_and, or_false, false_or, not_true_eq_false, not_false_eq_true, ite_self, ↓reduceIte, eq_self, Bool.false_eq_true, hA.1.1, hA.1.2, hA.2.1.1, hA.2.1.2, hA.2.2.1.1, hA.2.2.1.2, hA.2.2.2.1.1, hA.2.2.2.1.2, hA.2.2.2.2.1.1, hA.2.2.2.2.1.2, hA.2.2.2.2.2.1, hA.2.2.2.2.2.2, kp_int, kp_ref, hk, hop, z2, d1, w, hc1]
        · rw [if_neg w]
          simp (disch := omega) only [r_L_ahead_58, r_L_ahead_61, r_L_ahead_64, r_L_ahead_66, r_L_ahead_68, r_L_ahead_71, r_L_ahead_74, r_L_ahead_76, r_L_ahead_78, r_L_ahead_80, r_L_ahead_82, r_L_ahead_84, r_L_ahead_86, r_L_ahead_89, r_L_ahead_92, r_L_ahead_94, r_L_ahead_95, r_L_ahead_96, r_L_ahead_97, r_L_ahead_98, r_L_ahead_100, r_L_ahead_103, up2_o, up2_e, iN_ap, iN_up, i_ix, i_inb, i_lt, i_lt0, i_0lt, i_eq, i_ne0, i_00, i_11, i_01, i_10, i_b, i_rem2, n_rem, i_add, i_mul, i_sub, i_div, i_max, i_min, rdk_0, rdk_3, kp_none, kp_int, kp_ref, kp_long, kp_double, aK_v, aK_0, aK_ite, if_true, if_false, and_self, and_true, true_and, or_false, false_or, not_true_eq_false, not_false_eq_true, ite_self, ↓reduceIte, eq_self, Bool.false_eq_true, hA.1.1, hA.1.2, hA.2.1.1, hA.2.1.2, hA.2.2.1.1, hA.2.2.1.2, hA.2.2.2.1.1, hA.2.2.2.1.2, hA.2.2.2.2.1.1, hA.2.2.2.2.1.2, hA.2.2.2.2.2.1, hA.2.2.2.2.2.2, kp_int, kp_ref, hk, hop, z2, d1, w]
      · rw [i2]
        show _ = if 0 < q.length then aEn n (if 0 < q.length - (aP (R, q)).2.length then (aP (R, q)).1 0 0 - 1 else last) (aP (R, q)) else last
        rw [if_pos z, w2, e2, ← e2]
    · have z2 : ¬ lOp N y (y + 3) 12 = true := fun w => z (ho.mp w)
      refine ⟨N, last, k, ?_, ?_, fun _ _ _ _ _ => rfl, hB, hl⟩
      · rw [r_L_ahead_56]
        simp (disch := omega) only [r_L_ahead_58, r_L_ahead_61, r_L_ahead_64, r_L_ahead_66, r_L_ahead_68, r_L_ahead_71, up2_o, up2_e, iN_ap, iN_up, i_ix, i_inb, i_lt, i_lt0, i_0lt, i_eq, i_ne0, i_00, i_11, i_01, i_10, i_b, i_rem2, n_rem, i_add, i_mul, i_sub, i_div, i_max, i_min, rdk_0, rdk_3, kp_none, kp_int, kp_ref, kp_long, kp_double, aK_v, aK_0, aK_ite, if_true, if_false, and_self, and_true, true_and, or_false, false_or, not_true_eq_false, not_false_eq_true, ite_self, ↓reduceIte, eq_self, Bool.false_eq_true, hA.1.1, hA.1.2, hA.2.1.1, hA.2.1.2, hA.2.2.1.1, hA.2.2.1.2, hA.2.2.2.1.1, hA.2.2.2.1.2, hA.2.2.2.2.1.1, hA.2.2.2.2.1.2, hA.2.2.2.2.2.1, hA.2.2.2.2.2.2, hk, hop, z2]
      · rw [if_neg z2]
        show _ = if 0 < q.length then _ else last
        rw [if_neg z]
theorem aPn_s {n : Nat} {s : aY × List Nat} : aPn (n + 1) s = aPn n (aP s) := rfl
theorem lz_aloop {x z12 : Int32} {d : Nat} {a16 a17 a18 a19 : Option Value} (hd : d ≤ 60) (hA : LA Z y (y + 1) (y + 2) (y + 3)) (hD : LD y (y + 1) (y + 2) (y + 3)) : ∀ (n k all : Nat) (N : Nat → Nat → Nat) (s : aY × List Nat), k + n = d → LM N y (y + 1) (y + 2) (y + 3) s.1 (stg s.1) B o → WF s.1 s.2 → LS3 s.1 → BK s.2 B o → s.1 0 0 + n ≤ 1300 →
    ∃ N', ex 109 173 [some (.ref 0), some (.int x), some (.ref 144), some (.ref 145), some (.ref 146), some (.ref 149), some (.ref 150), some (.ref 151), some (.ref y), some (.ref (y + 1)), some (.ref (y + 2)), some (.ref (y + 3)), some (.int z12), some (.int (nI (d))), some (.int (nI (all))), some (.int (nI (k))), a16, a17, a18, a19] [] (Z, iN N, L, u) = ex 109 206 [some (.ref 0), some (.int x), some (.ref 144), some (.ref 145), some (.ref 146), some (.ref 149), some (.ref 150), some (.ref 151), some (.ref y), some (.ref (y + 1)), some (.ref (y + 2)), some (.ref (y + 3)), some (.int z12), some (.int (nI (d))), some (.int (nI (all + (s.2.length - (aPn n s).2.length)))), some (.int (nI (d))), a16, a17, a18, a19] [] (Z, iN N', L, u) ∧ LM N' y (y + 1) (y + 2) (y + 3) (aPn n s).1 (stg (aPn n s).1) B o ∧ (∀ a, a ≠ y → a ≠ y + 1 → a ≠ y + 2 → a ≠ y + 3 → N' a = N a)
  | 0, k, all, N, s, e, h, hw, h3, hb, ht => by
    have ek : k = d := by omega
    subst ek
    refine ⟨N, ?_, h, fun _ _ _ _ _ => rfl⟩
    have e0 : all + (s.2.length - (aPn 0 s).2.length) = all := by show all + (s.2.length - s.2.length) = all; omega
    rw [e0, r_L_ahead_173]
    simp (disch := omega) only [r_L_ahead_175, r_L_ahead_177, up2_o, up2_e, iN_ap, iN_up, i_ix, i_inb, i_lt, i_lt0, i_0lt, i_eq, i_ne0, i_00, i_11, i_01, i_10, i_b, i_rem2, n_rem, i_add, i_mul, i_sub, i_div, i_max, i_min, rdk_0, rdk_3, kp_none, kp_int, kp_ref, kp_long, kp_double, aK_v, aK_0, aK_ite, if_true, if_false, and_self, and_true, true_and, or_false, false_or, not_true_eq_false, not_false_eq_true, ite_self, ↓reduceIte, eq_self, Bool.false_eq_true, Nat.lt_irrefl]
  | n + 1, k, all, N, s, e, h, hw, h3, hb, ht => by
    have hk : k < d := by omega
    obtain ⟨N1, d1, d2, d3⟩ := lz_day (L := L) (u := u) hA hD h hw h3 hb (by omega)
    obtain ⟨w1, w2, -⟩ := WF_P (s := s) hw (by omega)
    have e2 : (aP s).2 = aQ s.2 s.1 := aP_2
    have hb2 : BK (aP s).2 B o := by rw [e2]; exact BK_sub hb (aQ_sub s.2 s.1)
    have l1 := (aQ_sub s.2 s.1).length_le
    have l2 := aPn_len n (aP s)
    rw [e2] at l2
    obtain ⟨N', i1, i2, i3⟩ := lz_aloop (x := x) (z12 := z12) (a16 := a16) (a17 := a17) (a18 := a18) (a19 := a19) hd hA hD n (k + 1) (all + (s.2.length - (aQ s.2 s.1).length)) N1 (aP s) (by omega) d2 w1 (LS3_P h3) hb2 (by rw [w2]; omega)
    rw [aPn_s]
    rw [e2, show all + (s.2.length - (aQ s.2 s.1).length) + ((aQ s.2 s.1).length - (aPn n (aP s)).2.length) = all + (s.2.length - (aPn n (aP s)).2.length) by omega] at i1
    refine ⟨N', ?_, i2, fun a a1 a2 a3 a4 => (i3 a a1 a2 a3 a4).trans (d3 a a1 a2 a3 a4)⟩
    rw [← i1, r_L_ahead_173]
    simp (disch := omega) only [r_L_ahead_175, r_L_ahead_177, r_L_ahead_180, r_L_ahead_182, r_L_ahead_184, r_L_ahead_186, r_L_ahead_188, r_L_ahead_190, r_L_ahead_192, r_L_ahead_194, r_L_ahead_197, r_L_ahead_198, r_L_ahead_200, r_L_ahead_203, up2_o, up2_e, iN_ap, iN_up, i_ix, i_inb, i_lt, i_lt0, i_0lt, i_eq, i_ne0, i_00, i_11, i_01, i_10, i_b, i_rem2, n_rem, i_add, i_mul, i_sub, i_div, i_max, i_min, rdk_0, rdk_3, kp_none, kp_int, kp_ref, kp_long, kp_double, aK_v, aK_0, aK_ite, if_true, if_false, and_self, and_true, true_and, or_false, false_or, not_true_eq_false, not_false_eq_true, ite_self, ↓reduceIte, eq_self, Bool.false_eq_true, kp_int, hk, d1]
end Lu
