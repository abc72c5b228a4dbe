/-! the reference: unbook, set, pass, undo -/
section Mu
variable {Z : aZ} {N : Nat → Nat → Nat} {L : Nat → Nat → Int64} {c : Nat × Nat}
theorem s_mUnbook {S : aSt} {g h : Nat} (hM : MAt Z) (hO : MO N S g) (hh : h < 4294967296) :
    MR Z L c N g (ex 129 0 [some (.ref 144), some (.int (nI h)), none, none] [] (Z, iN N, L, c)) (oUnb S h) := by
  obtain ⟨⟨R, q⟩, sv, tx⟩ := S
  obtain ⟨N0, hN0⟩ : ∃ N0, N0 = up2 N 144 11 0 := ⟨_, rfl⟩
  have hO0 := MO_thr (j := 11) (v := 0) hO (by omega)
  have hF := fun k => MR_fail (Z := Z) (L := L) (c := c) (k := k) hO
  rw [← hN0] at hO0 hF
  obtain ⟨B, o, hk, hog⟩ := MK_of hO0
  have r0 := hk.2.1.1.1.1
  unfold oUnb
  dsimp only at r0 hk ⊢
  have kh := k_isHouse (L := L) (c := c) hM hk hh
  rw [r_X8_unbook_0, r_X8_unbook_1, r_X8_unbook_2, if_pos hM.1.1, iN_up, ← hN0]
  by_cases q1 : h < R 0 1
  · have hh6 : h < 6 := by omega
    have hh1 := hk.2.1.2.1 h hh6
    rw [if_neg (not_not_intro q1)]
    by_cases q2 : R 4 h ≤ R 5 h
    · rw [if_pos q2]
      have e2 : (nI (R 4 h) = nI (R 5 h)) = True := eq_true (by rw [show R 4 h = R 5 h by omega])
      simp (disch := omega) only [r_X8_unbook_5, r_X8_unbook_6, r_X8_unbook_7, r_X8_unbook_10, r_X8_unbook_13, r_X8_unbook_14, r_X8_unbook_15, r_X8_unbook_18, r_X8_unbook_19, r_X8_unbook_20, r_X8_unbook_21, r_X8_unbook_22, r_X8_unbook_25, r_X8_unbook_26, r_X8_unbook_27, r_X8_unbook_28, r_X8_unbook_31, r_X8_unbook_34, r_X8_unbook_35, r_X8_unbook_36, r_X8_unbook_39, r_X8_unbook_40, r_X8_unbook_41, r_X8_unbook_44, r_X8_unbook_45, r_X8_unbook_46, r_X8_unbook_47, r_X8_unbook_48, r_X8_unbook_51, r_X8_unbook_52, r_X8_unbook_53, r_X8_unbook_56, r_X8_unbook_57, r_X8_unbook_58, r_X8_unbook_59, r_X8_unbook_60, r_X8_unbook_63, r_X8_unbook_64, r_X8_unbook_65, r_X8_unbook_66, r_X8_unbook_67, r_X8_unbook_68, r_X8_unbook_71, r_X8_unbook_72, r_X8_unbook_73, r_X8_unbook_74, r_X8_unbook_75, r_X8_unbook_78, r_X8_unbook_79, hM.1.1, @id (Z.2.2.1 144 0 = .ref 145) hM.1.2.1, @id (Z.2.2.1 144 1 = .ref 146) hM.1.2.2.1, @id (Z.2.2.1 144 2 = .ref 147) hM.1.2.2.2.1, @id (Z.2.2.1 144 3 = .ref 148) hM.1.2.2.2.2.1, @id (Z.2.2.1 144 4 = .ref 149) hM.1.2.2.2.2.2.1, @id (Z.2.2.1 144 5 = .ref 150) hM.1.2.2.2.2.2.2.1, @id (Z.2.2.1 144 6 = .ref 151) hM.1.2.2.2.2.2.2.2, @id (Z.1 145 = 0) hM.2.1.1, @id (Z.1 146 = 0) hM.2.1.2.1, @id (Z.1 147 = 0) hM.2.1.2.2.1, @id (Z.1 148 = 0) hM.2.1.2.2.2.1, @id (Z.1 149 = 0) hM.2.1.2.2.2.2.1, @id (Z.1 150 = 0) hM.2.1.2.2.2.2.2.1, @id (Z.1 151 = 0) hM.2.1.2.2.2.2.2.2, @id (Z.2.1 145 = 667) hM.2.2.1, @id (Z.2.1 146 = 667) hM.2.2.2.1, @id (Z.2.1 147 = 4002) hM.2.2.2.2.1, @id (Z.2.1 148 = 60) hM.2.2.2.2.2.1, @id (Z.2.1 149 = 32) hM.2.2.2.2.2.2.1, @id (Z.2.1 150 = 32) hM.2.2.2.2.2.2.2.1, @id (Z.2.1 151 = 36) hM.2.2.2.2.2.2.2.2, up2_o, up2_e, iN_ap, iN_up, i_ix, i_inb, i_lt, i_lt0, i_0lt, i_eq, i_ne0, i_00, i_11, i_01, i_10, i_b, i_rem2, n_rem, i_add, i_mul, i_sub, i_div, i_max, i_min, rdk_0, rdk_3, kp_none, kp_int, kp_ref, kp_long, kp_double, aK_v, aK_0, aK_ite, if_true, if_false, and_self, and_true, true_and, or_false, false_or, not_true_eq_false, not_false_eq_true, ite_self, ↓reduceIte, kh, q1, k_in1 hM hk hh6, k_in2 hM hk hh6, e2, s_mFails hM]
      exact hF 2
    · rw [if_neg q2]
      have e2 : (nI (R 4 h) = nI (R 5 h)) = False := by rw [i_eq (by omega) (by omega)]; exact eq_false (by omega)
      obtain ⟨N1, s1, s2, s3, s4⟩ := s_mSave (L := L) (c := c) hM hO0.1 hO.2.2.2.1
      have hk1 := MK_145 (N' := N1) hk (s4 145 (by omega) (by omega))
      obtain ⟨p, hp⟩ : ∃ p, p = 6 * h + (R 4 h - 1) := ⟨_, rfl⟩
      have hp36 : p < 36 := by omega
      have hat := s_mAt (h := h) (k := R 4 h - 1) (x := (Z, iN N1, L, c))
      rw [← hp] at hat ⊢
      have l2 := fun M v => s_mLay (N := M) (L := L) (c := c) (v := v) hM (show 91 + 16 * p + 2 < 667 by omega)
      have l3 := fun M v => s_mLay (N := M) (L := L) (c := c) (v := v) hM (show 91 + 16 * p + 3 < 667 by omega)
      have o3 := s_mOf (N := N1) (L := L) (c := c) hM (show 91 + 16 * p + 3 < 667 by omega)
      have ev : zo (N1 145) p 3 = R 8 p := by
        rw [(hk1.1.2.2.2.2.2.1 p hp36).2.2.2.1]
        unfold zOn
        rw [if_neg (by rw [show p / 6 = h by omega]; omega)]
      rw [ev] at o3
      have hb := MZ_unbook hk1.1 hp36 (by rw [show p / 6 = h by omega]; omega) (by rw [show p / 6 = h by omega]; omega)
      refine ⟨ubW N1 p, ?_, ?_, ?_, fun a ha => ?_⟩
      · unfold ubW
        simp (disch := omega) only [r_X8_unbook_5, r_X8_unbook_6, r_X8_unbook_7, r_X8_unbook_10, r_X8_unbook_13, r_X8_unbook_14, r_X8_unbook_15, r_X8_unbook_18, r_X8_unbook_19, r_X8_unbook_20, r_X8_unbook_21, r_X8_unbook_22, r_X8_unbook_25, r_X8_unbook_26, r_X8_unbook_27, r_X8_unbook_28, r_X8_unbook_31, r_X8_unbook_34, r_X8_unbook_35, r_X8_unbook_36, r_X8_unbook_39, r_X8_unbook_40, r_X8_unbook_41, r_X8_unbook_44, r_X8_unbook_45, r_X8_unbook_46, r_X8_unbook_47, r_X8_unbook_48, r_X8_unbook_51, r_X8_unbook_52, r_X8_unbook_53, r_X8_unbook_56, r_X8_unbook_57, r_X8_unbook_58, r_X8_unbook_59, r_X8_unbook_60, r_X8_unbook_63, r_X8_unbook_64, r_X8_unbook_65, r_X8_unbook_66, r_X8_unbook_67, r_X8_unbook_68, r_X8_unbook_71, r_X8_unbook_72, r_X8_unbook_73, r_X8_unbook_74, r_X8_unbook_75, r_X8_unbook_78, r_X8_unbook_79, hM.1.1, @id (Z.2.2.1 144 0 = .ref 145) hM.1.2.1, @id (Z.2.2.1 144 1 = .ref 146) hM.1.2.2.1, @id (Z.2.2.1 144 2 = .ref 147) hM.1.2.2.2.1, @id (Z.2.2.1 144 3 = .ref 148) hM.1.2.2.2.2.1, @id (Z.2.2.1 144 4 = .ref 149) hM.1.2.2.2.2.2.1, @id (Z.2.2.1 144 5 = .ref 150) hM.1.2.2.2.2.2.2.1, @id (Z.2.2.1 144 6 = .ref 151) hM.1.2.2.2.2.2.2.2, @id (Z.1 145 = 0) hM.2.1.1, @id (Z.1 146 = 0) hM.2.1.2.1, @id (Z.1 147 = 0) hM.2.1.2.2.1, @id (Z.1 148 = 0) hM.2.1.2.2.2.1, @id (Z.1 149 = 0) hM.2.1.2.2.2.2.1, @id (Z.1 150 = 0) hM.2.1.2.2.2.2.2.1, @id (Z.1 151 = 0) hM.2.1.2.2.2.2.2.2, @id (Z.2.1 145 = 667) hM.2.2.1, @id (Z.2.1 146 = 667) hM.2.2.2.1, @id (Z.2.1 147 = 4002) hM.2.2.2.2.1, @id (Z.2.1 148 = 60) hM.2.2.2.2.2.1, @id (Z.2.1 149 = 32) hM.2.2.2.2.2.2.1, @id (Z.2.1 150 = 32) hM.2.2.2.2.2.2.2.1, @id (Z.2.1 151 = 36) hM.2.2.2.2.2.2.2.2, up2_o, up2_e, iN_ap, iN_up, i_ix, i_inb, i_lt, i_lt0, i_0lt, i_eq, i_ne0, i_00, i_11, i_01, i_10, i_b, i_rem2, n_rem, i_add, i_mul, i_sub, i_div, i_max, i_min, rdk_0, rdk_3, kp_none, kp_int, kp_ref, kp_long, kp_double, aK_v, aK_0, aK_ite, if_true, if_false, and_self, and_true, true_and, or_false, false_or, not_true_eq_false, not_false_eq_true, ite_self, ↓reduceIte, kh, q1, k_in1 hM hk hh6, k_in2 hM hk hh6, e2, s1, k_in1 hM hk1 hh6, hat, l2, l3, o3]
      · unfold ubW
        rw [up2_o (by omega), up2_o (by omega), s3 11 (by omega), hN0]
        exact up2_e ⟨rfl, rfl⟩
      · refine MV_up s2 ⟨_, o, hb, BK_sub hk.2.2.1 (List.filter_sublist), by omega⟩ (by omega) ?_ ?_ ?_ ?_
        · unfold ubW
          rw [up145 (by omega), up145 (by omega)]
        · unfold ubW
          rw [up145 (by omega), up145 (by omega)]
        · unfold ubW
          rw [up145 (by omega), up145 (by omega)]
        · unfold ubW
          rw [up145 (by omega), up145 (by omega)]
      · unfold ubW
        rw [up145 (by omega), up145 (by omega), s4 a (by omega) (by omega), hN0, up144 (by omega)]
  · rw [if_pos q1]
    simp (disch := omega) only [r_X8_unbook_5, r_X8_unbook_6, r_X8_unbook_7, r_X8_unbook_10, r_X8_unbook_13, r_X8_unbook_14, r_X8_unbook_15, r_X8_unbook_18, r_X8_unbook_19, r_X8_unbook_20, r_X8_unbook_21, r_X8_unbook_22, r_X8_unbook_25, r_X8_unbook_26, r_X8_unbook_27, r_X8_unbook_28, r_X8_unbook_31, r_X8_unbook_34, r_X8_unbook_35, r_X8_unbook_36, r_X8_unbook_39, r_X8_unbook_40, r_X8_unbook_41, r_X8_unbook_44, r_X8_unbook_45, r_X8_unbook_46, r_X8_unbook_47, r_X8_unbook_48, r_X8_unbook_51, r_X8_unbook_52, r_X8_unbook_53, r_X8_unbook_56, r_X8_unbook_57, r_X8_unbook_58, r_X8_unbook_59, r_X8_unbook_60, r_X8_unbook_63, r_X8_unbook_64, r_X8_unbook_65, r_X8_unbook_66, r_X8_unbook_67, r_X8_unbook_68, r_X8_unbook_71, r_X8_unbook_72, r_X8_unbook_73, r_X8_unbook_74, r_X8_unbook_75, r_X8_unbook_78, r_X8_unbook_79, hM.1.1, @id (Z.2.2.1 144 0 = .ref 145) hM.1.2.1, @id (Z.2.2.1 144 1 = .ref 146) hM.1.2.2.1, @id (Z.2.2.1 144 2 = .ref 147) hM.1.2.2.2.1, @id (Z.2.2.1 144 3 = .ref 148) hM.1.2.2.2.2.1, @id (Z.2.2.1 144 4 = .ref 149) hM.1.2.2.2.2.2.1, @id (Z.2.2.1 144 5 = .ref 150) hM.1.2.2.2.2.2.2.1, @id (Z.2.2.1 144 6 = .ref 151) hM.1.2.2.2.2.2.2.2, @id (Z.1 145 = 0) hM.2.1.1, @id (Z.1 146 = 0) hM.2.1.2.1, @id (Z.1 147 = 0) hM.2.1.2.2.1, @id (Z.1 148 = 0) hM.2.1.2.2.2.1, @id (Z.1 149 = 0) hM.2.1.2.2.2.2.1, @id (Z.1 150 = 0) hM.2.1.2.2.2.2.2.1, @id (Z.1 151 = 0) hM.2.1.2.2.2.2.2.2, @id (Z.2.1 145 = 667) hM.2.2.1, @id (Z.2.1 146 = 667) hM.2.2.2.1, @id (Z.2.1 147 = 4002) hM.2.2.2.2.1, @id (Z.2.1 148 = 60) hM.2.2.2.2.2.1, @id (Z.2.1 149 = 32) hM.2.2.2.2.2.2.1, @id (Z.2.1 150 = 32) hM.2.2.2.2.2.2.2.1, @id (Z.2.1 151 = 36) hM.2.2.2.2.2.2.2.2, up2_o, up2_e, iN_ap, iN_up, i_ix, i_inb, i_lt, i_lt0, i_0lt, i_eq, i_ne0, i_00, i_11, i_01, i_10, i_b, i_rem2, n_rem, i_add, i_mul, i_sub, i_div, i_max, i_min, rdk_0, rdk_3, kp_none, kp_int, kp_ref, kp_long, kp_double, aK_v, aK_0, aK_ite, if_true, if_false, and_self, and_true, true_and, or_false, false_or, not_true_eq_false, not_false_eq_true, ite_self, ↓reduceIte, kh, q1, s_mFails hM]
    exact hF 1
theorem s_mSetg {S : aSt} {g s v : Nat} (hM : MAt Z) (hO : MO N S g) (hs : s < 4294967296) (hv : v < 4294967296) :
    MR Z L c N g (ex 130 0 [some (.ref 144), some (.int (nI s)), some (.int (nI v)), none, none] [] (Z, iN N, L, c)) (oSet S s v) := by
  obtain ⟨⟨R, q⟩, sv, tx⟩ := S
  obtain ⟨N0, hN0⟩ : ∃ N0, N0 = up2 N 144 11 0 := ⟨_, rfl⟩
  have hO0 := MO_thr (j := 11) (v := 0) hO (by omega)
  have hF := fun k => MR_fail (Z := Z) (L := L) (c := c) (k := k) hO
  rw [← hN0] at hO0 hF
  obtain ⟨B, o, hk, hog⟩ := MK_of hO0
  unfold oSet
  dsimp only at hk ⊢
  rw [r_X8_set_0, r_X8_set_1, r_X8_set_2, if_pos hM.1.1, iN_up, ← hN0]
  by_cases q1 : s < 5
  · rw [if_neg (not_not_intro q1)]
    have e1 : ¬ (nI s < nI 0 ∨ nI 4 < nI s) := by
      rw [i_ltU hs (by omega), i_gtU hs (by omega)]
      omega
    have hw : ∀ lo hi : Nat, lo < 2147483648 → hi < 2147483648 → ∀ h : aH, ex 108 0 [some (.int (nI v)), some (.int (nI lo)), some (.int (nI hi))] [] h = some (.inl (some (.int (nI (if v < lo ∨ hi < v then 0 else 1)))), h) := fun lo hi h1 h2 h => by
      rw [s_mWithin]
      have e : (nI v < nI lo ∨ nI hi < nI v) = (v < lo ∨ hi < v) := by
        rw [i_ltU hv h1, i_gtU hv h2]
        exact propext ⟨fun w => by omega, fun w => by omega⟩
      simp only [e]
    obtain ⟨N1, s1, s2, s3, s4⟩ := s_mSave (L := L) (c := c) hM hO0.1 hO.2.2.2.1
    have hk1 := MK_145 (N' := N1) hk (s4 145 (by omega) (by omega))
    have ev : N1 145 (64 + s) = R 2 s := hk1.1.2.2.1 s q1
    have fin : MR Z L c N g (some (.inl (some (.int (nI (R 2 s)))), (Z, iN (up2 N1 145 (64 + s) v), L, c))) (0, R 2 s, (up2 R 2 s v, q), push sv (R, q), tx) := by
      refine ⟨_, rfl, ?_, ?_, fun a ha => ?_⟩
      · rw [up145 (by omega), s3 11 (by omega), hN0]
        exact up2_e ⟨rfl, rfl⟩
      · exact MV_up s2 ⟨_, o, MZ_w2 hk1.1 q1, hk.2.2.1, by omega⟩ (by omega) (by rw [up145 (by omega)]) (by rw [up145 (by omega)]) (up145 (by omega)) (up145 (by omega))
      · rw [up145 (by omega), s4 a (by omega) (by omega), hN0, up144 (by omega)]
    rcases (show s = 0 ∨ s = 1 ∨ s = 2 ∨ s = 3 ∨ s = 4 by omega) with rfl | rfl | rfl | rfl | rfl
    all_goals
      simp only [stLo, stHi, Nat.reduceEqDiff, if_true, if_false, ↓reduceIte]
      split
      · rename_i q2
        simp (disch := omega) only [r_X8_set_5, r_X8_set_6, r_X8_set_7, r_X8_set_8, r_X8_set_11, r_X8_set_14, r_X8_set_15, r_X8_set_16, r_X8_set_19, r_X8_set_20, r_X8_set_21, r_X8_set_24, r_X8_set_25, r_X8_set_26, r_X8_set_27, r_X8_set_30, r_X8_set_33, r_X8_set_34, r_X8_set_35, r_X8_set_38, r_X8_set_39, r_X8_set_40, r_X8_set_42, r_X8_set_45, r_X8_set_48, r_X8_set_49, r_X8_set_50, r_X8_set_53, r_X8_set_54, r_X8_set_55, r_X8_set_57, r_X8_set_60, r_X8_set_63, r_X8_set_64, r_X8_set_65, r_X8_set_67, r_X8_set_70, r_X8_set_71, r_X8_set_72, r_X8_set_75, r_X8_set_76, r_X8_set_77, r_X8_set_80, r_X8_set_81, r_X8_set_82, r_X8_set_85, r_X8_set_86, r_X8_set_89, r_X8_set_91, r_X8_set_92, r_X8_set_93, r_X8_set_94, r_X8_set_96, r_X8_set_97, r_X8_set_100, r_X8_set_102, r_X8_set_103, r_X8_set_104, r_X8_set_105, r_X8_set_106, r_X8_set_108, hM.1.1, @id (Z.2.2.1 144 0 = .ref 145) hM.1.2.1, @id (Z.2.2.1 144 1 = .ref 146) hM.1.2.2.1, @id (Z.2.2.1 144 2 = .ref 147) hM.1.2.2.2.1, @id (Z.2.2.1 144 3 = .ref 148) hM.1.2.2.2.2.1, @id (Z.2.2.1 144 4 = .ref 149) hM.1.2.2.2.2.2.1, @id (Z.2.2.1 144 5 = .ref 150) hM.1.2.2.2.2.2.2.1, @id (Z.2.2.1 144 6 = .ref 151) hM.1.2.2.2.2.2.2.2, @id (Z.1 145 = 0) hM.2.1.1, @id (Z.1 146 = 0) hM.2.1.2.1, @id (Z.1 147 = 0) hM.2.1.2.2.1, @id (Z.1 148 = 0) hM.2.1.2.2.2.1, @id (Z.1 149 = 0) hM.2.1.2.2.2.2.1, @id (Z.1 150 = 0) hM.2.1.2.2.2.2.2.1, @id (Z.1 151 = 0) hM.2.1.2.2.2.2.2.2, @id (Z.2.1 145 = 667) hM.2.2.1, @id (Z.2.1 146 = 667) hM.2.2.2.1, @id (Z.2.1 147 = 4002) hM.2.2.2.2.1, @id (Z.2.1 148 = 60) hM.2.2.2.2.2.1, @id (Z.2.1 149 = 32) hM.2.2.2.2.2.2.1, @id (Z.2.1 150 = 32) hM.2.2.2.2.2.2.2.1, @id (Z.2.1 151 = 36) hM.2.2.2.2.2.2.2.2, up2_o, up2_e, iN_ap, iN_up, i_ix, i_inb, i_lt, i_lt0, i_0lt, i_eq, i_ne0, i_00, i_11, i_01, i_10, i_b, i_rem2, n_rem, i_add, i_mul, i_sub, i_div, i_max, i_min, rdk_0, rdk_3, kp_none, kp_int, kp_ref, kp_long, kp_double, aK_v, aK_0, aK_ite, if_true, if_false, and_self, and_true, true_and, or_false, false_or, not_true_eq_false, not_false_eq_true, ite_self, ↓reduceIte, s_mWithin0 e1, Nat.reduceEqDiff, hw, q2, s_mFails hM]
        exact hF 2
      · rename_i q2
        simp (disch := omega) only [r_X8_set_5, r_X8_set_6, r_X8_set_7, r_X8_set_8, r_X8_set_11, r_X8_set_14, r_X8_set_15, r_X8_set_16, r_X8_set_19, r_X8_set_20, r_X8_set_21, r_X8_set_24, r_X8_set_25, r_X8_set_26, r_X8_set_27, r_X8_set_30, r_X8_set_33, r_X8_set_34, r_X8_set_35, r_X8_set_38, r_X8_set_39, r_X8_set_40, r_X8_set_42, r_X8_set_45, r_X8_set_48, r_X8_set_49, r_X8_set_50, r_X8_set_53, r_X8_set_54, r_X8_set_55, r_X8_set_57, r_X8_set_60, r_X8_set_63, r_X8_set_64, r_X8_set_65, r_X8_set_67, r_X8_set_70, r_X8_set_71, r_X8_set_72, r_X8_set_75, r_X8_set_76, r_X8_set_77, r_X8_set_80, r_X8_set_81, r_X8_set_82, r_X8_set_85, r_X8_set_86, r_X8_set_89, r_X8_set_91, r_X8_set_92, r_X8_set_93, r_X8_set_94, r_X8_set_96, r_X8_set_97, r_X8_set_100, r_X8_set_102, r_X8_set_103, r_X8_set_104, r_X8_set_105, r_X8_set_106, r_X8_set_108, hM.1.1, @id (Z.2.2.1 144 0 = .ref 145) hM.1.2.1, @id (Z.2.2.1 144 1 = .ref 146) hM.1.2.2.1, @id (Z.2.2.1 144 2 = .ref 147) hM.1.2.2.2.1, @id (Z.2.2.1 144 3 = .ref 148) hM.1.2.2.2.2.1, @id (Z.2.2.1 144 4 = .ref 149) hM.1.2.2.2.2.2.1, @id (Z.2.2.1 144 5 = .ref 150) hM.1.2.2.2.2.2.2.1, @id (Z.2.2.1 144 6 = .ref 151) hM.1.2.2.2.2.2.2.2, @id (Z.1 145 = 0) hM.2.1.1, @id (Z.1 146 = 0) hM.2.1.2.1, @id (Z.1 147 = 0) hM.2.1.2.2.1, @id (Z.1 148 = 0) hM.2.1.2.2.2.1, @id (Z.1 149 = 0) hM.2.1.2.2.2.2.1, @id (Z.1 150 = 0) hM.2.1.2.2.2.2.2.1, @id (Z.1 151 = 0) hM.2.1.2.2.2.2.2.2, @id (Z.2.1 145 = 667) hM.2.2.1, @id (Z.2.1 146 = 667) hM.2.2.2.1, @id (Z.2.1 147 = 4002) hM.2.2.2.2.1, @id (Z.2.1 148 = 60) hM.2.2.2.2.2.1, @id (Z.2.1 149 = 32) hM.2.2.2.2.2.2.1, @id (Z.2.1 150 = 32) hM.2.2.2.2.2.2.2.1, @id (Z.2.1 151 = 36) hM.2.2.2.2.2.2.2.2, up2_o, up2_e, iN_ap, iN_up, i_ix, i_inb, i_lt, i_lt0, i_0lt, i_eq, i_ne0, i_00, i_11, i_01, i_10, i_b, i_rem2, n_rem, i_add, i_mul, i_sub, i_div, i_max, i_min, rdk_0, rdk_3, kp_none, kp_int, kp_ref, kp_long, kp_double, aK_v, aK_0, aK_ite, if_true, if_false, and_self, and_true, true_and, or_false, false_or, not_true_eq_false, not_false_eq_true, ite_self, ↓reduceIte, s_mWithin0 e1, Nat.reduceEqDiff, hw, q2, s1, ev]
        exact fin
  · rw [if_pos q1]
    have e1 : nI s < nI 0 ∨ nI 4 < nI s := by
      rw [i_ltU hs (by omega), i_gtU hs (by omega)]
      omega
    simp (disch := omega) only [r_X8_set_5, r_X8_set_6, r_X8_set_7, r_X8_set_8, r_X8_set_11, r_X8_set_14, r_X8_set_15, r_X8_set_16, r_X8_set_19, r_X8_set_20, r_X8_set_21, r_X8_set_24, r_X8_set_25, r_X8_set_26, r_X8_set_27, r_X8_set_30, r_X8_set_33, r_X8_set_34, r_X8_set_35, r_X8_set_38, r_X8_set_39, r_X8_set_40, r_X8_set_42, r_X8_set_45, r_X8_set_48, r_X8_set_49, r_X8_set_50, r_X8_set_53, r_X8_set_54, r_X8_set_55, r_X8_set_57, r_X8_set_60, r_X8_set_63, r_X8_set_64, r_X8_set_65, r_X8_set_67, r_X8_set_70, r_X8_set_71, r_X8_set_72, r_X8_set_75, r_X8_set_76, r_X8_set_77, r_X8_set_80, r_X8_set_81, r_X8_set_82, r_X8_set_85, r_X8_set_86, r_X8_set_89, r_X8_set_91, r_X8_set_92, r_X8_set_93, r_X8_set_94, r_X8_set_96, r_X8_set_97, r_X8_set_100, r_X8_set_102, r_X8_set_103, r_X8_set_104, r_X8_set_105, r_X8_set_106, r_X8_set_108, hM.1.1, @id (Z.2.2.1 144 0 = .ref 145) hM.1.2.1, @id (Z.2.2.1 144 1 = .ref 146) hM.1.2.2.1, @id (Z.2.2.1 144 2 = .ref 147) hM.1.2.2.2.1, @id (Z.2.2.1 144 3 = .ref 148) hM.1.2.2.2.2.1, @id (Z.2.2.1 144 4 = .ref 149) hM.1.2.2.2.2.2.1, @id (Z.2.2.1 144 5 = .ref 150) hM.1.2.2.2.2.2.2.1, @id (Z.2.2.1 144 6 = .ref 151) hM.1.2.2.2.2.2.2.2, @id (Z.1 145 = 0) hM.2.1.1, @id (Z.1 146 = 0) hM.2.1.2.1, @id (Z.1 147 = 0) hM.2.1.2.2.1, @id (Z.1 148 = 0) hM.2.1.2.2.2.1, @id (Z.1 149 = 0) hM.2.1.2.2.2.2.1, @id (Z.1 150 = 0) hM.2.1.2.2.2.2.2.1, @id (Z.1 151 = 0) hM.2.1.2.2.2.2.2.2, @id (Z.2.1 145 = 667) hM.2.2.1, @id (Z.2.1 146 = 667) hM.2.2.2.1, @id (Z.2.1 147 = 4002) hM.2.2.2.2.1, @id (Z.2.1 148 = 60) hM.2.2.2.2.2.1, @id (Z.2.1 149 = 32) hM.2.2.2.2.2.2.1, @id (Z.2.1 150 = 32) hM.2.2.2.2.2.2.2.1, @id (Z.2.1 151 = 36) hM.2.2.2.2.2.2.2.2, up2_o, up2_e, iN_ap, iN_up, i_ix, i_inb, i_lt, i_lt0, i_0lt, i_eq, i_ne0, i_00, i_11, i_01, i_10, i_b, i_rem2, n_rem, i_add, i_mul, i_sub, i_div, i_max, i_min, rdk_0, rdk_3, kp_none, kp_int, kp_ref, kp_long, kp_double, aK_v, aK_0, aK_ite, if_true, if_false, and_self, and_true, true_and, or_false, false_or, not_true_eq_false, not_false_eq_true, ite_self, ↓reduceIte, s_mWithin1 e1, s_mFails hM]
    exact hF 1
theorem s_mPass_loop {n : Nat} {B : Nat → Nat} {o : Nat} (hM : MAt Z) (hn : n ≤ 1000) : ∀ (k i s : Nat) (N : Nat → Nat → Nat) (S : aY × List Nat), i + k = n → MK N S.1 S.2 B o → S.1 0 0 + k ≤ 1300 →
    ∃ N', ex 137 49 [some (.ref 144), some (.int (nI n)), some (.int (nI s)), some (.int (nI i))] [] (Z, iN N, L, c) = some (.inl (some (.int (nI (s + (S.2.length - (aPn k S).2.length))))), (Z, iN N', L, c)) ∧ MK N' (aPn k S).1 (aPn k S).2 B o ∧ ∀ a, a ≠ 145 → a ≠ 151 → N' a = N a
  | 0, i, s, N, S, hi, h, ht => by
    have e : i = n := by omega
    subst e
    refine ⟨N, ?_, h, fun _ _ _ => rfl⟩
    have e0 : s + (S.2.length - (aPn 0 S).2.length) = s := by
      show s + (S.2.length - S.2.length) = s
      omega
    rw [e0]
    simp (disch := omega) only [r_X8_pass_0, r_X8_pass_1, r_X8_pass_2, r_X8_pass_5, r_X8_pass_6, r_X8_pass_7, r_X8_pass_9, r_X8_pass_12, r_X8_pass_15, r_X8_pass_16, r_X8_pass_17, r_X8_pass_20, r_X8_pass_21, r_X8_pass_22, r_X8_pass_25, r_X8_pass_26, r_X8_pass_27, r_X8_pass_28, r_X8_pass_29, r_X8_pass_32, r_X8_pass_35, r_X8_pass_36, r_X8_pass_37, r_X8_pass_40, r_X8_pass_41, r_X8_pass_42, r_X8_pass_45, r_X8_pass_46, r_X8_pass_47, r_X8_pass_48, r_X8_pass_49, r_X8_pass_50, r_X8_pass_51, r_X8_pass_54, r_X8_pass_55, r_X8_pass_56, r_X8_pass_59, r_X8_pass_60, r_X8_pass_61, r_X8_pass_64, r_X8_pass_67, r_X8_pass_68, up2_o, up2_e, iN_ap, iN_up, i_ix, i_inb, i_lt, i_lt0, i_0lt, i_eq, i_ne0, i_00, i_11, i_01, i_10, i_b, i_rem2, n_rem, i_add, i_mul, i_sub, i_div, i_max, i_min, rdk_0, rdk_3, kp_none, kp_int, kp_ref, kp_long, kp_double, aK_v, aK_0, aK_ite, if_true, if_false, and_self, and_true, true_and, or_false, false_or, not_true_eq_false, not_false_eq_true, ite_self, ↓reduceIte, Nat.lt_irrefl]
  | k + 1, i, s, N, S, hi, h, ht => by
    have e : i < n := by omega
    obtain ⟨R, qq⟩ := S
    obtain ⟨N1, p1, p2, p3⟩ := s_mPassDay (L := L) (c := c) hM h.1 h.2.1 h.2.2.1 (show R 0 0 + 1 ≤ 1300 by dsimp only at ht; omega)
    obtain ⟨w1, w2, -⟩ := WF_P (s := (R, qq)) h.2.1 (by dsimp only at ht ⊢; omega)
    have hb : BK (aP (R, qq)).2 B o := by rw [aP_2]; exact BK_sub h.2.2.1 (aQ_sub _ _)
    have hk : MK N1 (aP (R, qq)).1 (aP (R, qq)).2 B o := ⟨p2, w1, hb, by rw [w2]; dsimp only at ht ⊢; omega⟩
    obtain ⟨N', ih, h2, h3⟩ := s_mPass_loop hM hn k (i + 1) (s + (qq.length - (aQ qq R).length)) N1 (aP (R, qq)) (by omega) hk (by rw [w2]; dsimp only at ht ⊢; omega)
    refine ⟨N', ?_, h2, fun a h1 h2 => by rw [h3 a h1 h2, p3 a h1 h2]⟩
    have l1 := aPn_len k (aP (R, qq))
    have l2 := (aQ_sub qq R).length_le
    rw [aP_2] at ih l1
    dsimp only at l1 ih
    have e0 : s + (qq.length - (aQ qq R).length) + ((aQ qq R).length - (aPn k (aP (R, qq))).2.length) = s + (qq.length - (aPn (k + 1) (R, qq)).2.length) := by
      show _ = s + (qq.length - (aPn k (aP (R, qq))).2.length)
      omega
    rw [e0] at ih
    rw [r_X8_pass_49]
    simp (disch := omega) only [r_X8_pass_50, r_X8_pass_51, r_X8_pass_54, r_X8_pass_55, r_X8_pass_56, r_X8_pass_59, r_X8_pass_60, r_X8_pass_61, r_X8_pass_64, hM.1.1, @id (Z.2.2.1 144 0 = .ref 145) hM.1.2.1, @id (Z.2.2.1 144 1 = .ref 146) hM.1.2.2.1, @id (Z.2.2.1 144 2 = .ref 147) hM.1.2.2.2.1, @id (Z.2.2.1 144 3 = .ref 148) hM.1.2.2.2.2.1, @id (Z.2.2.1 144 4 = .ref 149) hM.1.2.2.2.2.2.1, @id (Z.2.2.1 144 5 = .ref 150) hM.1.2.2.2.2.2.2.1, @id (Z.2.2.1 144 6 = .ref 151) hM.1.2.2.2.2.2.2.2, @id (Z.1 145 = 0) hM.2.1.1, @id (Z.1 146 = 0) hM.2.1.2.1, @id (Z.1 147 = 0) hM.2.1.2.2.1, @id (Z.1 148 = 0) hM.2.1.2.2.2.1, @id (Z.1 149 = 0) hM.2.1.2.2.2.2.1, @id (Z.1 150 = 0) hM.2.1.2.2.2.2.2.1, @id (Z.1 151 = 0) hM.2.1.2.2.2.2.2.2, @id (Z.2.1 145 = 667) hM.2.2.1, @id (Z.2.1 146 = 667) hM.2.2.2.1, @id (Z.2.1 147 = 4002) hM.2.2.2.2.1, @id (Z.2.1 148 = 60) hM.2.2.2.2.2.1, @id (Z.2.1 149 = 32) hM.2.2.2.2.2.2.1, @id (Z.2.1 150 = 32) hM.2.2.2.2.2.2.2.1, @id (Z.2.1 151 = 36) hM.2.2.2.2.2.2.2.2, up2_o, up2_e, iN_ap, iN_up, i_ix, i_inb, i_lt, i_lt0, i_0lt, i_eq, i_ne0, i_00, i_11, i_01, i_10, i_b, i_rem2, n_rem, i_add, i_mul, i_sub, i_div, i_max, i_min, rdk_0, rdk_3, kp_none, kp_int, kp_ref, kp_long, kp_double, aK_v, aK_0, aK_ite, if_true, if_false, and_self, and_true, true_and, or_false, false_or, not_true_eq_false, not_false_eq_true, ite_self, ↓reduceIte, e, p1, ih]
theorem s_mPass {S : aSt} {g n : Nat} (hM : MAt Z) (hO : MO N S g) (hn : n < 4294967296) :
    MR Z L c N g (ex 137 0 [some (.ref 144), some (.int (nI n)), none, none] [] (Z, iN N, L, c)) (oPass S n) := by
  obtain ⟨⟨R, q⟩, sv, tx⟩ := S
  obtain ⟨N0, hN0⟩ : ∃ N0, N0 = up2 N 144 11 0 := ⟨_, rfl⟩
  have hO0 := MO_thr (j := 11) (v := 0) hO (by omega)
  have hF := fun k => MR_fail (Z := Z) (L := L) (c := c) (k := k) hO
  rw [← hN0] at hO0 hF
  obtain ⟨B, o, hk, hog⟩ := MK_of hO0
  have hdy : N0 145 1 = R 0 0 := hk.1.1.2.1
  have ht : R 0 0 ≤ 1000 := hO.2.2.1
  unfold oPass
  dsimp only at hk ⊢
  rw [r_X8_pass_0, r_X8_pass_1, r_X8_pass_2, if_pos hM.1.1, iN_up, ← hN0]
  by_cases q1 : n < 1 ∨ 60 < n
  · rw [if_pos q1]
    have e1 : nI n < nI 1 ∨ nI 60 < nI n := by
      rw [i_ltU hn (by omega), i_gtU hn (by omega)]
      omega
    simp (disch := omega) only [r_X8_pass_5, r_X8_pass_6, r_X8_pass_7, r_X8_pass_9, r_X8_pass_12, r_X8_pass_15, r_X8_pass_16, r_X8_pass_17, r_X8_pass_20, r_X8_pass_21, r_X8_pass_22, r_X8_pass_25, r_X8_pass_26, r_X8_pass_27, r_X8_pass_28, r_X8_pass_29, r_X8_pass_32, r_X8_pass_35, r_X8_pass_36, r_X8_pass_37, r_X8_pass_40, r_X8_pass_41, r_X8_pass_42, r_X8_pass_45, r_X8_pass_46, r_X8_pass_47, r_X8_pass_48, r_X8_pass_49, r_X8_pass_50, r_X8_pass_51, r_X8_pass_54, r_X8_pass_55, r_X8_pass_56, r_X8_pass_59, r_X8_pass_60, r_X8_pass_61, r_X8_pass_64, r_X8_pass_67, r_X8_pass_68, hM.1.1, @id (Z.2.2.1 144 0 = .ref 145) hM.1.2.1, @id (Z.2.2.1 144 1 = .ref 146) hM.1.2.2.1, @id (Z.2.2.1 144 2 = .ref 147) hM.1.2.2.2.1, @id (Z.2.2.1 144 3 = .ref 148) hM.1.2.2.2.2.1, @id (Z.2.2.1 144 4 = .ref 149) hM.1.2.2.2.2.2.1, @id (Z.2.2.1 144 5 = .ref 150) hM.1.2.2.2.2.2.2.1, @id (Z.2.2.1 144 6 = .ref 151) hM.1.2.2.2.2.2.2.2, @id (Z.1 145 = 0) hM.2.1.1, @id (Z.1 146 = 0) hM.2.1.2.1, @id (Z.1 147 = 0) hM.2.1.2.2.1, @id (Z.1 148 = 0) hM.2.1.2.2.2.1, @id (Z.1 149 = 0) hM.2.1.2.2.2.2.1, @id (Z.1 150 = 0) hM.2.1.2.2.2.2.2.1, @id (Z.1 151 = 0) hM.2.1.2.2.2.2.2.2, @id (Z.2.1 145 = 667) hM.2.2.1, @id (Z.2.1 146 = 667) hM.2.2.2.1, @id (Z.2.1 147 = 4002) hM.2.2.2.2.1, @id (Z.2.1 148 = 60) hM.2.2.2.2.2.1, @id (Z.2.1 149 = 32) hM.2.2.2.2.2.2.1, @id (Z.2.1 150 = 32) hM.2.2.2.2.2.2.2.1, @id (Z.2.1 151 = 36) hM.2.2.2.2.2.2.2.2, up2_o, up2_e, iN_ap, iN_up, i_ix, i_inb, i_lt, i_lt0, i_0lt, i_eq, i_ne0, i_00, i_11, i_01, i_10, i_b, i_rem2, n_rem, i_add, i_mul, i_sub, i_div, i_max, i_min, rdk_0, rdk_3, kp_none, kp_int, kp_ref, kp_long, kp_double, aK_v, aK_0, aK_ite, if_true, if_false, and_self, and_true, true_and, or_false, false_or, not_true_eq_false, not_false_eq_true, ite_self, ↓reduceIte, s_mWithin1 e1, s_mFails hM]
    exact hF 1
  · rw [if_neg q1]
    have e1 : ¬ (nI n < nI 1 ∨ nI 60 < nI n) := by
      rw [i_ltU hn (by omega), i_gtU hn (by omega)]
      omega
    by_cases q2 : 1000 < R 0 0 + n
    · rw [if_pos q2]
      simp (disch := omega) only [r_X8_pass_5, r_X8_pass_6, r_X8_pass_7, r_X8_pass_9, r_X8_pass_12, r_X8_pass_15, r_X8_pass_16, r_X8_pass_17, r_X8_pass_20, r_X8_pass_21, r_X8_pass_22, r_X8_pass_25, r_X8_pass_26, r_X8_pass_27, r_X8_pass_28, r_X8_pass_29, r_X8_pass_32, r_X8_pass_35, r_X8_pass_36, r_X8_pass_37, r_X8_pass_40, r_X8_pass_41, r_X8_pass_42, r_X8_pass_45, r_X8_pass_46, r_X8_pass_47, r_X8_pass_48, r_X8_pass_49, r_X8_pass_50, r_X8_pass_51, r_X8_pass_54, r_X8_pass_55, r_X8_pass_56, r_X8_pass_59, r_X8_pass_60, r_X8_pass_61, r_X8_pass_64, r_X8_pass_67, r_X8_pass_68, hM.1.1, @id (Z.2.2.1 144 0 = .ref 145) hM.1.2.1, @id (Z.2.2.1 144 1 = .ref 146) hM.1.2.2.1, @id (Z.2.2.1 144 2 = .ref 147) hM.1.2.2.2.1, @id (Z.2.2.1 144 3 = .ref 148) hM.1.2.2.2.2.1, @id (Z.2.2.1 144 4 = .ref 149) hM.1.2.2.2.2.2.1, @id (Z.2.2.1 144 5 = .ref 150) hM.1.2.2.2.2.2.2.1, @id (Z.2.2.1 144 6 = .ref 151) hM.1.2.2.2.2.2.2.2, @id (Z.1 145 = 0) hM.2.1.1, @id (Z.1 146 = 0) hM.2.1.2.1, @id (Z.1 147 = 0) hM.2.1.2.2.1, @id (Z.1 148 = 0) hM.2.1.2.2.2.1, @id (Z.1 149 = 0) hM.2.1.2.2.2.2.1, @id (Z.1 150 = 0) hM.2.1.2.2.2.2.2.1, @id (Z.1 151 = 0) hM.2.1.2.2.2.2.2.2, @id (Z.2.1 145 = 667) hM.2.2.1, @id (Z.2.1 146 = 667) hM.2.2.2.1, @id (Z.2.1 147 = 4002) hM.2.2.2.2.1, @id (Z.2.1 148 = 60) hM.2.2.2.2.2.1, @id (Z.2.1 149 = 32) hM.2.2.2.2.2.2.1, @id (Z.2.1 150 = 32) hM.2.2.2.2.2.2.2.1, @id (Z.2.1 151 = 36) hM.2.2.2.2.2.2.2.2, up2_o, up2_e, iN_ap, iN_up, i_ix, i_inb, i_lt, i_lt0, i_0lt, i_eq, i_ne0, i_00, i_11, i_01, i_10, i_b, i_rem2, n_rem, i_add, i_mul, i_sub, i_div, i_max, i_min, rdk_0, rdk_3, kp_none, kp_int, kp_ref, kp_long, kp_double, aK_v, aK_0, aK_ite, if_true, if_false, and_self, and_true, true_and, or_false, false_or, not_true_eq_false, not_false_eq_true, ite_self, ↓reduceIte, s_mWithin0 e1, hdy, q2, s_mFails hM]
      exact hF 2
    · rw [if_neg q2]
      obtain ⟨N1, s1, s2, s3, s4⟩ := s_mSave (L := L) (c := c) hM hO0.1 hO.2.2.2.1
      have hk1 := MK_145 (N' := N1) hk (s4 145 (by omega) (by omega))
      obtain ⟨N2, l1, l2, l3⟩ := s_mPass_loop (L := L) (c := c) hM (show n ≤ 1000 by omega) n 0 0 N1 (R, q) (by omega) hk1 (by dsimp only; omega)
      rw [Nat.zero_add] at l1
      refine ⟨N2, ?_, ?_, ?_, fun a ha => ?_⟩
      · simp (disch := omega) only [r_X8_pass_5, r_X8_pass_6, r_X8_pass_7, r_X8_pass_9, r_X8_pass_12, r_X8_pass_15, r_X8_pass_16, r_X8_pass_17, r_X8_pass_20, r_X8_pass_21, r_X8_pass_22, r_X8_pass_25, r_X8_pass_26, r_X8_pass_27, r_X8_pass_28, r_X8_pass_29, r_X8_pass_32, r_X8_pass_35, r_X8_pass_36, r_X8_pass_37, r_X8_pass_40, r_X8_pass_41, r_X8_pass_42, r_X8_pass_45, r_X8_pass_46, r_X8_pass_47, r_X8_pass_48, hM.1.1, @id (Z.2.2.1 144 0 = .ref 145) hM.1.2.1, @id (Z.2.2.1 144 1 = .ref 146) hM.1.2.2.1, @id (Z.2.2.1 144 2 = .ref 147) hM.1.2.2.2.1, @id (Z.2.2.1 144 3 = .ref 148) hM.1.2.2.2.2.1, @id (Z.2.2.1 144 4 = .ref 149) hM.1.2.2.2.2.2.1, @id (Z.2.2.1 144 5 = .ref 150) hM.1.2.2.2.2.2.2.1, @id (Z.2.2.1 144 6 = .ref 151) hM.1.2.2.2.2.2.2.2, @id (Z.1 145 = 0) hM.2.1.1, @id (Z.1 146 = 0) hM.2.1.2.1, @id (Z.1 147 = 0) hM.2.1.2.2.1, @id (Z.1 148 = 0) hM.2.1.2.2.2.1, @id (Z.1 149 = 0) hM.2.1.2.2.2.2.1, @id (Z.1 150 = 0) hM.2.1.2.2.2.2.2.1, @id (Z.1 151 = 0) hM.2.1.2.2.2.2.2.2, @id (Z.2.1 145 = 667) hM.2.2.1, @id (Z.2.1 146 = 667) hM.2.2.2.1, @id (Z.2.1 147 = 4002) hM.2.2.2.2.1, @id (Z.2.1 148 = 60) hM.2.2.2.2.2.1, @id (Z.2.1 149 = 32) hM.2.2.2.2.2.2.1, @id (Z.2.1 150 = 32) hM.2.2.2.2.2.2.2.1, @id (Z.2.1 151 = 36) hM.2.2.2.2.2.2.2.2, up2_o, up2_e, iN_ap, iN_up, i_ix, i_inb, i_lt, i_lt0, i_0lt, i_eq, i_ne0, i_00, i_11, i_01, i_10, i_b, i_rem2, n_rem, i_add, i_mul, i_sub, i_div, i_max, i_min, rdk_0, rdk_3, kp_none, kp_int, kp_ref, kp_long, kp_double, aK_v, aK_0, aK_ite, if_true, if_false, and_self, and_true, true_and, or_false, false_or, not_true_eq_false, not_false_eq_true, ite_self, ↓reduceIte, s_mWithin0 e1, hdy, q2, s1, l1]
      · rw [l3 144 (by omega) (by omega), s3 11 (by omega), hN0]
        exact up2_e ⟨rfl, rfl⟩
      · exact MV_up s2 ⟨B, o, l2.1, l2.2.2.1, by omega⟩ (by omega) (by rw [l3 144 (by omega) (by omega)]) (by rw [l3 144 (by omega) (by omega)]) (l3 147 (by omega) (by omega)) (l3 148 (by omega) (by omega))
      · rw [l3 a (by omega) (by omega), s4 a (by omega) (by omega), hN0, up144 (by omega)]
theorem s_mUndo {S : aSt} {g : Nat} (hM : MAt Z) (hO : MO N S g) :
    MR Z L c N g (ex 153 0 [some (.ref 144), none] [] (Z, iN N, L, c)) (oUndo S) := by
  obtain ⟨⟨R, q⟩, sv, tx⟩ := S
  obtain ⟨N0, hN0⟩ : ∃ N0, N0 = up2 N 144 11 0 := ⟨_, rfl⟩
  have hO0 := MO_thr (j := 11) (v := 0) hO (by omega)
  have hF := fun k => MR_fail (Z := Z) (L := L) (c := c) (k := k) hO
  rw [← hN0] at hO0 hF
  have h6 : sv.length ≤ 6 := hO.2.2.2.1
  obtain ⟨v1, v2, v3, v4, v5⟩ := hO0.1
  dsimp only at v1 v2 v3 v4 v5
  rw [r_X8_undo_0, r_X8_undo_1, r_X8_undo_2, if_pos hM.1.1, iN_up, ← hN0]
  unfold oUndo
  dsimp only
  cases hl : sv.getLast? with
  | none =>
    have e : sv = [] := List.getLast?_eq_none_iff.mp hl
    subst e
    have e0 : N0 144 9 = 0 := v2
    simp (disch := omega) only [r_X8_undo_5, r_X8_undo_6, r_X8_undo_9, r_X8_undo_12, r_X8_undo_13, r_X8_undo_14, r_X8_undo_17, r_X8_undo_18, r_X8_undo_19, r_X8_undo_20, r_X8_undo_23, r_X8_undo_24, r_X8_undo_25, r_X8_undo_28, r_X8_undo_29, r_X8_undo_30, r_X8_undo_31, r_X8_undo_34, r_X8_undo_37, r_X8_undo_38, r_X8_undo_41, r_X8_undo_42, r_X8_undo_43, r_X8_undo_46, r_X8_undo_49, r_X8_undo_50, r_X8_undo_53, r_X8_undo_54, r_X8_undo_55, r_X8_undo_56, r_X8_undo_57, r_X8_undo_58, r_X8_undo_61, r_X8_undo_64, r_X8_undo_65, r_X8_undo_68, hM.1.1, @id (Z.2.2.1 144 0 = .ref 145) hM.1.2.1, @id (Z.2.2.1 144 1 = .ref 146) hM.1.2.2.1, @id (Z.2.2.1 144 2 = .ref 147) hM.1.2.2.2.1, @id (Z.2.2.1 144 3 = .ref 148) hM.1.2.2.2.2.1, @id (Z.2.2.1 144 4 = .ref 149) hM.1.2.2.2.2.2.1, @id (Z.2.2.1 144 5 = .ref 150) hM.1.2.2.2.2.2.2.1, @id (Z.2.2.1 144 6 = .ref 151) hM.1.2.2.2.2.2.2.2, @id (Z.1 145 = 0) hM.2.1.1, @id (Z.1 146 = 0) hM.2.1.2.1, @id (Z.1 147 = 0) hM.2.1.2.2.1, @id (Z.1 148 = 0) hM.2.1.2.2.2.1, @id (Z.1 149 = 0) hM.2.1.2.2.2.2.1, @id (Z.1 150 = 0) hM.2.1.2.2.2.2.2.1, @id (Z.1 151 = 0) hM.2.1.2.2.2.2.2.2, @id (Z.2.1 145 = 667) hM.2.2.1, @id (Z.2.1 146 = 667) hM.2.2.2.1, @id (Z.2.1 147 = 4002) hM.2.2.2.2.1, @id (Z.2.1 148 = 60) hM.2.2.2.2.2.1, @id (Z.2.1 149 = 32) hM.2.2.2.2.2.2.1, @id (Z.2.1 150 = 32) hM.2.2.2.2.2.2.2.1, @id (Z.2.1 151 = 36) hM.2.2.2.2.2.2.2.2, up2_o, up2_e, iN_ap, iN_up, i_ix, i_inb, i_lt, i_lt0, i_0lt, i_eq, i_ne0, i_00, i_11, i_01, i_10, i_b, i_rem2, n_rem, i_add, i_mul, i_sub, i_div, i_max, i_min, rdk_0, rdk_3, kp_none, kp_int, kp_ref, kp_long, kp_double, aK_v, aK_0, aK_ite, if_true, if_false, and_self, and_true, true_and, or_false, false_or, not_true_eq_false, not_false_eq_true, ite_self, ↓reduceIte, e0, s_mFails hM]
    exact hF 1
  | some s =>
    have hne : sv ≠ [] := fun e => by rw [e] at hl; cases hl
    have hpos : 0 < sv.length := List.length_pos_iff.mpr hne
    have hget : sv[sv.length - 1]? = some s := by rw [← List.getLast?_eq_getElem?]; exact hl
    have q1 : ¬ N0 144 9 = 0 := by omega
    obtain ⟨N2, p1, p2, p3, p4⟩ := s_mUndo_cp (L := L) (c := c) hM (show sv.length - 1 ≤ 5 by omega) 667 0 (up2 N0 144 9 (N0 144 9 - 1)) rfl (by rw [up2_e ⟨rfl, rfl⟩, v2])
    have h29 : N2 144 9 = sv.length - 1 := by rw [p4 144 (by omega), up2_e ⟨rfl, rfl⟩, v2]
    refine ⟨N2, ?_, ?_, ⟨?_, ?_, fun k s' hk => ?_, ?_, ?_⟩, fun a ha => ?_⟩
    · simp (disch := omega) only [r_X8_undo_5, r_X8_undo_6, r_X8_undo_9, r_X8_undo_12, r_X8_undo_13, r_X8_undo_14, r_X8_undo_17, r_X8_undo_18, r_X8_undo_19, r_X8_undo_20, r_X8_undo_23, r_X8_undo_24, r_X8_undo_25, r_X8_undo_28, r_X8_undo_29, hM.1.1, @id (Z.2.2.1 144 0 = .ref 145) hM.1.2.1, @id (Z.2.2.1 144 1 = .ref 146) hM.1.2.2.1, @id (Z.2.2.1 144 2 = .ref 147) hM.1.2.2.2.1, @id (Z.2.2.1 144 3 = .ref 148) hM.1.2.2.2.2.1, @id (Z.2.2.1 144 4 = .ref 149) hM.1.2.2.2.2.2.1, @id (Z.2.2.1 144 5 = .ref 150) hM.1.2.2.2.2.2.2.1, @id (Z.2.2.1 144 6 = .ref 151) hM.1.2.2.2.2.2.2.2, @id (Z.1 145 = 0) hM.2.1.1, @id (Z.1 146 = 0) hM.2.1.2.1, @id (Z.1 147 = 0) hM.2.1.2.2.1, @id (Z.1 148 = 0) hM.2.1.2.2.2.1, @id (Z.1 149 = 0) hM.2.1.2.2.2.2.1, @id (Z.1 150 = 0) hM.2.1.2.2.2.2.2.1, @id (Z.1 151 = 0) hM.2.1.2.2.2.2.2.2, @id (Z.2.1 145 = 667) hM.2.2.1, @id (Z.2.1 146 = 667) hM.2.2.2.1, @id (Z.2.1 147 = 4002) hM.2.2.2.2.1, @id (Z.2.1 148 = 60) hM.2.2.2.2.2.1, @id (Z.2.1 149 = 32) hM.2.2.2.2.2.2.1, @id (Z.2.1 150 = 32) hM.2.2.2.2.2.2.2.1, @id (Z.2.1 151 = 36) hM.2.2.2.2.2.2.2.2, up2_o, up2_e, iN_ap, iN_up, i_ix, i_inb, i_lt, i_lt0, i_0lt, i_eq, i_ne0, i_00, i_11, i_01, i_10, i_b, i_rem2, n_rem, i_add, i_mul, i_sub, i_div, i_max, i_min, rdk_0, rdk_3, kp_none, kp_int, kp_ref, kp_long, kp_double, aK_v, aK_0, aK_ite, if_true, if_false, and_self, and_true, true_and, or_false, false_or, not_true_eq_false, not_false_eq_true, ite_self, ↓reduceIte, i_eq0, q1, p1]
      simp (disch := omega) only [r_X8_undo_64, r_X8_undo_65, r_X8_undo_68, hM.1.1, @id (Z.2.2.1 144 0 = .ref 145) hM.1.2.1, @id (Z.2.2.1 144 1 = .ref 146) hM.1.2.2.1, @id (Z.2.2.1 144 2 = .ref 147) hM.1.2.2.2.1, @id (Z.2.2.1 144 3 = .ref 148) hM.1.2.2.2.2.1, @id (Z.2.2.1 144 4 = .ref 149) hM.1.2.2.2.2.2.1, @id (Z.2.2.1 144 5 = .ref 150) hM.1.2.2.2.2.2.2.1, @id (Z.2.2.1 144 6 = .ref 151) hM.1.2.2.2.2.2.2.2, @id (Z.1 145 = 0) hM.2.1.1, @id (Z.1 146 = 0) hM.2.1.2.1, @id (Z.1 147 = 0) hM.2.1.2.2.1, @id (Z.1 148 = 0) hM.2.1.2.2.2.1, @id (Z.1 149 = 0) hM.2.1.2.2.2.2.1, @id (Z.1 150 = 0) hM.2.1.2.2.2.2.2.1, @id (Z.1 151 = 0) hM.2.1.2.2.2.2.2.2, @id (Z.2.1 145 = 667) hM.2.2.1, @id (Z.2.1 146 = 667) hM.2.2.2.1, @id (Z.2.1 147 = 4002) hM.2.2.2.2.1, @id (Z.2.1 148 = 60) hM.2.2.2.2.2.1, @id (Z.2.1 149 = 32) hM.2.2.2.2.2.2.1, @id (Z.2.1 150 = 32) hM.2.2.2.2.2.2.2.1, @id (Z.2.1 151 = 36) hM.2.2.2.2.2.2.2.2, up2_o, up2_e, iN_ap, iN_up, i_ix, i_inb, i_lt, i_lt0, i_0lt, i_eq, i_ne0, i_00, i_11, i_01, i_10, i_b, i_rem2, n_rem, i_add, i_mul, i_sub, i_div, i_max, i_min, rdk_0, rdk_3, kp_none, kp_int, kp_ref, kp_long, kp_double, aK_v, aK_0, aK_ite, if_true, if_false, and_self, and_true, true_and, or_false, false_or, not_true_eq_false, not_false_eq_true, ite_self, ↓reduceIte, h29]
    · rw [p4 144 (by omega), up2_o (by omega), hN0]
      exact up2_e ⟨rfl, rfl⟩
    · refine MS_le (MS_congr (v3 _ s hget) (fun i hi => ?_)) (by omega)
      rw [p2 i (by omega) hi, up144 (by omega)]
    · rw [h29, List.length_dropLast]
    · have hk2 : sv[k]? = some s' := by
        rw [List.getElem?_dropLast] at hk
        split at hk
        · exact hk
        · cases hk
      refine MS_le (MS_congr (v3 k s' hk2) (fun i hi => ?_)) (by omega)
      show N2 147 _ = _
      rw [p4 147 (by omega), up144 (by omega)]
    · rw [p4 144 (by omega), up2_o (by omega)]
      exact v4
    · rw [p4 148 (by omega), up144 (by omega)]
      exact v5
    · rw [p4 a (by omega), up144 (by omega), hN0, up144 (by omega)]
end Mu
