/-! what is asked, as functions; the reference answers so -/
def oHou (S : aSt) (h w : Nat) : Nat × Nat × aSt := if ¬ h < S.1.1 0 1 then (1, 0, S) else if 6 < w then (2, 0, S) else (0, aHn S.1.1 h w, S)
def oMod (S : aSt) (h k w : Nat) : Nat × Nat × aSt := if ¬ (h < S.1.1 0 1 ∧ k < S.1.1 3 h) then (1, 0, S) else if 8 < w then (2, 0, S) else (0, aMn S.1.1 (6 * h + k) w, S)
def oShr (S : aSt) (h k t w : Nat) : Nat × Nat × aSt := if ¬ ((h < S.1.1 0 1 ∧ k < S.1.1 3 h) ∧ t < 4) then (1, 0, S) else if 1 < w then (2, 0, S) else (0, S.1.1 (if w = 0 then 12 else 13) ((6 * h + k) * 4 + t), S)
def oTrd (S : aSt) (t w : Nat) : Nat × Nat × aSt := if ¬ t < 4 then (1, 0, S) else if 5 < w then (2, 0, S) else (0, aTr S.1.1 t w, S)
def oDay (S : aSt) (d w : Nat) : Nat × Nat × aSt := if 9999 < d ∨ 3 < w then (1, 0, S) else (0, aDn S.1.1 S.1.2 d w, S)
def oCnt (S : aSt) (w : Nat) : Nat × Nat × aSt := if 12 < w then (1, 0, S) else (0, aCn S.1.1 S.1.2 S.2.1.length w, S)
def oStg (S : aSt) (s : Nat) : Nat × Nat × aSt := if ¬ s < 5 then (1, 0, S) else (0, S.1.1 2 s, S)
def oEnd (S : aSt) : Nat × Nat × aSt := (0, aEn 300 4294967295 S.1, S)
def oBst (S : aSt) (h : Nat) : Nat × Nat × aSt := if ¬ h < S.1.1 0 1 then (1, 0, S) else (0, aBs S.1.1 S.1.2 h, S)
def oIfp (S : aSt) (n h : Nat) : Nat × Nat × aSt := if h ≠ 4294967295 ∧ ¬ h < S.1.1 0 1 then (1, 0, S) else if n < 1 ∨ 60 < n then (2, 0, S) else (0, aSn (aPn n S.1).1 h - aSn S.1.1 h, S)
def oWrs (S : aSt) : Nat × Nat × aSt := (0, aWo (fun t => aTr S.1.1 t 2) (fun t => aTr S.1.1 t 3) 4 0 4294967295, S)
section My
variable {Z : aZ} {N : Nat → Nat → Nat} {L : Nat → Nat → Int64} {c : Nat × Nat}
theorem MR_get {S : aSt} {g v : Nat} (hO : MO N S g) : MR Z L c N g (some (.inl (some (.int (nI v))), (Z, iN (up2 N 144 11 0), L, c))) (0, v, S) :=
  ⟨_, rfl, up2_e ⟨rfl, rfl⟩, MV_le (MV_thr hO.1 (by omega)), fun a ha => by rw [up144 (by omega)]⟩
theorem MR_get2 {S : aSt} {g v : Nat} {N0 N1 : Nat → Nat → Nat} (hN0 : N0 = up2 N 144 11 0) (hO : MO N0 S g) (h1 : ∀ j, j < 667 → N1 145 j = N0 145 j) (h2 : ∀ a, a ≠ 145 → a ≠ 146 → a ≠ 151 → N1 a = N0 a) : MR Z L c N g (some (.inl (some (.int (nI v))), (Z, iN N1, L, c))) (0, v, S) :=
  ⟨_, rfl, by rw [h2 144 (by omega) (by omega) (by omega), hN0]; exact up2_e ⟨rfl, rfl⟩, MV_le (MV_up hO.1 (MS_congr hO.1.1 h1) (Nat.le_refl _) (by rw [h2 144 (by omega) (by omega) (by omega)]) (by rw [h2 144 (by omega) (by omega) (by omega)]) (h2 147 (by omega) (by omega) (by omega)) (h2 148 (by omega) (by omega) (by omega))), fun a ha => by rw [h2 a (by omega) (by omega) (by omega), hN0, up144 (by omega)]⟩
theorem s_mHouse {S : aSt} {g h w : Nat} (hM : MAt Z) (hO : MO N S g) (hh : h < 4294967296) (hw : w < 4294967296) :
    MR Z L c N g (ex 156 0 [some (.ref 144), some (.int (nI h)), some (.int (nI w))] [] (Z, iN N, L, c)) (oHou S h w) := by
  obtain ⟨⟨R, q⟩, sv, tx⟩ := S
  have hO0 := MO_thr (j := 11) (v := 0) hO (by omega)
  have hF := fun k => MR_fail (Z := Z) (L := L) (c := c) (k := k) hO
  have hG := fun v => MR_get (Z := Z) (L := L) (c := c) (v := v) hO
  obtain ⟨N0, hN0⟩ : ∃ N0, N0 = up2 N 144 11 0 := ⟨_, rfl⟩
  rw [← hN0] at hO0 hF hG
  obtain ⟨B, o, hk, hog⟩ := MK_of hO0
  have r0 := hk.2.1.1.1.1
  unfold oHou
  dsimp only at r0 hk ⊢
  have kh := k_isHouse (L := L) (c := c) hM hk hh
  have kw := w_v (v := w) (lo := 0) (hi := 6) (h := (Z, iN N0, L, c)) hw (by omega) (by omega)
  rw [r_X8_house_0, r_X8_house_1, r_X8_house_2, if_pos hM.1.1, iN_up, ← hN0]
  by_cases q1 : h < R 0 1
  · rw [if_neg (not_not_intro q1)]
    by_cases q2 : 6 < w
    · rw [if_pos q2]
      rw [if_pos (Or.inr q2)] at kw
      simp (disch := omega) only [r_X8_house_5, r_X8_house_6, r_X8_house_7, r_X8_house_10, r_X8_house_13, r_X8_house_14, r_X8_house_15, r_X8_house_18, r_X8_house_19, r_X8_house_20, r_X8_house_21, r_X8_house_23, r_X8_house_26, r_X8_house_29, r_X8_house_30, r_X8_house_31, r_X8_house_32, r_X8_house_35, r_X8_house_38, r_X8_house_39, r_X8_house_40, r_X8_house_43, hM.1.1, @id (Z.2.2.1 144 0 = .ref 145) hM.1.2.1, @id (Z.2.2.1 144 1 = .ref 146) hM.1.2.2.1, @id (Z.2.2.1 144 2 = .ref 147) hM.1.2.2.2.1, @id (Z.2.2.1 144 3 = .ref 148) hM.1.2.2.2.2.1, @id (Z.2.2.1 144 4 = .ref 149) hM.1.2.2.2.2.2.1, @id (Z.2.2.1 144 5 = .ref 150) hM.1.2.2.2.2.2.2.1, @id (Z.2.2.1 144 6 = .ref 151) hM.1.2.2.2.2.2.2.2, @id (Z.1 145 = 0) hM.2.1.1, @id (Z.1 146 = 0) hM.2.1.2.1, @id (Z.1 147 = 0) hM.2.1.2.2.1, @id (Z.1 148 = 0) hM.2.1.2.2.2.1, @id (Z.1 149 = 0) hM.2.1.2.2.2.2.1, @id (Z.1 150 = 0) hM.2.1.2.2.2.2.2.1, @id (Z.1 151 = 0) hM.2.1.2.2.2.2.2.2, @id (Z.2.1 145 = 667) hM.2.2.1, @id (Z.2.1 146 = 667) hM.2.2.2.1, @id (Z.2.1 147 = 4002) hM.2.2.2.2.1, @id (Z.2.1 148 = 60) hM.2.2.2.2.2.1, @id (Z.2.1 149 = 32) hM.2.2.2.2.2.2.1, @id (Z.2.1 150 = 32) hM.2.2.2.2.2.2.2.1, @id (Z.2.1 151 = 36) hM.2.2.2.2.2.2.2.2, up2_o, up2_e, iN_ap, iN_up, i_ix, i_inb, i_lt, i_lt0, i_0lt, i_eq, i_ne0, i_00, i_11, i_01, i_10, i_b, i_rem2, n_rem, i_add, i_mul, i_sub, i_div, i_max, i_min, rdk_0, rdk_3, kp_none, kp_int, kp_ref, kp_long, kp_double, aK_v, aK_0, aK_ite, if_true, if_false, and_self, and_true, true_and, or_false, false_or, not_true_eq_false, not_false_eq_true, ite_self, ↓reduceIte, kh, q1, kw, s_mFails hM]
      exact hF 2
    · rw [if_neg q2]
      rw [if_neg (by omega)] at kw
      have hn := s_mHouseNow (L := L) (c := c) hM (show h < 6 by omega) (show w < 7 by omega) (MK_Zb hk)
      rw [zHn_R hk.1 hk.2.1 (by omega) (by omega)] at hn
      simp (disch := omega) only [r_X8_house_5, r_X8_house_6, r_X8_house_7, r_X8_house_10, r_X8_house_13, r_X8_house_14, r_X8_house_15, r_X8_house_18, r_X8_house_19, r_X8_house_20, r_X8_house_21, r_X8_house_23, r_X8_house_26, r_X8_house_29, r_X8_house_30, r_X8_house_31, r_X8_house_32, r_X8_house_35, r_X8_house_38, r_X8_house_39, r_X8_house_40, r_X8_house_43, hM.1.1, @id (Z.2.2.1 144 0 = .ref 145) hM.1.2.1, @id (Z.2.2.1 144 1 = .ref 146) hM.1.2.2.1, @id (Z.2.2.1 144 2 = .ref 147) hM.1.2.2.2.1, @id (Z.2.2.1 144 3 = .ref 148) hM.1.2.2.2.2.1, @id (Z.2.2.1 144 4 = .ref 149) hM.1.2.2.2.2.2.1, @id (Z.2.2.1 144 5 = .ref 150) hM.1.2.2.2.2.2.2.1, @id (Z.2.2.1 144 6 = .ref 151) hM.1.2.2.2.2.2.2.2, @id (Z.1 145 = 0) hM.2.1.1, @id (Z.1 146 = 0) hM.2.1.2.1, @id (Z.1 147 = 0) hM.2.1.2.2.1, @id (Z.1 148 = 0) hM.2.1.2.2.2.1, @id (Z.1 149 = 0) hM.2.1.2.2.2.2.1, @id (Z.1 150 = 0) hM.2.1.2.2.2.2.2.1, @id (Z.1 151 = 0) hM.2.1.2.2.2.2.2.2, @id (Z.2.1 145 = 667) hM.2.2.1, @id (Z.2.1 146 = 667) hM.2.2.2.1, @id (Z.2.1 147 = 4002) hM.2.2.2.2.1, @id (Z.2.1 148 = 60) hM.2.2.2.2.2.1, @id (Z.2.1 149 = 32) hM.2.2.2.2.2.2.1, @id (Z.2.1 150 = 32) hM.2.2.2.2.2.2.2.1, @id (Z.2.1 151 = 36) hM.2.2.2.2.2.2.2.2, up2_o, up2_e, iN_ap, iN_up, i_ix, i_inb, i_lt, i_lt0, i_0lt, i_eq, i_ne0, i_00, i_11, i_01, i_10, i_b, i_rem2, n_rem, i_add, i_mul, i_sub, i_div, i_max, i_min, rdk_0, rdk_3, kp_none, kp_int, kp_ref, kp_long, kp_double, aK_v, aK_0, aK_ite, if_true, if_false, and_self, and_true, true_and, or_false, false_or, not_true_eq_false, not_false_eq_true, ite_self, ↓reduceIte, kh, q1, kw, hn]
      exact hG _
  · rw [if_pos q1]
    simp (disch := omega) only [r_X8_house_5, r_X8_house_6, r_X8_house_7, r_X8_house_10, r_X8_house_13, r_X8_house_14, r_X8_house_15, r_X8_house_18, r_X8_house_19, r_X8_house_20, r_X8_house_21, r_X8_house_23, r_X8_house_26, r_X8_house_29, r_X8_house_30, r_X8_house_31, r_X8_house_32, r_X8_house_35, r_X8_house_38, r_X8_house_39, r_X8_house_40, r_X8_house_43, hM.1.1, @id (Z.2.2.1 144 0 = .ref 145) hM.1.2.1, @id (Z.2.2.1 144 1 = .ref 146) hM.1.2.2.1, @id (Z.2.2.1 144 2 = .ref 147) hM.1.2.2.2.1, @id (Z.2.2.1 144 3 = .ref 148) hM.1.2.2.2.2.1, @id (Z.2.2.1 144 4 = .ref 149) hM.1.2.2.2.2.2.1, @id (Z.2.2.1 144 5 = .ref 150) hM.1.2.2.2.2.2.2.1, @id (Z.2.2.1 144 6 = .ref 151) hM.1.2.2.2.2.2.2.2, @id (Z.1 145 = 0) hM.2.1.1, @id (Z.1 146 = 0) hM.2.1.2.1, @id (Z.1 147 = 0) hM.2.1.2.2.1, @id (Z.1 148 = 0) hM.2.1.2.2.2.1, @id (Z.1 149 = 0) hM.2.1.2.2.2.2.1, @id (Z.1 150 = 0) hM.2.1.2.2.2.2.2.1, @id (Z.1 151 = 0) hM.2.1.2.2.2.2.2.2, @id (Z.2.1 145 = 667) hM.2.2.1, @id (Z.2.1 146 = 667) hM.2.2.2.1, @id (Z.2.1 147 = 4002) hM.2.2.2.2.1, @id (Z.2.1 148 = 60) hM.2.2.2.2.2.1, @id (Z.2.1 149 = 32) hM.2.2.2.2.2.2.1, @id (Z.2.1 150 = 32) hM.2.2.2.2.2.2.2.1, @id (Z.2.1 151 = 36) hM.2.2.2.2.2.2.2.2, up2_o, up2_e, iN_ap, iN_up, i_ix, i_inb, i_lt, i_lt0, i_0lt, i_eq, i_ne0, i_00, i_11, i_01, i_10, i_b, i_rem2, n_rem, i_add, i_mul, i_sub, i_div, i_max, i_min, rdk_0, rdk_3, kp_none, kp_int, kp_ref, kp_long, kp_double, aK_v, aK_0, aK_ite, if_true, if_false, and_self, and_true, true_and, or_false, false_or, not_true_eq_false, not_false_eq_true, ite_self, ↓reduceIte, kh, q1, s_mFails hM]
    exact hF 1
theorem s_mModule {S : aSt} {g h k w : Nat} (hM : MAt Z) (hO : MO N S g) (hh : h < 4294967296) (hkk : k < 4294967296) (hw : w < 4294967296) :
    MR Z L c N g (ex 158 0 [some (.ref 144), some (.int (nI h)), some (.int (nI k)), some (.int (nI w))] [] (Z, iN N, L, c)) (oMod S h k w) := by
  obtain ⟨⟨R, q⟩, sv, tx⟩ := S
  have hO0 := MO_thr (j := 11) (v := 0) hO (by omega)
  have hF := fun k => MR_fail (Z := Z) (L := L) (c := c) (k := k) hO
  have hG := fun v => MR_get (Z := Z) (L := L) (c := c) (v := v) hO
  obtain ⟨N0, hN0⟩ : ∃ N0, N0 = up2 N 144 11 0 := ⟨_, rfl⟩
  rw [← hN0] at hO0 hF hG
  obtain ⟨B, o, hk, hog⟩ := MK_of hO0
  have r0 := hk.2.1.1.1.1
  unfold oMod
  dsimp only at r0 hk ⊢
  have km := k_isModule (L := L) (c := c) hM hk hh hkk
  have kw := w_v (v := w) (lo := 0) (hi := 8) (h := (Z, iN N0, L, c)) hw (by omega) (by omega)
  rw [r_X8_module_0, r_X8_module_1, r_X8_module_2, if_pos hM.1.1, iN_up, ← hN0]
  by_cases q1 : h < R 0 1 ∧ k < R 3 h
  · rw [if_pos q1] at km
    rw [if_neg (not_not_intro q1)]
    have hh1 := hk.2.1.2.1 h (by omega)
    by_cases q2 : 8 < w
    · rw [if_pos q2]
      rw [if_pos (Or.inr q2)] at kw
      simp (disch := omega) only [r_X8_module_5, r_X8_module_6, r_X8_module_7, r_X8_module_8, r_X8_module_11, r_X8_module_14, r_X8_module_15, r_X8_module_16, r_X8_module_19, r_X8_module_20, r_X8_module_21, r_X8_module_22, r_X8_module_24, r_X8_module_27, r_X8_module_30, r_X8_module_31, r_X8_module_32, r_X8_module_33, r_X8_module_36, r_X8_module_37, r_X8_module_40, r_X8_module_43, r_X8_module_44, r_X8_module_45, r_X8_module_48, hM.1.1, @id (Z.2.2.1 144 0 = .ref 145) hM.1.2.1, @id (Z.2.2.1 144 1 = .ref 146) hM.1.2.2.1, @id (Z.2.2.1 144 2 = .ref 147) hM.1.2.2.2.1, @id (Z.2.2.1 144 3 = .ref 148) hM.1.2.2.2.2.1, @id (Z.2.2.1 144 4 = .ref 149) hM.1.2.2.2.2.2.1, @id (Z.2.2.1 144 5 = .ref 150) hM.1.2.2.2.2.2.2.1, @id (Z.2.2.1 144 6 = .ref 151) hM.1.2.2.2.2.2.2.2, @id (Z.1 145 = 0) hM.2.1.1, @id (Z.1 146 = 0) hM.2.1.2.1, @id (Z.1 147 = 0) hM.2.1.2.2.1, @id (Z.1 148 = 0) hM.2.1.2.2.2.1, @id (Z.1 149 = 0) hM.2.1.2.2.2.2.1, @id (Z.1 150 = 0) hM.2.1.2.2.2.2.2.1, @id (Z.1 151 = 0) hM.2.1.2.2.2.2.2.2, @id (Z.2.1 145 = 667) hM.2.2.1, @id (Z.2.1 146 = 667) hM.2.2.2.1, @id (Z.2.1 147 = 4002) hM.2.2.2.2.1, @id (Z.2.1 148 = 60) hM.2.2.2.2.2.1, @id (Z.2.1 149 = 32) hM.2.2.2.2.2.2.1, @id (Z.2.1 150 = 32) hM.2.2.2.2.2.2.2.1, @id (Z.2.1 151 = 36) hM.2.2.2.2.2.2.2.2, up2_o, up2_e, iN_ap, iN_up, i_ix, i_inb, i_lt, i_lt0, i_0lt, i_eq, i_ne0, i_00, i_11, i_01, i_10, i_b, i_rem2, n_rem, i_add, i_mul, i_sub, i_div, i_max, i_min, rdk_0, rdk_3, kp_none, kp_int, kp_ref, kp_long, kp_double, aK_v, aK_0, aK_ite, if_true, if_false, and_self, and_true, true_and, or_false, false_or, not_true_eq_false, not_false_eq_true, ite_self, ↓reduceIte, km, kw, s_mFails hM]
      exact hF 2
    · rw [if_neg q2]
      rw [if_neg (by omega)] at kw
      have hn := s_mModuleNow (L := L) (c := c) hM (show 6 * h + k < 36 by omega) (show w < 9 by omega) (MK_Zb hk)
      rw [zMn_R hk.1 hk.2.1 (by omega) (by omega)] at hn
      simp (disch := omega) only [r_X8_module_5, r_X8_module_6, r_X8_module_7, r_X8_module_8, r_X8_module_11, r_X8_module_14, r_X8_module_15, r_X8_module_16, r_X8_module_19, r_X8_module_20, r_X8_module_21, r_X8_module_22, r_X8_module_24, r_X8_module_27, r_X8_module_30, r_X8_module_31, r_X8_module_32, r_X8_module_33, r_X8_module_36, r_X8_module_37, r_X8_module_40, r_X8_module_43, r_X8_module_44, r_X8_module_45, r_X8_module_48, hM.1.1, @id (Z.2.2.1 144 0 = .ref 145) hM.1.2.1, @id (Z.2.2.1 144 1 = .ref 146) hM.1.2.2.1, @id (Z.2.2.1 144 2 = .ref 147) hM.1.2.2.2.1, @id (Z.2.2.1 144 3 = .ref 148) hM.1.2.2.2.2.1, @id (Z.2.2.1 144 4 = .ref 149) hM.1.2.2.2.2.2.1, @id (Z.2.2.1 144 5 = .ref 150) hM.1.2.2.2.2.2.2.1, @id (Z.2.2.1 144 6 = .ref 151) hM.1.2.2.2.2.2.2.2, @id (Z.1 145 = 0) hM.2.1.1, @id (Z.1 146 = 0) hM.2.1.2.1, @id (Z.1 147 = 0) hM.2.1.2.2.1, @id (Z.1 148 = 0) hM.2.1.2.2.2.1, @id (Z.1 149 = 0) hM.2.1.2.2.2.2.1, @id (Z.1 150 = 0) hM.2.1.2.2.2.2.2.1, @id (Z.1 151 = 0) hM.2.1.2.2.2.2.2.2, @id (Z.2.1 145 = 667) hM.2.2.1, @id (Z.2.1 146 = 667) hM.2.2.2.1, @id (Z.2.1 147 = 4002) hM.2.2.2.2.1, @id (Z.2.1 148 = 60) hM.2.2.2.2.2.1, @id (Z.2.1 149 = 32) hM.2.2.2.2.2.2.1, @id (Z.2.1 150 = 32) hM.2.2.2.2.2.2.2.1, @id (Z.2.1 151 = 36) hM.2.2.2.2.2.2.2.2, up2_o, up2_e, iN_ap, iN_up, i_ix, i_inb, i_lt, i_lt0, i_0lt, i_eq, i_ne0, i_00, i_11, i_01, i_10, i_b, i_rem2, n_rem, i_add, i_mul, i_sub, i_div, i_max, i_min, rdk_0, rdk_3, kp_none, kp_int, kp_ref, kp_long, kp_double, aK_v, aK_0, aK_ite, if_true, if_false, and_self, and_true, true_and, or_false, false_or, not_true_eq_false, not_false_eq_true, ite_self, ↓reduceIte, km, kw, s_mAt, hn]
      exact hG _
  · rw [if_neg q1] at km
    rw [if_pos q1]
    simp (disch := omega) only [r_X8_module_5, r_X8_module_6, r_X8_module_7, r_X8_module_8, r_X8_module_11, r_X8_module_14, r_X8_module_15, r_X8_module_16, r_X8_module_19, r_X8_module_20, r_X8_module_21, r_X8_module_22, r_X8_module_24, r_X8_module_27, r_X8_module_30, r_X8_module_31, r_X8_module_32, r_X8_module_33, r_X8_module_36, r_X8_module_37, r_X8_module_40, r_X8_module_43, r_X8_module_44, r_X8_module_45, r_X8_module_48, hM.1.1, @id (Z.2.2.1 144 0 = .ref 145) hM.1.2.1, @id (Z.2.2.1 144 1 = .ref 146) hM.1.2.2.1, @id (Z.2.2.1 144 2 = .ref 147) hM.1.2.2.2.1, @id (Z.2.2.1 144 3 = .ref 148) hM.1.2.2.2.2.1, @id (Z.2.2.1 144 4 = .ref 149) hM.1.2.2.2.2.2.1, @id (Z.2.2.1 144 5 = .ref 150) hM.1.2.2.2.2.2.2.1, @id (Z.2.2.1 144 6 = .ref 151) hM.1.2.2.2.2.2.2.2, @id (Z.1 145 = 0) hM.2.1.1, @id (Z.1 146 = 0) hM.2.1.2.1, @id (Z.1 147 = 0) hM.2.1.2.2.1, @id (Z.1 148 = 0) hM.2.1.2.2.2.1, @id (Z.1 149 = 0) hM.2.1.2.2.2.2.1, @id (Z.1 150 = 0) hM.2.1.2.2.2.2.2.1, @id (Z.1 151 = 0) hM.2.1.2.2.2.2.2.2, @id (Z.2.1 145 = 667) hM.2.2.1, @id (Z.2.1 146 = 667) hM.2.2.2.1, @id (Z.2.1 147 = 4002) hM.2.2.2.2.1, @id (Z.2.1 148 = 60) hM.2.2.2.2.2.1, @id (Z.2.1 149 = 32) hM.2.2.2.2.2.2.1, @id (Z.2.1 150 = 32) hM.2.2.2.2.2.2.2.1, @id (Z.2.1 151 = 36) hM.2.2.2.2.2.2.2.2, up2_o, up2_e, iN_ap, iN_up, i_ix, i_inb, i_lt, i_lt0, i_0lt, i_eq, i_ne0, i_00, i_11, i_01, i_10, i_b, i_rem2, n_rem, i_add, i_mul, i_sub, i_div, i_max, i_min, rdk_0, rdk_3, kp_none, kp_int, kp_ref, kp_long, kp_double, aK_v, aK_0, aK_ite, if_true, if_false, and_self, and_true, true_and, or_false, false_or, not_true_eq_false, not_false_eq_true, ite_self, ↓reduceIte, km, s_mFails hM]
    exact hF 1
theorem s_mShare {S : aSt} {g h k t w : Nat} (hM : MAt Z) (hO : MO N S g) (hh : h < 4294967296) (hkk : k < 4294967296) (htt : t < 4294967296) (hw : w < 4294967296) :
    MR Z L c N g (ex 160 0 [some (.ref 144), some (.int (nI h)), some (.int (nI k)), some (.int (nI t)), some (.int (nI w))] [] (Z, iN N, L, c)) (oShr S h k t w) := by
  obtain ⟨⟨R, q⟩, sv, tx⟩ := S
  have hO0 := MO_thr (j := 11) (v := 0) hO (by omega)
  have hF := fun k => MR_fail (Z := Z) (L := L) (c := c) (k := k) hO
  have hG := fun v => MR_get (Z := Z) (L := L) (c := c) (v := v) hO
  obtain ⟨N0, hN0⟩ : ∃ N0, N0 = up2 N 144 11 0 := ⟨_, rfl⟩
  rw [← hN0] at hO0 hF hG
  obtain ⟨B, o, hk, hog⟩ := MK_of hO0
  have r0 := hk.2.1.1.1.1
  unfold oShr
  dsimp only at r0 hk ⊢
  have km := k_isModule (L := L) (c := c) hM hk hh hkk
  have kt := s_mIsTrade (h := (Z, iN N0, L, c)) htt
  have kw := w_v (v := w) (lo := 0) (hi := 1) (h := (Z, iN N0, L, c)) hw (by omega) (by omega)
  rw [r_X8_share_0, r_X8_share_1, r_X8_share_2, if_pos hM.1.1, iN_up, ← hN0]
  by_cases q1 : h < R 0 1 ∧ k < R 3 h
  · rw [if_pos q1] at km
    by_cases q3 : t < 4
    · rw [if_pos q3] at kt
      rw [if_neg (not_not_intro ⟨q1, q3⟩)]
      have hh1 := hk.2.1.2.1 h (by omega)
      by_cases q2 : 1 < w
      · rw [if_pos q2]
        rw [if_pos (Or.inr q2)] at kw
        simp (disch := omega) only [r_X8_share_5, r_X8_share_6, r_X8_share_7, r_X8_share_8, r_X8_share_11, r_X8_share_14, r_X8_share_15, r_X8_share_18, r_X8_share_21, r_X8_share_22, r_X8_share_23, r_X8_share_26, r_X8_share_27, r_X8_share_29, r_X8_share_30, r_X8_share_31, r_X8_share_34, r_X8_share_37, r_X8_share_38, r_X8_share_39, r_X8_share_40, r_X8_share_43, r_X8_share_44, r_X8_share_46, r_X8_share_49, r_X8_share_52, r_X8_share_53, r_X8_share_54, r_X8_share_57, hM.1.1, @id (Z.2.2.1 144 0 = .ref 145) hM.1.2.1, @id (Z.2.2.1 144 1 = .ref 146) hM.1.2.2.1, @id (Z.2.2.1 144 2 = .ref 147) hM.1.2.2.2.1, @id (Z.2.2.1 144 3 = .ref 148) hM.1.2.2.2.2.1, @id (Z.2.2.1 144 4 = .ref 149) hM.1.2.2.2.2.2.1, @id (Z.2.2.1 144 5 = .ref 150) hM.1.2.2.2.2.2.2.1, @id (Z.2.2.1 144 6 = .ref 151) hM.1.2.2.2.2.2.2.2, @id (Z.1 145 = 0) hM.2.1.1, @id (Z.1 146 = 0) hM.2.1.2.1, @id (Z.1 147 = 0) hM.2.1.2.2.1, @id (Z.1 148 = 0) hM.2.1.2.2.2.1, @id (Z.1 149 = 0) hM.2.1.2.2.2.2.1, @id (Z.1 150 = 0) hM.2.1.2.2.2.2.2.1, @id (Z.1 151 = 0) hM.2.1.2.2.2.2.2.2, @id (Z.2.1 145 = 667) hM.2.2.1, @id (Z.2.1 146 = 667) hM.2.2.2.1, @id (Z.2.1 147 = 4002) hM.2.2.2.2.1, @id (Z.2.1 148 = 60) hM.2.2.2.2.2.1, @id (Z.2.1 149 = 32) hM.2.2.2.2.2.2.1, @id (Z.2.1 150 = 32) hM.2.2.2.2.2.2.2.1, @id (Z.2.1 151 = 36) hM.2.2.2.2.2.2.2.2, up2_o, up2_e, iN_ap, iN_up, i_ix, i_inb, i_lt, i_lt0, i_0lt, i_eq, i_ne0, i_00, i_11, i_01, i_10, i_b, i_rem2, n_rem, i_add, i_mul, i_sub, i_div, i_max, i_min, rdk_0, rdk_3, kp_none, kp_int, kp_ref, kp_long, kp_double, aK_v, aK_0, aK_ite, if_true, if_false, and_self, and_true, true_and, or_false, false_or, not_true_eq_false, not_false_eq_true, ite_self, ↓reduceIte, km, kt, kw, s_mFails hM]
        exact hF 2
      · rw [if_neg q2]
        rw [if_neg (by omega)] at kw
        have hn := s_mShareNow (N := N0) (L := L) (c := c) hM (show 6 * h + k < 36 by omega) q3 (show w < 2 by omega)
        have e : zo (N0 145) (6 * h + k) ((if w = 0 then 8 else 12) + t) = R (if w = 0 then 12 else 13) ((6 * h + k) * 4 + t) := by
          have := hk.1.2.2.2.2.2.2 (6 * h + k) (by omega) t q3
          split
          · exact this.1
          · exact this.2
        rw [e] at hn
        simp (disch := omega) only [r_X8_share_5, r_X8_share_6, r_X8_share_7, r_X8_share_8, r_X8_share_11, r_X8_share_14, r_X8_share_15, r_X8_share_18, r_X8_share_21, r_X8_share_22, r_X8_share_23, r_X8_share_26, r_X8_share_27, r_X8_share_29, r_X8_share_30, r_X8_share_31, r_X8_share_34, r_X8_share_37, r_X8_share_38, r_X8_share_39, r_X8_share_40, r_X8_share_43, r_X8_share_44, r_X8_share_46, r_X8_share_49, r_X8_share_52, r_X8_share_53, r_X8_share_54, r_X8_share_57, hM.1.1, @id (Z.2.2.1 144 0 = .ref 145) hM.1.2.1, @id (Z.2.2.1 144 1 = .ref 146) hM.1.2.2.1, @id (Z.2.2.1 144 2 = .ref 147) hM.1.2.2.2.1, @id (Z.2.2.1 144 3 = .ref 148) hM.1.2.2.2.2.1, @id (Z.2.2.1 144 4 = .ref 149) hM.1.2.2.2.2.2.1, @id (Z.2.2.1 144 5 = .ref 150) hM.1.2.2.2.2.2.2.1, @id (Z.2.2.1 144 6 = .ref 151) hM.1.2.2.2.2.2.2.2, @id (Z.1 145 = 0) hM.2.1.1, @id (Z.1 146 = 0) hM.2.1.2.1, @id (Z.1 147 = 0) hM.2.1.2.2.1, @id (Z.1 148 = 0) hM.2.1.2.2.2.1, @id (Z.1 149 = 0) hM.2.1.2.2.2.2.1, @id (Z.1 150 = 0) hM.2.1.2.2.2.2.2.1, @id (Z.1 151 = 0) hM.2.1.2.2.2.2.2.2, @id (Z.2.1 145 = 667) hM.2.2.1, @id (Z.2.1 146 = 667) hM.2.2.2.1, @id (Z.2.1 147 = 4002) hM.2.2.2.2.1, @id (Z.2.1 148 = 60) hM.2.2.2.2.2.1, @id (Z.2.1 149 = 32) hM.2.2.2.2.2.2.1, @id (Z.2.1 150 = 32) hM.2.2.2.2.2.2.2.1, @id (Z.2.1 151 = 36) hM.2.2.2.2.2.2.2.2, up2_o, up2_e, iN_ap, iN_up, i_ix, i_inb, i_lt, i_lt0, i_0lt, i_eq, i_ne0, i_00, i_11, i_01, i_10, i_b, i_rem2, n_rem, i_add, i_mul, i_sub, i_div, i_max, i_min, rdk_0, rdk_3, kp_none, kp_int, kp_ref, kp_long, kp_double, aK_v, aK_0, aK_ite, if_true, if_false, and_self, and_true, true_and, or_false, false_or, not_true_eq_false, not_false_eq_true, ite_self, ↓reduceIte, km, kt, kw, s_mAt, hn]
        exact hG _
    · rw [if_neg q3] at kt
      rw [if_pos (fun z => q3 z.2)]
      simp (disch := omega) only [r_X8_share_5, r_X8_share_6, r_X8_share_7, r_X8_share_8, r_X8_share_11, r_X8_share_14, r_X8_share_15, r_X8_share_18, r_X8_share_21, r_X8_share_22, r_X8_share_23, r_X8_share_26, r_X8_share_27, r_X8_share_29, r_X8_share_30, r_X8_share_31, r_X8_share_34, r_X8_share_37, r_X8_share_38, r_X8_share_39, r_X8_share_40, r_X8_share_43, r_X8_share_44, r_X8_share_46, r_X8_share_49, r_X8_share_52, r_X8_share_53, r_X8_share_54, r_X8_share_57, hM.1.1, @id (Z.2.2.1 144 0 = .ref 145) hM.1.2.1, @id (Z.2.2.1 144 1 = .ref 146) hM.1.2.2.1, @id (Z.2.2.1 144 2 = .ref 147) hM.1.2.2.2.1, @id (Z.2.2.1 144 3 = .ref 148) hM.1.2.2.2.2.1, @id (Z.2.2.1 144 4 = .ref 149) hM.1.2.2.2.2.2.1, @id (Z.2.2.1 144 5 = .ref 150) hM.1.2.2.2.2.2.2.1, @id (Z.2.2.1 144 6 = .ref 151) hM.1.2.2.2.2.2.2.2, @id (Z.1 145 = 0) hM.2.1.1, @id (Z.1 146 = 0) hM.2.1.2.1, @id (Z.1 147 = 0) hM.2.1.2.2.1, @id (Z.1 148 = 0) hM.2.1.2.2.2.1, @id (Z.1 149 = 0) hM.2.1.2.2.2.2.1, @id (Z.1 150 = 0) hM.2.1.2.2.2.2.2.1, @id (Z.1 151 = 0) hM.2.1.2.2.2.2.2.2, @id (Z.2.1 145 = 667) hM.2.2.1, @id (Z.2.1 146 = 667) hM.2.2.2.1, @id (Z.2.1 147 = 4002) hM.2.2.2.2.1, @id (Z.2.1 148 = 60) hM.2.2.2.2.2.1, @id (Z.2.1 149 = 32) hM.2.2.2.2.2.2.1, @id (Z.2.1 150 = 32) hM.2.2.2.2.2.2.2.1, @id (Z.2.1 151 = 36) hM.2.2.2.2.2.2.2.2, up2_o, up2_e, iN_ap, iN_up, i_ix, i_inb, i_lt, i_lt0, i_0lt, i_eq, i_ne0, i_00, i_11, i_01, i_10, i_b, i_rem2, n_rem, i_add, i_mul, i_sub, i_div, i_max, i_min, rdk_0, rdk_3, kp_none, kp_int, kp_ref, kp_long, kp_double, aK_v, aK_0, aK_ite, if_true, if_false, and_self, and_true, true_and, or_false, false_or, not_true_eq_false, not_false_eq_true, ite_self, ↓reduceIte, km, kt, s_mFails hM]
      exact hF 1
  · rw [if_neg q1] at km
    rw [if_pos (fun z => q1 z.1)]
    simp (disch := omega) only [r_X8_share_5, r_X8_share_6, r_X8_share_7, r_X8_share_8, r_X8_share_11, r_X8_share_14, r_X8_share_15, r_X8_share_18, r_X8_share_21, r_X8_share_22, r_X8_share_23, r_X8_share_26, r_X8_share_27, r_X8_share_29, r_X8_share_30, r_X8_share_31, r_X8_share_34, r_X8_share_37, r_X8_share_38, r_X8_share_39, r_X8_share_40, r_X8_share_43, r_X8_share_44, r_X8_share_46, r_X8_share_49, r_X8_share_52, r_X8_share_53, r_X8_share_54, r_X8_share_57, hM.1.1, @id (Z.2.2.1 144 0 = .ref 145) hM.1.2.1, @id (Z.2.2.1 144 1 = .ref 146) hM.1.2.2.1, @id (Z.2.2.1 144 2 = .ref 147) hM.1.2.2.2.1, @id (Z.2.2.1 144 3 = .ref 148) hM.1.2.2.2.2.1, @id (Z.2.2.1 144 4 = .ref 149) hM.1.2.2.2.2.2.1, @id (Z.2.2.1 144 5 = .ref 150) hM.1.2.2.2.2.2.2.1, @id (Z.2.2.1 144 6 = .ref 151) hM.1.2.2.2.2.2.2.2, @id (Z.1 145 = 0) hM.2.1.1, @id (Z.1 146 = 0) hM.2.1.2.1, @id (Z.1 147 = 0) hM.2.1.2.2.1, @id (Z.1 148 = 0) hM.2.1.2.2.2.1, @id (Z.1 149 = 0) hM.2.1.2.2.2.2.1, @id (Z.1 150 = 0) hM.2.1.2.2.2.2.2.1, @id (Z.1 151 = 0) hM.2.1.2.2.2.2.2.2, @id (Z.2.1 145 = 667) hM.2.2.1, @id (Z.2.1 146 = 667) hM.2.2.2.1, @id (Z.2.1 147 = 4002) hM.2.2.2.2.1, @id (Z.2.1 148 = 60) hM.2.2.2.2.2.1, @id (Z.2.1 149 = 32) hM.2.2.2.2.2.2.1, @id (Z.2.1 150 = 32) hM.2.2.2.2.2.2.2.1, @id (Z.2.1 151 = 36) hM.2.2.2.2.2.2.2.2, up2_o, up2_e, iN_ap, iN_up, i_ix, i_inb, i_lt, i_lt0, i_0lt, i_eq, i_ne0, i_00, i_11, i_01, i_10, i_b, i_rem2, n_rem, i_add, i_mul, i_sub, i_div, i_max, i_min, rdk_0, rdk_3, kp_none, kp_int, kp_ref, kp_long, kp_double, aK_v, aK_0, aK_ite, if_true, if_false, and_self, and_true, true_and, or_false, false_or, not_true_eq_false, not_false_eq_true, ite_self, ↓reduceIte, km, s_mFails hM]
    exact hF 1
theorem s_mTrade {S : aSt} {g t w : Nat} (hM : MAt Z) (hO : MO N S g) (htt : t < 4294967296) (hw : w < 4294967296) :
    MR Z L c N g (ex 163 0 [some (.ref 144), some (.int (nI t)), some (.int (nI w))] [] (Z, iN N, L, c)) (oTrd S t w) := by
  obtain ⟨⟨R, q⟩, sv, tx⟩ := S
  have hO0 := MO_thr (j := 11) (v := 0) hO (by omega)
  have hF := fun k => MR_fail (Z := Z) (L := L) (c := c) (k := k) hO
  have hG := fun v => MR_get (Z := Z) (L := L) (c := c) (v := v) hO
  obtain ⟨N0, hN0⟩ : ∃ N0, N0 = up2 N 144 11 0 := ⟨_, rfl⟩
  rw [← hN0] at hO0 hF hG
  obtain ⟨B, o, hk, hog⟩ := MK_of hO0
  unfold oTrd
  dsimp only at hk ⊢
  have kt := s_mIsTrade (h := (Z, iN N0, L, c)) htt
  have kw := w_v (v := w) (lo := 0) (hi := 5) (h := (Z, iN N0, L, c)) hw (by omega) (by omega)
  rw [r_X8_trade_0, r_X8_trade_1, r_X8_trade_2, if_pos hM.1.1, iN_up, ← hN0]
  by_cases q3 : t < 4
  · rw [if_pos q3] at kt
    rw [if_neg (not_not_intro q3)]
    by_cases q2 : 5 < w
    · rw [if_pos q2]
      rw [if_pos (Or.inr q2)] at kw
      simp (disch := omega) only [r_X8_trade_5, r_X8_trade_6, r_X8_trade_9, r_X8_trade_12, r_X8_trade_13, r_X8_trade_14, r_X8_trade_17, r_X8_trade_18, r_X8_trade_19, r_X8_trade_20, r_X8_trade_21, r_X8_trade_24, r_X8_trade_27, r_X8_trade_28, r_X8_trade_29, r_X8_trade_30, r_X8_trade_33, r_X8_trade_36, r_X8_trade_37, r_X8_trade_38, r_X8_trade_41, hM.1.1, @id (Z.2.2.1 144 0 = .ref 145) hM.1.2.1, @id (Z.2.2.1 144 1 = .ref 146) hM.1.2.2.1, @id (Z.2.2.1 144 2 = .ref 147) hM.1.2.2.2.1, @id (Z.2.2.1 144 3 = .ref 148) hM.1.2.2.2.2.1, @id (Z.2.2.1 144 4 = .ref 149) hM.1.2.2.2.2.2.1, @id (Z.2.2.1 144 5 = .ref 150) hM.1.2.2.2.2.2.2.1, @id (Z.2.2.1 144 6 = .ref 151) hM.1.2.2.2.2.2.2.2, @id (Z.1 145 = 0) hM.2.1.1, @id (Z.1 146 = 0) hM.2.1.2.1, @id (Z.1 147 = 0) hM.2.1.2.2.1, @id (Z.1 148 = 0) hM.2.1.2.2.2.1, @id (Z.1 149 = 0) hM.2.1.2.2.2.2.1, @id (Z.1 150 = 0) hM.2.1.2.2.2.2.2.1, @id (Z.1 151 = 0) hM.2.1.2.2.2.2.2.2, @id (Z.2.1 145 = 667) hM.2.2.1, @id (Z.2.1 146 = 667) hM.2.2.2.1, @id (Z.2.1 147 = 4002) hM.2.2.2.2.1, @id (Z.2.1 148 = 60) hM.2.2.2.2.2.1, @id (Z.2.1 149 = 32) hM.2.2.2.2.2.2.1, @id (Z.2.1 150 = 32) hM.2.2.2.2.2.2.2.1, @id (Z.2.1 151 = 36) hM.2.2.2.2.2.2.2.2, up2_o, up2_e, iN_ap, iN_up, i_ix, i_inb, i_lt, i_lt0, i_0lt, i_eq, i_ne0, i_00, i_11, i_01, i_10, i_b, i_rem2, n_rem, i_add, i_mul, i_sub, i_div, i_max, i_min, rdk_0, rdk_3, kp_none, kp_int, kp_ref, kp_long, kp_double, aK_v, aK_0, aK_ite, if_true, if_false, and_self, and_true, true_and, or_false, false_or, not_true_eq_false, not_false_eq_true, ite_self, ↓reduceIte, kt, kw, s_mFails hM]
      exact hF 2
    · rw [if_neg q2]
      rw [if_neg (by omega)] at kw
      have hn := s_mTradeNow (L := L) (c := c) hM (MK_Zb hk) q3 (show w < 6 by omega)
      rw [zTr_R hk.1 hk.2.1 q3 (by omega)] at hn
      simp (disch := omega) only [r_X8_trade_5, r_X8_trade_6, r_X8_trade_9, r_X8_trade_12, r_X8_trade_13, r_X8_trade_14, r_X8_trade_17, r_X8_trade_18, r_X8_trade_19, r_X8_trade_20, r_X8_trade_21, r_X8_trade_24, r_X8_trade_27, r_X8_trade_28, r_X8_trade_29, r_X8_trade_30, r_X8_trade_33, r_X8_trade_36, r_X8_trade_37, r_X8_trade_38, r_X8_trade_41, hM.1.1, @id (Z.2.2.1 144 0 = .ref 145) hM.1.2.1, @id (Z.2.2.1 144 1 = .ref 146) hM.1.2.2.1, @id (Z.2.2.1 144 2 = .ref 147) hM.1.2.2.2.1, @id (Z.2.2.1 144 3 = .ref 148) hM.1.2.2.2.2.1, @id (Z.2.2.1 144 4 = .ref 149) hM.1.2.2.2.2.2.1, @id (Z.2.2.1 144 5 = .ref 150) hM.1.2.2.2.2.2.2.1, @id (Z.2.2.1 144 6 = .ref 151) hM.1.2.2.2.2.2.2.2, @id (Z.1 145 = 0) hM.2.1.1, @id (Z.1 146 = 0) hM.2.1.2.1, @id (Z.1 147 = 0) hM.2.1.2.2.1, @id (Z.1 148 = 0) hM.2.1.2.2.2.1, @id (Z.1 149 = 0) hM.2.1.2.2.2.2.1, @id (Z.1 150 = 0) hM.2.1.2.2.2.2.2.1, @id (Z.1 151 = 0) hM.2.1.2.2.2.2.2.2, @id (Z.2.1 145 = 667) hM.2.2.1, @id (Z.2.1 146 = 667) hM.2.2.2.1, @id (Z.2.1 147 = 4002) hM.2.2.2.2.1, @id (Z.2.1 148 = 60) hM.2.2.2.2.2.1, @id (Z.2.1 149 = 32) hM.2.2.2.2.2.2.1, @id (Z.2.1 150 = 32) hM.2.2.2.2.2.2.2.1, @id (Z.2.1 151 = 36) hM.2.2.2.2.2.2.2.2, up2_o, up2_e, iN_ap, iN_up, i_ix, i_inb, i_lt, i_lt0, i_0lt, i_eq, i_ne0, i_00, i_11, i_01, i_10, i_b, i_rem2, n_rem, i_add, i_mul, i_sub, i_div, i_max, i_min, rdk_0, rdk_3, kp_none, kp_int, kp_ref, kp_long, kp_double, aK_v, aK_0, aK_ite, if_true, if_false, and_self, and_true, true_and, or_false, false_or, not_true_eq_false, not_false_eq_true, ite_self, ↓reduceIte, kt, kw, hn]
      exact hG _
  · rw [if_neg q3] at kt
    rw [if_pos q3]
    simp (disch := omega) only [r_X8_trade_5, r_X8_trade_6, r_X8_trade_9, r_X8_trade_12, r_X8_trade_13, r_X8_trade_14, r_X8_trade_17, r_X8_trade_18, r_X8_trade_19, r_X8_trade_20, r_X8_trade_21, r_X8_trade_24, r_X8_trade_27, r_X8_trade_28, r_X8_trade_29, r_X8_trade_30, r_X8_trade_33, r_X8_trade_36, r_X8_trade_37, r_X8_trade_38, r_X8_trade_41, hM.1.1, @id (Z.2.2.1 144 0 = .ref 145) hM.1.2.1, @id (Z.2.2.1 144 1 = .ref 146) hM.1.2.2.1, @id (Z.2.2.1 144 2 = .ref 147) hM.1.2.2.2.1, @id (Z.2.2.1 144 3 = .ref 148) hM.1.2.2.2.2.1, @id (Z.2.2.1 144 4 = .ref 149) hM.1.2.2.2.2.2.1, @id (Z.2.2.1 144 5 = .ref 150) hM.1.2.2.2.2.2.2.1, @id (Z.2.2.1 144 6 = .ref 151) hM.1.2.2.2.2.2.2.2, @id (Z.1 145 = 0) hM.2.1.1, @id (Z.1 146 = 0) hM.2.1.2.1, @id (Z.1 147 = 0) hM.2.1.2.2.1, @id (Z.1 148 = 0) hM.2.1.2.2.2.1, @id (Z.1 149 = 0) hM.2.1.2.2.2.2.1, @id (Z.1 150 = 0) hM.2.1.2.2.2.2.2.1, @id (Z.1 151 = 0) hM.2.1.2.2.2.2.2.2, @id (Z.2.1 145 = 667) hM.2.2.1, @id (Z.2.1 146 = 667) hM.2.2.2.1, @id (Z.2.1 147 = 4002) hM.2.2.2.2.1, @id (Z.2.1 148 = 60) hM.2.2.2.2.2.1, @id (Z.2.1 149 = 32) hM.2.2.2.2.2.2.1, @id (Z.2.1 150 = 32) hM.2.2.2.2.2.2.2.1, @id (Z.2.1 151 = 36) hM.2.2.2.2.2.2.2.2, up2_o, up2_e, iN_ap, iN_up, i_ix, i_inb, i_lt, i_lt0, i_0lt, i_eq, i_ne0, i_00, i_11, i_01, i_10, i_b, i_rem2, n_rem, i_add, i_mul, i_sub, i_div, i_max, i_min, rdk_0, rdk_3, kp_none, kp_int, kp_ref, kp_long, kp_double, aK_v, aK_0, aK_ite, if_true, if_false, and_self, and_true, true_and, or_false, false_or, not_true_eq_false, not_false_eq_true, ite_self, ↓reduceIte, kt, s_mFails hM]
    exact hF 1
theorem s_mDay {S : aSt} {g d w : Nat} (hM : MAt Z) (hO : MO N S g) (hd : d < 4294967296) (hw : w < 4294967296) :
    MR Z L c N g (ex 166 0 [some (.ref 144), some (.int (nI d)), some (.int (nI w))] [] (Z, iN N, L, c)) (oDay S d w) := by
  obtain ⟨⟨R, q⟩, sv, tx⟩ := S
  have hO0 := MO_thr (j := 11) (v := 0) hO (by omega)
  have hF := fun k => MR_fail (Z := Z) (L := L) (c := c) (k := k) hO
  have hG := fun v => MR_get (Z := Z) (L := L) (c := c) (v := v) hO
  obtain ⟨N0, hN0⟩ : ∃ N0, N0 = up2 N 144 11 0 := ⟨_, rfl⟩
  rw [← hN0] at hO0 hF hG
  obtain ⟨B, o, hk, hog⟩ := MK_of hO0
  unfold oDay
  dsimp only at hk ⊢
  have kd := w_v (v := d) (lo := 0) (hi := 9999) (h := (Z, iN N0, L, c)) hd (by omega) (by omega)
  have kw := w_v (v := w) (lo := 0) (hi := 3) (h := (Z, iN N0, L, c)) hw (by omega) (by omega)
  rw [r_X8_day_0, r_X8_day_1, r_X8_day_2, if_pos hM.1.1, iN_up, ← hN0]
  by_cases q3 : 9999 < d
  · rw [if_pos (Or.inr q3)] at kd
    rw [if_pos (Or.inl q3)]
    simp (disch := omega) only [r_X8_day_5, r_X8_day_6, r_X8_day_7, r_X8_day_10, r_X8_day_13, r_X8_day_16, r_X8_day_17, r_X8_day_18, r_X8_day_19, r_X8_day_22, r_X8_day_25, r_X8_day_26, r_X8_day_27, r_X8_day_28, r_X8_day_31, r_X8_day_34, r_X8_day_35, r_X8_day_36, r_X8_day_39, hM.1.1, @id (Z.2.2.1 144 0 = .ref 145) hM.1.2.1, @id (Z.2.2.1 144 1 = .ref 146) hM.1.2.2.1, @id (Z.2.2.1 144 2 = .ref 147) hM.1.2.2.2.1, @id (Z.2.2.1 144 3 = .ref 148) hM.1.2.2.2.2.1, @id (Z.2.2.1 144 4 = .ref 149) hM.1.2.2.2.2.2.1, @id (Z.2.2.1 144 5 = .ref 150) hM.1.2.2.2.2.2.2.1, @id (Z.2.2.1 144 6 = .ref 151) hM.1.2.2.2.2.2.2.2, @id (Z.1 145 = 0) hM.2.1.1, @id (Z.1 146 = 0) hM.2.1.2.1, @id (Z.1 147 = 0) hM.2.1.2.2.1, @id (Z.1 148 = 0) hM.2.1.2.2.2.1, @id (Z.1 149 = 0) hM.2.1.2.2.2.2.1, @id (Z.1 150 = 0) hM.2.1.2.2.2.2.2.1, @id (Z.1 151 = 0) hM.2.1.2.2.2.2.2.2, @id (Z.2.1 145 = 667) hM.2.2.1, @id (Z.2.1 146 = 667) hM.2.2.2.1, @id (Z.2.1 147 = 4002) hM.2.2.2.2.1, @id (Z.2.1 148 = 60) hM.2.2.2.2.2.1, @id (Z.2.1 149 = 32) hM.2.2.2.2.2.2.1, @id (Z.2.1 150 = 32) hM.2.2.2.2.2.2.2.1, @id (Z.2.1 151 = 36) hM.2.2.2.2.2.2.2.2, up2_o, up2_e, iN_ap, iN_up, i_ix, i_inb, i_lt, i_lt0, i_0lt, i_eq, i_ne0, i_00, i_11, i_01, i_10, i_b, i_rem2, n_rem, i_add, i_mul, i_sub, i_div, i_max, i_min, rdk_0, rdk_3, kp_none, kp_int, kp_ref, kp_long, kp_double, aK_v, aK_0, aK_ite, if_true, if_false, and_self, and_true, true_and, or_false, false_or, not_true_eq_false, not_false_eq_true, ite_self, ↓reduceIte, kd, s_mFails hM]
    exact hF 1
  · rw [if_neg (by omega)] at kd
    by_cases q2 : 3 < w
    · rw [if_pos (Or.inr q2)]
      rw [if_pos (Or.inr q2)] at kw
      simp (disch := omega) only [r_X8_day_5, r_X8_day_6, r_X8_day_7, r_X8_day_10, r_X8_day_13, r_X8_day_16, r_X8_day_17, r_X8_day_18, r_X8_day_19, r_X8_day_22, r_X8_day_25, r_X8_day_26, r_X8_day_27, r_X8_day_28, r_X8_day_31, r_X8_day_34, r_X8_day_35, r_X8_day_36, r_X8_day_39, hM.1.1, @id (Z.2.2.1 144 0 = .ref 145) hM.1.2.1, @id (Z.2.2.1 144 1 = .ref 146) hM.1.2.2.1, @id (Z.2.2.1 144 2 = .ref 147) hM.1.2.2.2.1, @id (Z.2.2.1 144 3 = .ref 148) hM.1.2.2.2.2.1, @id (Z.2.2.1 144 4 = .ref 149) hM.1.2.2.2.2.2.1, @id (Z.2.2.1 144 5 = .ref 150) hM.1.2.2.2.2.2.2.1, @id (Z.2.2.1 144 6 = .ref 151) hM.1.2.2.2.2.2.2.2, @id (Z.1 145 = 0) hM.2.1.1, @id (Z.1 146 = 0) hM.2.1.2.1, @id (Z.1 147 = 0) hM.2.1.2.2.1, @id (Z.1 148 = 0) hM.2.1.2.2.2.1, @id (Z.1 149 = 0) hM.2.1.2.2.2.2.1, @id (Z.1 150 = 0) hM.2.1.2.2.2.2.2.1, @id (Z.1 151 = 0) hM.2.1.2.2.2.2.2.2, @id (Z.2.1 145 = 667) hM.2.2.1, @id (Z.2.1 146 = 667) hM.2.2.2.1, @id (Z.2.1 147 = 4002) hM.2.2.2.2.1, @id (Z.2.1 148 = 60) hM.2.2.2.2.2.1, @id (Z.2.1 149 = 32) hM.2.2.2.2.2.2.1, @id (Z.2.1 150 = 32) hM.2.2.2.2.2.2.2.1, @id (Z.2.1 151 = 36) hM.2.2.2.2.2.2.2.2, up2_o, up2_e, iN_ap, iN_up, i_ix, i_inb, i_lt, i_lt0, i_0lt, i_eq, i_ne0, i_00, i_11, i_01, i_10, i_b, i_rem2, n_rem, i_add, i_mul, i_sub, i_div, i_max, i_min, rdk_0, rdk_3, kp_none, kp_int, kp_ref, kp_long, kp_double, aK_v, aK_0, aK_ite, if_true, if_false, and_self, and_true, true_and, or_false, false_or, not_true_eq_false, not_false_eq_true, ite_self, ↓reduceIte, kd, kw, s_mFails hM]
      exact hF 1
    · rw [if_neg (by omega)]
      rw [if_neg (by omega)] at kw
      have hn := s_mDayNow (L := L) (c := c) hM (MK_Zb hk) (show d < 2147483648 by omega) (show w < 4 by omega)
      rw [zDn_R hk.1 hk.2.1 (by omega)] at hn
      simp (disch := omega) only [r_X8_day_5, r_X8_day_6, r_X8_day_7, r_X8_day_10, r_X8_day_13, r_X8_day_16, r_X8_day_17, r_X8_day_18, r_X8_day_19, r_X8_day_22, r_X8_day_25, r_X8_day_26, r_X8_day_27, r_X8_day_28, r_X8_day_31, r_X8_day_34, r_X8_day_35, r_X8_day_36, r_X8_day_39, hM.1.1, @id (Z.2.2.1 144 0 = .ref 145) hM.1.2.1, @id (Z.2.2.1 144 1 = .ref 146) hM.1.2.2.1, @id (Z.2.2.1 144 2 = .ref 147) hM.1.2.2.2.1, @id (Z.2.2.1 144 3 = .ref 148) hM.1.2.2.2.2.1, @id (Z.2.2.1 144 4 = .ref 149) hM.1.2.2.2.2.2.1, @id (Z.2.2.1 144 5 = .ref 150) hM.1.2.2.2.2.2.2.1, @id (Z.2.2.1 144 6 = .ref 151) hM.1.2.2.2.2.2.2.2, @id (Z.1 145 = 0) hM.2.1.1, @id (Z.1 146 = 0) hM.2.1.2.1, @id (Z.1 147 = 0) hM.2.1.2.2.1, @id (Z.1 148 = 0) hM.2.1.2.2.2.1, @id (Z.1 149 = 0) hM.2.1.2.2.2.2.1, @id (Z.1 150 = 0) hM.2.1.2.2.2.2.2.1, @id (Z.1 151 = 0) hM.2.1.2.2.2.2.2.2, @id (Z.2.1 145 = 667) hM.2.2.1, @id (Z.2.1 146 = 667) hM.2.2.2.1, @id (Z.2.1 147 = 4002) hM.2.2.2.2.1, @id (Z.2.1 148 = 60) hM.2.2.2.2.2.1, @id (Z.2.1 149 = 32) hM.2.2.2.2.2.2.1, @id (Z.2.1 150 = 32) hM.2.2.2.2.2.2.2.1, @id (Z.2.1 151 = 36) hM.2.2.2.2.2.2.2.2, up2_o, up2_e, iN_ap, iN_up, i_ix, i_inb, i_lt, i_lt0, i_0lt, i_eq, i_ne0, i_00, i_11, i_01, i_10, i_b, i_rem2, n_rem, i_add, i_mul, i_sub, i_div, i_max, i_min, rdk_0, rdk_3, kp_none, kp_int, kp_ref, kp_long, kp_double, aK_v, aK_0, aK_ite, if_true, if_false, and_self, and_true, true_and, or_false, false_or, not_true_eq_false, not_false_eq_true, ite_self, ↓reduceIte, kd, kw, hn]
      exact hG _
theorem k_counted {R : aY} {q : List Nat} {B : Nat → Nat} {o w n : Nat} (hM : MAt Z) (hk : MK N R q B o) (h9 : N 144 9 = n) (hw : w < 13) : ex 170 0 [some (.ref 144), some (.int (nI w))] [] (Z, iN N, L, c) = some (.inl (some (.int (nI (aCn R q n w)))), (Z, iN N, L, c)) := by
  rw [s_mCounted hM (MK_Zb hk) hw (MK_cn hk), zCn_R hk.1 hk.2.1 _ hw, h9]
theorem s_mCount {S : aSt} {g w : Nat} (hM : MAt Z) (hO : MO N S g) (hw : w < 4294967296) :
    MR Z L c N g (ex 171 0 [some (.ref 144), some (.int (nI w))] [] (Z, iN N, L, c)) (oCnt S w) := by
  obtain ⟨⟨R, q⟩, sv, tx⟩ := S
  have hO0 := MO_thr (j := 11) (v := 0) hO (by omega)
  have hF := fun k => MR_fail (Z := Z) (L := L) (c := c) (k := k) hO
  have hG := fun v => MR_get (Z := Z) (L := L) (c := c) (v := v) hO
  obtain ⟨N0, hN0⟩ : ∃ N0, N0 = up2 N 144 11 0 := ⟨_, rfl⟩
  rw [← hN0] at hO0 hF hG
  obtain ⟨B, o, hk, hog⟩ := MK_of hO0
  unfold oCnt
  dsimp only at hk ⊢
  have kw := w_v (v := w) (lo := 0) (hi := 12) (h := (Z, iN N0, L, c)) hw (by omega) (by omega)
  rw [r_X8_count_0, r_X8_count_1, r_X8_count_2, if_pos hM.1.1, iN_up, ← hN0]
  by_cases q2 : 12 < w
  · rw [if_pos q2]
    rw [if_pos (Or.inr q2)] at kw
    simp (disch := omega) only [r_X8_count_5, r_X8_count_6, r_X8_count_7, r_X8_count_9, r_X8_count_12, r_X8_count_15, r_X8_count_16, r_X8_count_17, r_X8_count_20, r_X8_count_23, r_X8_count_24, r_X8_count_25, r_X8_count_28, hM.1.1, @id (Z.2.2.1 144 0 = .ref 145) hM.1.2.1, @id (Z.2.2.1 144 1 = .ref 146) hM.1.2.2.1, @id (Z.2.2.1 144 2 = .ref 147) hM.1.2.2.2.1, @id (Z.2.2.1 144 3 = .ref 148) hM.1.2.2.2.2.1, @id (Z.2.2.1 144 4 = .ref 149) hM.1.2.2.2.2.2.1, @id (Z.2.2.1 144 5 = .ref 150) hM.1.2.2.2.2.2.2.1, @id (Z.2.2.1 144 6 = .ref 151) hM.1.2.2.2.2.2.2.2, @id (Z.1 145 = 0) hM.2.1.1, @id (Z.1 146 = 0) hM.2.1.2.1, @id (Z.1 147 = 0) hM.2.1.2.2.1, @id (Z.1 148 = 0) hM.2.1.2.2.2.1, @id (Z.1 149 = 0) hM.2.1.2.2.2.2.1, @id (Z.1 150 = 0) hM.2.1.2.2.2.2.2.1, @id (Z.1 151 = 0) hM.2.1.2.2.2.2.2.2, @id (Z.2.1 145 = 667) hM.2.2.1, @id (Z.2.1 146 = 667) hM.2.2.2.1, @id (Z.2.1 147 = 4002) hM.2.2.2.2.1, @id (Z.2.1 148 = 60) hM.2.2.2.2.2.1, @id (Z.2.1 149 = 32) hM.2.2.2.2.2.2.1, @id (Z.2.1 150 = 32) hM.2.2.2.2.2.2.2.1, @id (Z.2.1 151 = 36) hM.2.2.2.2.2.2.2.2, up2_o, up2_e, iN_ap, iN_up, i_ix, i_inb, i_lt, i_lt0, i_0lt, i_eq, i_ne0, i_00, i_11, i_01, i_10, i_b, i_rem2, n_rem, i_add, i_mul, i_sub, i_div, i_max, i_min, rdk_0, rdk_3, kp_none, kp_int, kp_ref, kp_long, kp_double, aK_v, aK_0, aK_ite, if_true, if_false, and_self, and_true, true_and, or_false, false_or, not_true_eq_false, not_false_eq_true, ite_self, ↓reduceIte, kw, s_mFails hM]
    exact hF 1
  · rw [if_neg q2]
    rw [if_neg (by omega)] at kw
    have hn := k_counted (L := L) (c := c) hM hk hO0.1.2.1 (show w < 13 by omega)
    simp (disch := omega) only [r_X8_count_5, r_X8_count_6, r_X8_count_7, r_X8_count_9, r_X8_count_12, r_X8_count_15, r_X8_count_16, r_X8_count_17, r_X8_count_20, r_X8_count_23, r_X8_count_24, r_X8_count_25, r_X8_count_28, hM.1.1, @id (Z.2.2.1 144 0 = .ref 145) hM.1.2.1, @id (Z.2.2.1 144 1 = .ref 146) hM.1.2.2.1, @id (Z.2.2.1 144 2 = .ref 147) hM.1.2.2.2.1, @id (Z.2.2.1 144 3 = .ref 148) hM.1.2.2.2.2.1, @id (Z.2.2.1 144 4 = .ref 149) hM.1.2.2.2.2.2.1, @id (Z.2.2.1 144 5 = .ref 150) hM.1.2.2.2.2.2.2.1, @id (Z.2.2.1 144 6 = .ref 151) hM.1.2.2.2.2.2.2.2, @id (Z.1 145 = 0) hM.2.1.1, @id (Z.1 146 = 0) hM.2.1.2.1, @id (Z.1 147 = 0) hM.2.1.2.2.1, @id (Z.1 148 = 0) hM.2.1.2.2.2.1, @id (Z.1 149 = 0) hM.2.1.2.2.2.2.1, @id (Z.1 150 = 0) hM.2.1.2.2.2.2.2.1, @id (Z.1 151 = 0) hM.2.1.2.2.2.2.2.2, @id (Z.2.1 145 = 667) hM.2.2.1, @id (Z.2.1 146 = 667) hM.2.2.2.1, @id (Z.2.1 147 = 4002) hM.2.2.2.2.1, @id (Z.2.1 148 = 60) hM.2.2.2.2.2.1, @id (Z.2.1 149 = 32) hM.2.2.2.2.2.2.1, @id (Z.2.1 150 = 32) hM.2.2.2.2.2.2.2.1, @id (Z.2.1 151 = 36) hM.2.2.2.2.2.2.2.2, up2_o, up2_e, iN_ap, iN_up, i_ix, i_inb, i_lt, i_lt0, i_0lt, i_eq, i_ne0, i_00, i_11, i_01, i_10, i_b, i_rem2, n_rem, i_add, i_mul, i_sub, i_div, i_max, i_min, rdk_0, rdk_3, kp_none, kp_int, kp_ref, kp_long, kp_double, aK_v, aK_0, aK_ite, if_true, if_false, and_self, and_true, true_and, or_false, false_or, not_true_eq_false, not_false_eq_true, ite_self, ↓reduceIte, kw, hn]
    exact hG _
theorem s_mSetting {S : aSt} {g s : Nat} (hM : MAt Z) (hO : MO N S g) (hs : s < 4294967296) :
    MR Z L c N g (ex 172 0 [some (.ref 144), some (.int (nI s))] [] (Z, iN N, L, c)) (oStg S s) := by
  obtain ⟨⟨R, q⟩, sv, tx⟩ := S
  have hO0 := MO_thr (j := 11) (v := 0) hO (by omega)
  have hF := fun k => MR_fail (Z := Z) (L := L) (c := c) (k := k) hO
  have hG := fun v => MR_get (Z := Z) (L := L) (c := c) (v := v) hO
  obtain ⟨N0, hN0⟩ : ∃ N0, N0 = up2 N 144 11 0 := ⟨_, rfl⟩
  rw [← hN0] at hO0 hF hG
  obtain ⟨B, o, hk, hog⟩ := MK_of hO0
  unfold oStg
  dsimp only at hk ⊢
  have kw := w_v (v := s) (lo := 0) (hi := 4) (h := (Z, iN N0, L, c)) hs (by omega) (by omega)
  rw [r_X8_setting_0, r_X8_setting_1, r_X8_setting_2, if_pos hM.1.1, iN_up, ← hN0]
  by_cases q2 : s < 5
  · rw [if_neg (not_not_intro q2)]
    rw [if_neg (by omega)] at kw
    have e : N0 145 (64 + s) = R 2 s := hk.1.2.2.1 s q2
    simp (disch := omega) only [r_X8_setting_5, r_X8_setting_6, r_X8_setting_7, r_X8_setting_8, r_X8_setting_11, r_X8_setting_14, r_X8_setting_15, r_X8_setting_18, r_X8_setting_20, r_X8_setting_21, r_X8_setting_22, r_X8_setting_23, r_X8_setting_26, r_X8_setting_27, r_X8_setting_28, r_X8_setting_31, hM.1.1, @id (Z.2.2.1 144 0 = .ref 145) hM.1.2.1, @id (Z.2.2.1 144 1 = .ref 146) hM.1.2.2.1, @id (Z.2.2.1 144 2 = .ref 147) hM.1.2.2.2.1, @id (Z.2.2.1 144 3 = .ref 148) hM.1.2.2.2.2.1, @id (Z.2.2.1 144 4 = .ref 149) hM.1.2.2.2.2.2.1, @id (Z.2.2.1 144 5 = .ref 150) hM.1.2.2.2.2.2.2.1, @id (Z.2.2.1 144 6 = .ref 151) hM.1.2.2.2.2.2.2.2, @id (Z.1 145 = 0) hM.2.1.1, @id (Z.1 146 = 0) hM.2.1.2.1, @id (Z.1 147 = 0) hM.2.1.2.2.1, @id (Z.1 148 = 0) hM.2.1.2.2.2.1, @id (Z.1 149 = 0) hM.2.1.2.2.2.2.1, @id (Z.1 150 = 0) hM.2.1.2.2.2.2.2.1, @id (Z.1 151 = 0) hM.2.1.2.2.2.2.2.2, @id (Z.2.1 145 = 667) hM.2.2.1, @id (Z.2.1 146 = 667) hM.2.2.2.1, @id (Z.2.1 147 = 4002) hM.2.2.2.2.1, @id (Z.2.1 148 = 60) hM.2.2.2.2.2.1, @id (Z.2.1 149 = 32) hM.2.2.2.2.2.2.1, @id (Z.2.1 150 = 32) hM.2.2.2.2.2.2.2.1, @id (Z.2.1 151 = 36) hM.2.2.2.2.2.2.2.2, up2_o, up2_e, iN_ap, iN_up, i_ix, i_inb, i_lt, i_lt0, i_0lt, i_eq, i_ne0, i_00, i_11, i_01, i_10, i_b, i_rem2, n_rem, i_add, i_mul, i_sub, i_div, i_max, i_min, rdk_0, rdk_3, kp_none, kp_int, kp_ref, kp_long, kp_double, aK_v, aK_0, aK_ite, if_true, if_false, and_self, and_true, true_and, or_false, false_or, not_true_eq_false, not_false_eq_true, ite_self, ↓reduceIte, kw, e]
    exact hG _
  · rw [if_pos q2]
    rw [if_pos (by omega)] at kw
    simp (disch := omega) only [r_X8_setting_5, r_X8_setting_6, r_X8_setting_7, r_X8_setting_8, r_X8_setting_11, r_X8_setting_14, r_X8_setting_15, r_X8_setting_18, r_X8_setting_20, r_X8_setting_21, r_X8_setting_22, r_X8_setting_23, r_X8_setting_26, r_X8_setting_27, r_X8_setting_28, r_X8_setting_31, hM.1.1, @id (Z.2.2.1 144 0 = .ref 145) hM.1.2.1, @id (Z.2.2.1 144 1 = .ref 146) hM.1.2.2.1, @id (Z.2.2.1 144 2 = .ref 147) hM.1.2.2.2.1, @id (Z.2.2.1 144 3 = .ref 148) hM.1.2.2.2.2.1, @id (Z.2.2.1 144 4 = .ref 149) hM.1.2.2.2.2.2.1, @id (Z.2.2.1 144 5 = .ref 150) hM.1.2.2.2.2.2.2.1, @id (Z.2.2.1 144 6 = .ref 151) hM.1.2.2.2.2.2.2.2, @id (Z.1 145 = 0) hM.2.1.1, @id (Z.1 146 = 0) hM.2.1.2.1, @id (Z.1 147 = 0) hM.2.1.2.2.1, @id (Z.1 148 = 0) hM.2.1.2.2.2.1, @id (Z.1 149 = 0) hM.2.1.2.2.2.2.1, @id (Z.1 150 = 0) hM.2.1.2.2.2.2.2.1, @id (Z.1 151 = 0) hM.2.1.2.2.2.2.2.2, @id (Z.2.1 145 = 667) hM.2.2.1, @id (Z.2.1 146 = 667) hM.2.2.2.1, @id (Z.2.1 147 = 4002) hM.2.2.2.2.1, @id (Z.2.1 148 = 60) hM.2.2.2.2.2.1, @id (Z.2.1 149 = 32) hM.2.2.2.2.2.2.1, @id (Z.2.1 150 = 32) hM.2.2.2.2.2.2.2.1, @id (Z.2.1 151 = 36) hM.2.2.2.2.2.2.2.2, up2_o, up2_e, iN_ap, iN_up, i_ix, i_inb, i_lt, i_lt0, i_0lt, i_eq, i_ne0, i_00, i_11, i_01, i_10, i_b, i_rem2, n_rem, i_add, i_mul, i_sub, i_div, i_max, i_min, rdk_0, rdk_3, kp_none, kp_int, kp_ref, kp_long, kp_double, aK_v, aK_0, aK_ite, if_true, if_false, and_self, and_true, true_and, or_false, false_or, not_true_eq_false, not_false_eq_true, ite_self, ↓reduceIte, kw, s_mFails hM]
    exact hF 1
theorem s_mEnds {S : aSt} {g : Nat} (hM : MAt Z) (hO : MO N S g) :
    MR Z L c N g (ex 174 0 [some (.ref 144)] [] (Z, iN N, L, c)) (oEnd S) := by
  obtain ⟨⟨R, q⟩, sv, tx⟩ := S
  have hO0 := MO_thr (j := 11) (v := 0) hO (by omega)
  obtain ⟨N0, hN0⟩ : ∃ N0, N0 = up2 N 144 11 0 := ⟨_, rfl⟩
  rw [← hN0] at hO0
  obtain ⟨B, o, hk, hog⟩ := MK_of hO0
  obtain ⟨N1, e1, e2, e3⟩ := s_mEndsNow (L := L) (c := c) hM hk hO.2.2.1
  rw [r_X8_ends__0, r_X8_ends__1, r_X8_ends__2, if_pos hM.1.1, iN_up, ← hN0]
  simp (disch := omega) only [r_X8_ends__5, r_X8_ends__6, r_X8_ends__9, hM.1.1, @id (Z.2.2.1 144 0 = .ref 145) hM.1.2.1, @id (Z.2.2.1 144 1 = .ref 146) hM.1.2.2.1, @id (Z.2.2.1 144 2 = .ref 147) hM.1.2.2.2.1, @id (Z.2.2.1 144 3 = .ref 148) hM.1.2.2.2.2.1, @id (Z.2.2.1 144 4 = .ref 149) hM.1.2.2.2.2.2.1, @id (Z.2.2.1 144 5 = .ref 150) hM.1.2.2.2.2.2.2.1, @id (Z.2.2.1 144 6 = .ref 151) hM.1.2.2.2.2.2.2.2, @id (Z.1 145 = 0) hM.2.1.1, @id (Z.1 146 = 0) hM.2.1.2.1, @id (Z.1 147 = 0) hM.2.1.2.2.1, @id (Z.1 148 = 0) hM.2.1.2.2.2.1, @id (Z.1 149 = 0) hM.2.1.2.2.2.2.1, @id (Z.1 150 = 0) hM.2.1.2.2.2.2.2.1, @id (Z.1 151 = 0) hM.2.1.2.2.2.2.2.2, @id (Z.2.1 145 = 667) hM.2.2.1, @id (Z.2.1 146 = 667) hM.2.2.2.1, @id (Z.2.1 147 = 4002) hM.2.2.2.2.1, @id (Z.2.1 148 = 60) hM.2.2.2.2.2.1, @id (Z.2.1 149 = 32) hM.2.2.2.2.2.2.1, @id (Z.2.1 150 = 32) hM.2.2.2.2.2.2.2.1, @id (Z.2.1 151 = 36) hM.2.2.2.2.2.2.2.2, up2_o, up2_e, iN_ap, iN_up, i_ix, i_inb, i_lt, i_lt0, i_0lt, i_eq, i_ne0, i_00, i_11, i_01, i_10, i_b, i_rem2, n_rem, i_add, i_mul, i_sub, i_div, i_max, i_min, rdk_0, rdk_3, kp_none, kp_int, kp_ref, kp_long, kp_double, aK_v, aK_0, aK_ite, if_true, if_false, and_self, and_true, true_and, or_false, false_or, not_true_eq_false, not_false_eq_true, ite_self, ↓reduceIte, e1]
  exact MR_get2 hN0 hO0 e2 e3
theorem s_mBest {S : aSt} {g h : Nat} (hM : MAt Z) (hO : MO N S g) (hh : h < 4294967296) :
    MR Z L c N g (ex 176 0 [some (.ref 144), some (.int (nI h))] [] (Z, iN N, L, c)) (oBst S h) := by
  obtain ⟨⟨R, q⟩, sv, tx⟩ := S
  have hO0 := MO_thr (j := 11) (v := 0) hO (by omega)
  have hF := fun k => MR_fail (Z := Z) (L := L) (c := c) (k := k) hO
  have hG := fun v => MR_get (Z := Z) (L := L) (c := c) (v := v) hO
  obtain ⟨N0, hN0⟩ : ∃ N0, N0 = up2 N 144 11 0 := ⟨_, rfl⟩
  rw [← hN0] at hO0 hF hG
  obtain ⟨B, o, hk, hog⟩ := MK_of hO0
  have r0 := hk.2.1.1.1.1
  unfold oBst
  dsimp only at r0 hk ⊢
  have kh := k_isHouse (L := L) (c := c) hM hk hh
  rw [r_X8_bestDay_0, r_X8_bestDay_1, r_X8_bestDay_2, if_pos hM.1.1, iN_up, ← hN0]
  by_cases q1 : h < R 0 1
  · rw [if_neg (not_not_intro q1)]
    have hn := s_mBestNow (L := L) (c := c) hM hk (show h < 6 by omega) hO.2.2.1
    simp (disch := omega) only [r_X8_bestDay_5, r_X8_bestDay_6, r_X8_bestDay_7, r_X8_bestDay_10, r_X8_bestDay_13, r_X8_bestDay_14, r_X8_bestDay_15, r_X8_bestDay_18, r_X8_bestDay_21, r_X8_bestDay_22, r_X8_bestDay_23, r_X8_bestDay_26, hM.1.1, @id (Z.2.2.1 144 0 = .ref 145) hM.1.2.1, @id (Z.2.2.1 144 1 = .ref 146) hM.1.2.2.1, @id (Z.2.2.1 144 2 = .ref 147) hM.1.2.2.2.1, @id (Z.2.2.1 144 3 = .ref 148) hM.1.2.2.2.2.1, @id (Z.2.2.1 144 4 = .ref 149) hM.1.2.2.2.2.2.1, @id (Z.2.2.1 144 5 = .ref 150) hM.1.2.2.2.2.2.2.1, @id (Z.2.2.1 144 6 = .ref 151) hM.1.2.2.2.2.2.2.2, @id (Z.1 145 = 0) hM.2.1.1, @id (Z.1 146 = 0) hM.2.1.2.1, @id (Z.1 147 = 0) hM.2.1.2.2.1, @id (Z.1 148 = 0) hM.2.1.2.2.2.1, @id (Z.1 149 = 0) hM.2.1.2.2.2.2.1, @id (Z.1 150 = 0) hM.2.1.2.2.2.2.2.1, @id (Z.1 151 = 0) hM.2.1.2.2.2.2.2.2, @id (Z.2.1 145 = 667) hM.2.2.1, @id (Z.2.1 146 = 667) hM.2.2.2.1, @id (Z.2.1 147 = 4002) hM.2.2.2.2.1, @id (Z.2.1 148 = 60) hM.2.2.2.2.2.1, @id (Z.2.1 149 = 32) hM.2.2.2.2.2.2.1, @id (Z.2.1 150 = 32) hM.2.2.2.2.2.2.2.1, @id (Z.2.1 151 = 36) hM.2.2.2.2.2.2.2.2, up2_o, up2_e, iN_ap, iN_up, i_ix, i_inb, i_lt, i_lt0, i_0lt, i_eq, i_ne0, i_00, i_11, i_01, i_10, i_b, i_rem2, n_rem, i_add, i_mul, i_sub, i_div, i_max, i_min, rdk_0, rdk_3, kp_none, kp_int, kp_ref, kp_long, kp_double, aK_v, aK_0, aK_ite, if_true, if_false, and_self, and_true, true_and, or_false, false_or, not_true_eq_false, not_false_eq_true, ite_self, ↓reduceIte, kh, q1, hn]
    exact hG _
  · rw [if_pos q1]
    simp (disch := omega) only [r_X8_bestDay_5, r_X8_bestDay_6, r_X8_bestDay_7, r_X8_bestDay_10, r_X8_bestDay_13, r_X8_bestDay_14, r_X8_bestDay_15, r_X8_bestDay_18, r_X8_bestDay_21, r_X8_bestDay_22, r_X8_bestDay_23, r_X8_bestDay_26, hM.1.1, @id (Z.2.2.1 144 0 = .ref 145) hM.1.2.1, @id (Z.2.2.1 144 1 = .ref 146) hM.1.2.2.1, @id (Z.2.2.1 144 2 = .ref 147) hM.1.2.2.2.1, @id (Z.2.2.1 144 3 = .ref 148) hM.1.2.2.2.2.1, @id (Z.2.2.1 144 4 = .ref 149) hM.1.2.2.2.2.2.1, @id (Z.2.2.1 144 5 = .ref 150) hM.1.2.2.2.2.2.2.1, @id (Z.2.2.1 144 6 = .ref 151) hM.1.2.2.2.2.2.2.2, @id (Z.1 145 = 0) hM.2.1.1, @id (Z.1 146 = 0) hM.2.1.2.1, @id (Z.1 147 = 0) hM.2.1.2.2.1, @id (Z.1 148 = 0) hM.2.1.2.2.2.1, @id (Z.1 149 = 0) hM.2.1.2.2.2.2.1, @id (Z.1 150 = 0) hM.2.1.2.2.2.2.2.1, @id (Z.1 151 = 0) hM.2.1.2.2.2.2.2.2, @id (Z.2.1 145 = 667) hM.2.2.1, @id (Z.2.1 146 = 667) hM.2.2.2.1, @id (Z.2.1 147 = 4002) hM.2.2.2.2.1, @id (Z.2.1 148 = 60) hM.2.2.2.2.2.1, @id (Z.2.1 149 = 32) hM.2.2.2.2.2.2.1, @id (Z.2.1 150 = 32) hM.2.2.2.2.2.2.2.1, @id (Z.2.1 151 = 36) hM.2.2.2.2.2.2.2.2, up2_o, up2_e, iN_ap, iN_up, i_ix, i_inb, i_lt, i_lt0, i_0lt, i_eq, i_ne0, i_00, i_11, i_01, i_10, i_b, i_rem2, n_rem, i_add, i_mul, i_sub, i_div, i_max, i_min, rdk_0, rdk_3, kp_none, kp_int, kp_ref, kp_long, kp_double, aK_v, aK_0, aK_ite, if_true, if_false, and_self, and_true, true_and, or_false, false_or, not_true_eq_false, not_false_eq_true, ite_self, ↓reduceIte, kh, q1, s_mFails hM]
    exact hF 1
theorem s_mIfPassed {S : aSt} {g n h : Nat} (hM : MAt Z) (hO : MO N S g) (hn : n < 4294967296) (hh : h < 4294967296) :
    MR Z L c N g (ex 179 0 [some (.ref 144), some (.int (nI n)), some (.int (nI h))] [] (Z, iN N, L, c)) (oIfp S n h) := by
  obtain ⟨⟨R, q⟩, sv, tx⟩ := S
  have hO0 := MO_thr (j := 11) (v := 0) hO (by omega)
  have hF := fun k => MR_fail (Z := Z) (L := L) (c := c) (k := k) hO
  obtain ⟨N0, hN0⟩ : ∃ N0, N0 = up2 N 144 11 0 := ⟨_, rfl⟩
  rw [← hN0] at hO0 hF
  obtain ⟨B, o, hk, hog⟩ := MK_of hO0
  have r0 := hk.2.1.1.1.1
  unfold oIfp
  dsimp only at r0 hk ⊢
  have kh := k_isHouse (L := L) (c := c) hM hk hh
  have kn := w_v (v := n) (lo := 1) (hi := 60) (h := (Z, iN N0, L, c)) hn (by omega) (by omega)
  rw [r_X8_ifPassed_0, r_X8_ifPassed_1, r_X8_ifPassed_2, if_pos hM.1.1, iN_up, ← hN0]
  have go : (h < 6 ∨ h = 4294967295) → ∀ A, ex 179 24 [some (.ref 144), some (.int (nI n)), some (.int (nI h))] [] (Z, iN N0, L, c) = A → MR Z L c N g A (if n < 1 ∨ 60 < n then (2, 0, (R, q), sv, tx) else (0, aSn (aPn n (R, q)).1 h - aSn R h, (R, q), sv, tx)) := fun hh6 A hA => by
    rw [← hA]
    by_cases q2 : n < 1 ∨ 60 < n
    · rw [if_pos q2] at kn ⊢
      simp (disch := omega) only [r_X8_ifPassed_24, r_X8_ifPassed_25, r_X8_ifPassed_26, r_X8_ifPassed_28, r_X8_ifPassed_31, r_X8_ifPassed_34, r_X8_ifPassed_35, r_X8_ifPassed_36, r_X8_ifPassed_37, r_X8_ifPassed_40, r_X8_ifPassed_43, r_X8_ifPassed_44, r_X8_ifPassed_45, r_X8_ifPassed_48, hM.1.1, @id (Z.2.2.1 144 0 = .ref 145) hM.1.2.1, @id (Z.2.2.1 144 1 = .ref 146) hM.1.2.2.1, @id (Z.2.2.1 144 2 = .ref 147) hM.1.2.2.2.1, @id (Z.2.2.1 144 3 = .ref 148) hM.1.2.2.2.2.1, @id (Z.2.2.1 144 4 = .ref 149) hM.1.2.2.2.2.2.1, @id (Z.2.2.1 144 5 = .ref 150) hM.1.2.2.2.2.2.2.1, @id (Z.2.2.1 144 6 = .ref 151) hM.1.2.2.2.2.2.2.2, @id (Z.1 145 = 0) hM.2.1.1, @id (Z.1 146 = 0) hM.2.1.2.1, @id (Z.1 147 = 0) hM.2.1.2.2.1, @id (Z.1 148 = 0) hM.2.1.2.2.2.1, @id (Z.1 149 = 0) hM.2.1.2.2.2.2.1, @id (Z.1 150 = 0) hM.2.1.2.2.2.2.2.1, @id (Z.1 151 = 0) hM.2.1.2.2.2.2.2.2, @id (Z.2.1 145 = 667) hM.2.2.1, @id (Z.2.1 146 = 667) hM.2.2.2.1, @id (Z.2.1 147 = 4002) hM.2.2.2.2.1, @id (Z.2.1 148 = 60) hM.2.2.2.2.2.1, @id (Z.2.1 149 = 32) hM.2.2.2.2.2.2.1, @id (Z.2.1 150 = 32) hM.2.2.2.2.2.2.2.1, @id (Z.2.1 151 = 36) hM.2.2.2.2.2.2.2.2, up2_o, up2_e, iN_ap, iN_up, i_ix, i_inb, i_lt, i_lt0, i_0lt, i_eq, i_ne0, i_00, i_11, i_01, i_10, i_b, i_rem2, n_rem, i_add, i_mul, i_sub, i_div, i_max, i_min, rdk_0, rdk_3, kp_none, kp_int, kp_ref, kp_long, kp_double, aK_v, aK_0, aK_ite, if_true, if_false, and_self, and_true, true_and, or_false, false_or, not_true_eq_false, not_false_eq_true, ite_self, ↓reduceIte, kn, s_mFails hM]
      exact hF 2
    · rw [if_neg q2] at kn ⊢
      obtain ⟨N1, e1, e2, e3⟩ := s_mPassedNow (L := L) (c := c) (n := n) (h := h) hM hk (by omega) hO.2.2.1 hh6
      simp (disch := omega) only [r_X8_ifPassed_24, r_X8_ifPassed_25, r_X8_ifPassed_26, r_X8_ifPassed_28, r_X8_ifPassed_31, r_X8_ifPassed_34, r_X8_ifPassed_35, r_X8_ifPassed_36, r_X8_ifPassed_37, r_X8_ifPassed_40, r_X8_ifPassed_43, r_X8_ifPassed_44, r_X8_ifPassed_45, r_X8_ifPassed_48, hM.1.1, @id (Z.2.2.1 144 0 = .ref 145) hM.1.2.1, @id (Z.2.2.1 144 1 = .ref 146) hM.1.2.2.1, @id (Z.2.2.1 144 2 = .ref 147) hM.1.2.2.2.1, @id (Z.2.2.1 144 3 = .ref 148) hM.1.2.2.2.2.1, @id (Z.2.2.1 144 4 = .ref 149) hM.1.2.2.2.2.2.1, @id (Z.2.2.1 144 5 = .ref 150) hM.1.2.2.2.2.2.2.1, @id (Z.2.2.1 144 6 = .ref 151) hM.1.2.2.2.2.2.2.2, @id (Z.1 145 = 0) hM.2.1.1, @id (Z.1 146 = 0) hM.2.1.2.1, @id (Z.1 147 = 0) hM.2.1.2.2.1, @id (Z.1 148 = 0) hM.2.1.2.2.2.1, @id (Z.1 149 = 0) hM.2.1.2.2.2.2.1, @id (Z.1 150 = 0) hM.2.1.2.2.2.2.2.1, @id (Z.1 151 = 0) hM.2.1.2.2.2.2.2.2, @id (Z.2.1 145 = 667) hM.2.2.1, @id (Z.2.1 146 = 667) hM.2.2.2.1, @id (Z.2.1 147 = 4002) hM.2.2.2.2.1, @id (Z.2.1 148 = 60) hM.2.2.2.2.2.1, @id (Z.2.1 149 = 32) hM.2.2.2.2.2.2.1, @id (Z.2.1 150 = 32) hM.2.2.2.2.2.2.2.1, @id (Z.2.1 151 = 36) hM.2.2.2.2.2.2.2.2, up2_o, up2_e, iN_ap, iN_up, i_ix, i_inb, i_lt, i_lt0, i_0lt, i_eq, i_ne0, i_00, i_11, i_01, i_10, i_b, i_rem2, n_rem, i_add, i_mul, i_sub, i_div, i_max, i_min, rdk_0, rdk_3, kp_none, kp_int, kp_ref, kp_long, kp_double, aK_v, aK_0, aK_ite, if_true, if_false, and_self, and_true, true_and, or_false, false_or, not_true_eq_false, not_false_eq_true, ite_self, ↓reduceIte, kn, e1]
      exact MR_get2 hN0 hO0 e2 e3
  by_cases q3 : h = 4294967295
  · rw [if_neg (fun z => z.1 q3)]
    have e : (nI h = nI 4294967295) = True := eq_true (by rw [q3])
    simp (disch := omega) only [r_X8_ifPassed_5, r_X8_ifPassed_6, r_X8_ifPassed_7, r_X8_ifPassed_10, r_X8_ifPassed_11, r_X8_ifPassed_12, r_X8_ifPassed_15, r_X8_ifPassed_18, r_X8_ifPassed_19, r_X8_ifPassed_20, r_X8_ifPassed_23, hM.1.1, @id (Z.2.2.1 144 0 = .ref 145) hM.1.2.1, @id (Z.2.2.1 144 1 = .ref 146) hM.1.2.2.1, @id (Z.2.2.1 144 2 = .ref 147) hM.1.2.2.2.1, @id (Z.2.2.1 144 3 = .ref 148) hM.1.2.2.2.2.1, @id (Z.2.2.1 144 4 = .ref 149) hM.1.2.2.2.2.2.1, @id (Z.2.2.1 144 5 = .ref 150) hM.1.2.2.2.2.2.2.1, @id (Z.2.2.1 144 6 = .ref 151) hM.1.2.2.2.2.2.2.2, @id (Z.1 145 = 0) hM.2.1.1, @id (Z.1 146 = 0) hM.2.1.2.1, @id (Z.1 147 = 0) hM.2.1.2.2.1, @id (Z.1 148 = 0) hM.2.1.2.2.2.1, @id (Z.1 149 = 0) hM.2.1.2.2.2.2.1, @id (Z.1 150 = 0) hM.2.1.2.2.2.2.2.1, @id (Z.1 151 = 0) hM.2.1.2.2.2.2.2.2, @id (Z.2.1 145 = 667) hM.2.2.1, @id (Z.2.1 146 = 667) hM.2.2.2.1, @id (Z.2.1 147 = 4002) hM.2.2.2.2.1, @id (Z.2.1 148 = 60) hM.2.2.2.2.2.1, @id (Z.2.1 149 = 32) hM.2.2.2.2.2.2.1, @id (Z.2.1 150 = 32) hM.2.2.2.2.2.2.2.1, @id (Z.2.1 151 = 36) hM.2.2.2.2.2.2.2.2, up2_o, up2_e, iN_ap, iN_up, i_ix, i_inb, i_lt, i_lt0, i_0lt, i_eq, i_ne0, i_00, i_11, i_01, i_10, i_b, i_rem2, n_rem, i_add, i_mul, i_sub, i_div, i_max, i_min, rdk_0, rdk_3, kp_none, kp_int, kp_ref, kp_long, kp_double, aK_v, aK_0, aK_ite, if_true, if_false, and_self, and_true, true_and, or_false, false_or, not_true_eq_false, not_false_eq_true, ite_self, ↓reduceIte, nM1, e]
    exact go (Or.inr q3) _ rfl
  · by_cases q1 : h < R 0 1
    · rw [if_neg (fun z => z.2 q1)]
      simp (disch := omega) only [r_X8_ifPassed_5, r_X8_ifPassed_6, r_X8_ifPassed_7, r_X8_ifPassed_10, r_X8_ifPassed_11, r_X8_ifPassed_12, r_X8_ifPassed_15, r_X8_ifPassed_18, r_X8_ifPassed_19, r_X8_ifPassed_20, r_X8_ifPassed_23, hM.1.1, @id (Z.2.2.1 144 0 = .ref 145) hM.1.2.1, @id (Z.2.2.1 144 1 = .ref 146) hM.1.2.2.1, @id (Z.2.2.1 144 2 = .ref 147) hM.1.2.2.2.1, @id (Z.2.2.1 144 3 = .ref 148) hM.1.2.2.2.2.1, @id (Z.2.2.1 144 4 = .ref 149) hM.1.2.2.2.2.2.1, @id (Z.2.2.1 144 5 = .ref 150) hM.1.2.2.2.2.2.2.1, @id (Z.2.2.1 144 6 = .ref 151) hM.1.2.2.2.2.2.2.2, @id (Z.1 145 = 0) hM.2.1.1, @id (Z.1 146 = 0) hM.2.1.2.1, @id (Z.1 147 = 0) hM.2.1.2.2.1, @id (Z.1 148 = 0) hM.2.1.2.2.2.1, @id (Z.1 149 = 0) hM.2.1.2.2.2.2.1, @id (Z.1 150 = 0) hM.2.1.2.2.2.2.2.1, @id (Z.1 151 = 0) hM.2.1.2.2.2.2.2.2, @id (Z.2.1 145 = 667) hM.2.2.1, @id (Z.2.1 146 = 667) hM.2.2.2.1, @id (Z.2.1 147 = 4002) hM.2.2.2.2.1, @id (Z.2.1 148 = 60) hM.2.2.2.2.2.1, @id (Z.2.1 149 = 32) hM.2.2.2.2.2.2.1, @id (Z.2.1 150 = 32) hM.2.2.2.2.2.2.2.1, @id (Z.2.1 151 = 36) hM.2.2.2.2.2.2.2.2, up2_o, up2_e, iN_ap, iN_up, i_ix, i_inb, i_lt, i_lt0, i_0lt, i_eq, i_ne0, i_00, i_11, i_01, i_10, i_b, i_rem2, n_rem, i_add, i_mul, i_sub, i_div, i_max, i_min, rdk_0, rdk_3, kp_none, kp_int, kp_ref, kp_long, kp_double, aK_v, aK_0, aK_ite, if_true, if_false, and_self, and_true, true_and, or_false, false_or, not_true_eq_false, not_false_eq_true, ite_self, ↓reduceIte, nM1, i_eqU, q3, kh, q1]
      exact go (Or.inl (by omega)) _ rfl
    · rw [if_pos ⟨q3, q1⟩]
      simp (disch := omega) only [r_X8_ifPassed_5, r_X8_ifPassed_6, r_X8_ifPassed_7, r_X8_ifPassed_10, r_X8_ifPassed_11, r_X8_ifPassed_12, r_X8_ifPassed_15, r_X8_ifPassed_18, r_X8_ifPassed_19, r_X8_ifPassed_20, r_X8_ifPassed_23, hM.1.1, @id (Z.2.2.1 144 0 = .ref 145) hM.1.2.1, @id (Z.2.2.1 144 1 = .ref 146) hM.1.2.2.1, @id (Z.2.2.1 144 2 = .ref 147) hM.1.2.2.2.1, @id (Z.2.2.1 144 3 = .ref 148) hM.1.2.2.2.2.1, @id (Z.2.2.1 144 4 = .ref 149) hM.1.2.2.2.2.2.1, @id (Z.2.2.1 144 5 = .ref 150) hM.1.2.2.2.2.2.2.1, @id (Z.2.2.1 144 6 = .ref 151) hM.1.2.2.2.2.2.2.2, @id (Z.1 145 = 0) hM.2.1.1, @id (Z.1 146 = 0) hM.2.1.2.1, @id (Z.1 147 = 0) hM.2.1.2.2.1, @id (Z.1 148 = 0) hM.2.1.2.2.2.1, @id (Z.1 149 = 0) hM.2.1.2.2.2.2.1, @id (Z.1 150 = 0) hM.2.1.2.2.2.2.2.1, @id (Z.1 151 = 0) hM.2.1.2.2.2.2.2.2, @id (Z.2.1 145 = 667) hM.2.2.1, @id (Z.2.1 146 = 667) hM.2.2.2.1, @id (Z.2.1 147 = 4002) hM.2.2.2.2.1, @id (Z.2.1 148 = 60) hM.2.2.2.2.2.1, @id (Z.2.1 149 = 32) hM.2.2.2.2.2.2.1, @id (Z.2.1 150 = 32) hM.2.2.2.2.2.2.2.1, @id (Z.2.1 151 = 36) hM.2.2.2.2.2.2.2.2, up2_o, up2_e, iN_ap, iN_up, i_ix, i_inb, i_lt, i_lt0, i_0lt, i_eq, i_ne0, i_00, i_11, i_01, i_10, i_b, i_rem2, n_rem, i_add, i_mul, i_sub, i_div, i_max, i_min, rdk_0, rdk_3, kp_none, kp_int, kp_ref, kp_long, kp_double, aK_v, aK_0, aK_ite, if_true, if_false, and_self, and_true, true_and, or_false, false_or, not_true_eq_false, not_false_eq_true, ite_self, ↓reduceIte, nM1, i_eqU, q3, kh, q1, s_mFails hM]
      exact hF 1
theorem s_mWorst {S : aSt} {g : Nat} (hM : MAt Z) (hO : MO N S g) :
    MR Z L c N g (ex 181 0 [some (.ref 144)] [] (Z, iN N, L, c)) (oWrs S) := by
  obtain ⟨⟨R, q⟩, sv, tx⟩ := S
  have hO0 := MO_thr (j := 11) (v := 0) hO (by omega)
  have hG := fun v => MR_get (Z := Z) (L := L) (c := c) (v := v) hO
  obtain ⟨N0, hN0⟩ : ∃ N0, N0 = up2 N 144 11 0 := ⟨_, rfl⟩
  rw [← hN0] at hO0 hG
  obtain ⟨B, o, hk, hog⟩ := MK_of hO0
  have hn := s_mWorstNow (L := L) (c := c) hM hk
  rw [r_X8_worstTrade_0, r_X8_worstTrade_1, r_X8_worstTrade_2, if_pos hM.1.1, iN_up, ← hN0]
  simp (disch := omega) only [r_X8_worstTrade_5, r_X8_worstTrade_6, r_X8_worstTrade_9, hM.1.1, @id (Z.2.2.1 144 0 = .ref 145) hM.1.2.1, @id (Z.2.2.1 144 1 = .ref 146) hM.1.2.2.1, @id (Z.2.2.1 144 2 = .ref 147) hM.1.2.2.2.1, @id (Z.2.2.1 144 3 = .ref 148) hM.1.2.2.2.2.1, @id (Z.2.2.1 144 4 = .ref 149) hM.1.2.2.2.2.2.1, @id (Z.2.2.1 144 5 = .ref 150) hM.1.2.2.2.2.2.2.1, @id (Z.2.2.1 144 6 = .ref 151) hM.1.2.2.2.2.2.2.2, @id (Z.1 145 = 0) hM.2.1.1, @id (Z.1 146 = 0) hM.2.1.2.1, @id (Z.1 147 = 0) hM.2.1.2.2.1, @id (Z.1 148 = 0) hM.2.1.2.2.2.1, @id (Z.1 149 = 0) hM.2.1.2.2.2.2.1, @id (Z.1 150 = 0) hM.2.1.2.2.2.2.2.1, @id (Z.1 151 = 0) hM.2.1.2.2.2.2.2.2, @id (Z.2.1 145 = 667) hM.2.2.1, @id (Z.2.1 146 = 667) hM.2.2.2.1, @id (Z.2.1 147 = 4002) hM.2.2.2.2.1, @id (Z.2.1 148 = 60) hM.2.2.2.2.2.1, @id (Z.2.1 149 = 32) hM.2.2.2.2.2.2.1, @id (Z.2.1 150 = 32) hM.2.2.2.2.2.2.2.1, @id (Z.2.1 151 = 36) hM.2.2.2.2.2.2.2.2, up2_o, up2_e, iN_ap, iN_up, i_ix, i_inb, i_lt, i_lt0, i_0lt, i_eq, i_ne0, i_00, i_11, i_01, i_10, i_b, i_rem2, n_rem, i_add, i_mul, i_sub, i_div, i_max, i_min, rdk_0, rdk_3, kp_none, kp_int, kp_ref, kp_long, kp_double, aK_v, aK_0, aK_ite, if_true, if_false, and_self, and_true, true_and, or_false, false_or, not_true_eq_false, not_false_eq_true, ite_self, ↓reduceIte, hn]
  exact hG _
end My
