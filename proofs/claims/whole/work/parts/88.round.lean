/-! the law, round after round -/
theorem i_an31 {x : Nat} : nI x &&& nI 31 = nI (x % 32) := by
  have e : ∀ y, (nI y).toBitVec.toNat = y % 2 ^ 32 := fun y => by
    show (BitVec.ofNat 32 y).toNat = _
    simp
  apply Int32.toBitVec_inj.mp
  apply BitVec.eq_of_toNat_eq
  rw [Int32.toBitVec_and, BitVec.toNat_and, e, e, e, show 31 % 2 ^ 32 = 2 ^ 5 - 1 from rfl, Nat.and_two_pow_sub_one_eq_mod]
  omega
theorem i_lm6 {Ls i : Nat} (h1 : Ls ≤ 3072) (h2 : i ≤ 3072) : (nI Ls - nI 6 < nI (6 * i)) = (Ls < 6 * i + 6) := by
  by_cases q : 6 ≤ Ls
  · rw [i_sub q, i_ltU (by omega) (by omega)]
    exact propext ⟨fun w => by omega, fun w => by omega⟩
  · have e : nI Ls - nI 6 = nI (Ls + 4294967290) := by
      rcases (show Ls = 0 ∨ Ls = 1 ∨ Ls = 2 ∨ Ls = 3 ∨ Ls = 4 ∨ Ls = 5 by omega) with rfl | rfl | rfl | rfl | rfl | rfl
      all_goals decide
    rw [e, i_ltU (by omega) (by omega)]
    exact propext ⟨fun w => by omega, fun w => by omega⟩
def HeldOK : Prop := ∀ (Z : aZ) (N : Nat → Nat → Nat) (L : Nat → Nat → Int64) (c : Nat × Nat) (S : aSt) (g i Ls : Nat) (a5 a6 a7 a8 : Option Value), LH Z N S g i Ls → NX Z N c i g (ex 211 1648 [some (.ref 100000), some (.ref 0), some (.ref 144), some (.ref 152), some (.int (nI (6 * i))), a5, a6, a7, a8] [] (Z, iN N, L, c))
def DigestOK : Prop := ∀ (Z : aZ) (N : Nat → Nat → Nat) (L : Nat → Nat → Int64) (c : Nat × Nat) (S : aSt) (g i Ls : Nat) (a5 a6 a7 a8 : Option Value), LH Z N S g i Ls → NX Z N c i g (ex 211 1689 [some (.ref 100000), some (.ref 0), some (.ref 144), some (.ref 152), some (.int (nI (6 * i))), a5, a6, a7, a8] [] (Z, iN N, L, c))
theorem lc_all (hH : HeldOK) (hD : DigestOK) {Z : aZ} {N : Nat → Nat → Nat} {L : Nat → Nat → Int64} {c : Nat × Nat} {S : aSt} {g i Ls d : Nat} {a5 a6 a7 a8 : Option Value} (H : LH Z N S g i Ls) (hd : d < 32) : NX Z N c i g (ex 211 40 [some (.ref 100000), some (.ref 0), some (.ref 144), some (.ref 152), some (.int (nI (6 * i))), a5, a6, a7, a8] [.int (nI d)] (Z, iN N, L, c)) := by
  by_cases q : 26 < d
  · obtain ⟨hC, hM, -, -, -, -, hI, hO, hS, hK, hg⟩ := H
    rw [r_L_law_40_d _ _ _ _ (Or.inr (by rw [t_nI (by omega)]; omega))]
    exact NX_mk hI (fun _ _ => rfl) (MV_le hO.1) (fun _ _ => rfl) hS hK (Or.inl rfl) hg
  · rcases (show d = 0 ∨ d = 1 ∨ d = 2 ∨ d = 3 ∨ d = 4 ∨ d = 5 ∨ d = 6 ∨ d = 7 ∨ d = 8 ∨ d = 9 ∨ d = 10 ∨ d = 11 ∨ d = 12 ∨ d = 13 ∨ d = 14 ∨ d = 15 ∨ d = 16 ∨ d = 17 ∨ d = 18 ∨ d = 19 ∨ d = 20 ∨ d = 21 ∨ d = 22 ∨ d = 23 ∨ d = 24 ∨ d = 25 ∨ d = 26 by omega) with rfl | rfl | rfl | rfl | rfl | rfl | rfl | rfl | rfl | rfl | rfl | rfl | rfl | rfl | rfl | rfl | rfl | rfl | rfl | rfl | rfl | rfl | rfl | rfl | rfl | rfl | rfl
    · rw [r_L_law_40_0]
      exact lc_book H
    · rw [r_L_law_40_1]
      exact lc_unbook H
    · rw [r_L_law_40_2]
      exact lc_set H
    · rw [r_L_law_40_3]
      exact lc_pass H
    · rw [r_L_law_40_4]
      exact lc_inspect H
    · rw [r_L_law_40_5]
      exact lc_fix H
    · rw [r_L_law_40_6]
      exact lc_claim H
    · rw [r_L_law_40_7]
      exact lc_release H
    · rw [r_L_law_40_8]
      exact lc_append H
    · rw [r_L_law_40_9]
      exact lc_clear H
    · rw [r_L_law_40_10]
      exact lc_first H
    · rw [r_L_law_40_11]
      exact lc_addHouse H
    · rw [r_L_law_40_12]
      exact lc_setWinds H
    · rw [r_L_law_40_13]
      exact lc_undo H
    · rw [r_L_law_40_14]
      exact lc_house H
    · rw [r_L_law_40_15]
      exact lc_module H
    · rw [r_L_law_40_16]
      exact lc_share H
    · rw [r_L_law_40_17]
      exact lc_trade H
    · rw [r_L_law_40_18]
      exact lc_day H
    · rw [r_L_law_40_19]
      exact lc_count H
    · rw [r_L_law_40_20]
      exact lc_setting H
    · rw [r_L_law_40_21]
      exact lc_ends H
    · rw [r_L_law_40_22]
      exact lc_bestDay H
    · rw [r_L_law_40_23]
      exact lc_ifPassed H
    · rw [r_L_law_40_24]
      exact lc_worst H
    · rw [r_L_law_40_25]
      exact hH Z N L c S g i Ls a5 a6 a7 a8 H
    · rw [r_L_law_40_26]
      exact hD Z N L c S g i Ls a5 a6 a7 a8 H
theorem lw_loop (hH : HeldOK) (hD : DigestOK) {Z : aZ} {Ls : Nat} (hC : ZC Z) (hM : MAt Z) (z1 : Z.1 152 = 1 ∧ Z.2.1 152 = 1) (y0 : rdk (Z.1 100000) = true ∧ Z.2.1 100000 = Ls) (hL : Ls ≤ 3072) : ∀ (k i : Nat) (N : Nat → Nat → Nat) (L : Nat → Nat → Int64) (c : Nat × Nat) (S : aSt) (a5 a6 a7 a8 : Option Value), 6 * i + 6 * k ≤ Ls → Ls < 6 * i + 6 * k + 6 → (∀ j, N 100000 j < 4294967296) → CI N S → MO N S i → SOK S → HSK S →
    ∃ h', ex 211 23 [some (.ref 100000), some (.ref 0), some (.ref 144), some (.ref 152), some (.int (nI (6 * i))), a5, a6, a7, a8] [] (Z, iN N, L, c) = some (.inl (some (.int (nI 1))), h') ∧ h'.1 = Z ∧ h'.2.2.2.1 ≤ c.1 + k ∧ h'.2.2.2.2 ≤ c.2 + 6 * k
  | 0, i, N, L, c, S, a5, a6, a7, a8, h1, h2, k4, hI, hO, hS, hK => by
    obtain ⟨y1, y2⟩ := y0
    have e := i_lm6 (Ls := Ls) (i := i) hL (by omega)
    have q : (Ls < 6 * i + 6) = True := eq_true (by omega)
    rw [q] at e
    refine ⟨(Z, iN N, L, c), ?_, rfl, Nat.le_refl _, Nat.le_refl _⟩
    simp (disch := omega) only [r_L_law_23, r_L_law_25, r_L_law_26, r_L_law_27, r_L_law_29, r_L_law_30, r_L_law_1709, r_L_law_1710, up2_o, up2_e, iN_ap, iN_up, i_ix, i_inb, i_lt, i_lt0, i_0lt, i_eq, i_ne0, i_00, i_11, i_01, i_10, i_b, i_rem2, n_rem, i_add, i_mul, i_div, i_max, i_min, rdk_0, rdk_3, kp_none, kp_int, kp_ref, kp_long, kp_double, aK_v, aK_0, aK_ite, if_true, if_false, and_self, and_true, true_and, or_false, false_or, not_true_eq_false, not_false_eq_true, ite_self, ↓reduceIte, y1, y2, e, eq_self]
  | k + 1, i, N, L, c, S, a5, a6, a7, a8, h1, h2, k4, hI, hO, hS, hK => by
    have hg : i ≤ 511 := by omega
    obtain ⟨N', L', c', S', b5, b6, b7, b8, e1, e2, e3, e4, eK, e5, e6, e7⟩ := lc_all (L := L) (c := c) (a5 := a5) (a6 := a6) (a7 := a7) (a8 := a8) hH hD (show LH Z N S i i Ls from ⟨hC, hM, z1, y0, ⟨by omega, hL⟩, k4, hI, hO, hS, hK, hg⟩) (show N 100000 (6 * i) % 32 < 32 from Nat.mod_lt _ (by omega))
    obtain ⟨h', f1, f2, f3, f4⟩ := lw_loop hH hD hC hM z1 y0 hL k (i + 1) N' L' c' S' b5 b6 b7 b8 (by omega) (by omega) (by rw [e5]; exact k4) e2 e3 e4 eK
    refine ⟨h', ?_, f2, by omega, by omega⟩
    obtain ⟨y1, y2⟩ := y0
    have e := i_lm6 (Ls := Ls) (i := i) hL (by omega)
    have q : (Ls < 6 * i + 6) = False := eq_false (by omega)
    rw [q] at e
    rw [show 6 * (i + 1) = 6 * i + 6 by omega] at f1
    simp (disch := omega) only [r_L_law_23, r_L_law_25, r_L_law_26, r_L_law_27, r_L_law_29, r_L_law_30, r_L_law_33, r_L_law_34, r_L_law_36, r_L_law_37, r_L_law_39, up2_o, up2_e, iN_ap, iN_up, i_ix, i_inb, i_lt, i_lt0, i_0lt, i_eq, i_ne0, i_00, i_11, i_01, i_10, i_b, i_rem2, n_rem, i_add, i_mul, i_div, i_max, i_min, rdk_0, rdk_3, kp_none, kp_int, kp_ref, kp_long, kp_double, aK_v, aK_0, aK_ite, if_true, if_false, and_self, and_true, true_and, or_false, false_or, not_true_eq_false, not_false_eq_true, ite_self, ↓reduceIte, y1, y2, e, i_an31]
    rw [e1]
    simp (disch := omega) only [r_L_law_1703, r_L_law_1706, up2_o, up2_e, iN_ap, iN_up, i_ix, i_inb, i_lt, i_lt0, i_0lt, i_eq, i_ne0, i_00, i_11, i_01, i_10, i_b, i_rem2, n_rem, i_add, i_mul, i_sub, i_div, i_max, i_min, rdk_0, rdk_3, kp_none, kp_int, kp_ref, kp_long, kp_double, aK_v, aK_0, aK_ite, if_true, if_false, and_self, and_true, true_and, or_false, false_or, not_true_eq_false, not_false_eq_true, ite_self, ↓reduceIte]
    exact f1
theorem lw_spec (hH : HeldOK) (hD : DigestOK) {Ls : Nat} {xs : Nat → Int32} (hL : Ls ≤ 3072) : ∃ h', ex 211 0 (lay 9 [.ref 100000]) [] (h00 Ls xs) = some (.inl (some (.int 1)), h') ∧ cn h' ≤ 601024 ∧ us h' ≤ 7293034 := by
  obtain ⟨Z, I, L, u, e0, hC, hM, z1, y0, zn, i1, i2, i3, i4, i5, i6, i7, i8, i9, hu⟩ := n_law (Ls := Ls) (xs := xs)
  obtain ⟨N, S, n1, n2, hI, hO, hS, hK⟩ := n_start i1 i2 i3 i4 i5 i6 i8 i9
  obtain ⟨h', f1, f2, f3, f4⟩ := lw_loop hH hD hC hM z1 ⟨by rw [y0.1]; rfl, y0.2⟩ hL (Ls / 6) 0 N L (0, u) S none none none none (by omega) (by omega) (n2 100000) hI hO hS hK
  refine ⟨h', ?_, ?_, ?_⟩
  · rw [e0, n1]
    exact f1
  · show h'.1.2.2.2 + h'.2.2.2.1 ≤ 601024
    rw [f2, zn]
    dsimp only at f3
    omega
  · show h'.2.2.2.2 ≤ 7293034
    dsimp only at f4
    omega
