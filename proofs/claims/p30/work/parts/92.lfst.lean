/-! the first of the modules in a state, by day, then by booking -/
def fC (N : Nat → Nat → Nat) (mo cc s dd af m : Nat) : Prop := lTh (N cc) m = true ∧ N mo (5 * m + 2) = s ∧ (dd = 4294967295 ∨ N mo (5 * m + 3) = dd) ∧ af ≤ N mo (5 * m + 4)
def fL (N : Nat → Nat → Nat) (mo a b : Nat) : Prop := N mo (5 * a + 3) < N mo (5 * b + 3) ∨ (N mo (5 * a + 3) = N mo (5 * b + 3) ∧ N mo (5 * a + 4) < N mo (5 * b + 4))
def FI (N : Nat → Nat → Nat) (mo cc s dd af i b : Nat) : Prop := (b = 4294967295 ∧ ∀ m, m < i → ¬ fC N mo cc s dd af m) ∨ (b < i ∧ fC N mo cc s dd af b ∧ ∀ m, m < i → fC N mo cc s dd af m → ¬ fL N mo m b)
theorem FI_skip {N : Nat → Nat → Nat} {mo cc s dd af i b : Nat} (h : FI N mo cc s dd af i b) (hn : ¬ fC N mo cc s dd af i) : FI N mo cc s dd af (i + 1) b := by
  rcases h with ⟨h1, h2⟩ | ⟨h1, h2, h3⟩
  · refine Or.inl ⟨h1, fun m hm => ?_⟩
    by_cases q : m = i
    · rw [q]; exact hn
    · exact h2 m (by omega)
  · refine Or.inr ⟨by omega, h2, fun m hm hc => ?_⟩
    by_cases q : m = i
    · rw [q] at hc; exact absurd hc hn
    · exact h3 m (by omega) hc
theorem FI_none {N : Nat → Nat → Nat} {mo cc s dd af i b : Nat} (h : FI N mo cc s dd af i b) (hi : i ≤ 12) (hb : b = 4294967295) (hc : fC N mo cc s dd af i) : FI N mo cc s dd af (i + 1) i := by
  rcases h with ⟨h1, h2⟩ | ⟨h1, h2, h3⟩
  · refine Or.inr ⟨by omega, hc, fun m hm hc2 => ?_⟩
    by_cases q : m = i
    · rw [q]; unfold fL; omega
    · exact absurd hc2 (h2 m (by omega))
  · omega
theorem FI_take {N : Nat → Nat → Nat} {mo cc s dd af i b : Nat} (h : FI N mo cc s dd af i b) (hb : b ≠ 4294967295) (hc : fC N mo cc s dd af i) (hl : fL N mo i b) : FI N mo cc s dd af (i + 1) i := by
  rcases h with ⟨h1, h2⟩ | ⟨h1, h2, h3⟩
  · exact absurd h1 hb
  · refine Or.inr ⟨by omega, hc, fun m hm hc2 => ?_⟩
    by_cases q : m = i
    · rw [q]; unfold fL; omega
    · have := h3 m (by omega) hc2
      unfold fL at *
      omega
theorem FI_keep {N : Nat → Nat → Nat} {mo cc s dd af i b : Nat} (h : FI N mo cc s dd af i b) (hb : b ≠ 4294967295) (hl : ¬ fL N mo i b) : FI N mo cc s dd af (i + 1) b := by
  rcases h with ⟨h1, h2⟩ | ⟨h1, h2, h3⟩
  · exact absurd h1 hb
  · refine Or.inr ⟨by omega, h2, fun m hm hc2 => ?_⟩
    by_cases q : m = i
    · rw [q]; exact hl
    · exact h3 m (by omega) hc2
theorem FI_nil {N : Nat → Nat → Nat} {mo cc s dd af b : Nat} (h : FI N mo cc s dd af 12 b) (hm : ∀ m, m < 12 → ¬ fC N mo cc s dd af m) : b = 4294967295 := by
  rcases h with ⟨h1, h2⟩ | ⟨h1, h2, h3⟩
  · exact h1
  · exact absurd h2 (hm b h1)
theorem FI_cons {N : Nat → Nat → Nat} {mo cc s dd af b p : Nat} {rs : List Nat} (h : FI N mo cc s dd af 12 b) (hm : ∀ m, m < 12 → (fC N mo cc s dd af m ↔ pl m ∈ p :: rs)) (hp : lp p < 12 ∧ pl (lp p) = p) (hs : ∀ x ∈ rs, fL N mo (lp p) (lp x)) : b = lp p := by
  have hc : fC N mo cc s dd af (lp p) := (hm _ hp.1).mpr (by rw [hp.2]; exact List.mem_cons_self)
  rcases h with ⟨h1, h2⟩ | ⟨h1, h2, h3⟩
  · exact absurd hc (h2 _ hp.1)
  · rcases List.mem_cons.mp ((hm b h1).mp h2) with w | w
    · rw [← w, lp_pl]
    · have := hs _ w
      rw [lp_pl] at this
      exact absurd this (h3 _ hp.1 hc)
theorem lz_neg {dd : Nat} (h : dd = 4294967295 ∨ dd < 2000) : (nI dd < 0) = (dd = 4294967295) := by
  rcases h with rfl | h
  · exact (eq_true (by decide)).trans (eq_true rfl).symm
  · rw [i_lt0 (by omega)]
    exact (eq_false (by omega)).symm
theorem lz_af {af k : Nat} (ha : af ≤ 2000) (hk : k < 2000) : (nI (af + 4294967295) < nI k) = (af ≤ k) := by
  cases af with
  | zero =>
    refine (eq_true ?_).trans (eq_true (Nat.zero_le k)).symm
    have := i_ltU (x := 4294967295) (b := k) (by omega) (by omega)
    rw [Nat.zero_add, this]
    exact Or.inr (by omega)
  | succ a =>
    have e : nI (a + 1 + 4294967295) = nI a := by
      apply Int32.toBitVec_inj.mp
      apply BitVec.eq_of_toNat_eq
      show (BitVec.ofNat 32 (a + 1 + 4294967295)).toNat = (BitVec.ofNat 32 a).toNat
      rw [BitVec.toNat_ofNat, BitVec.toNat_ofNat]
      omega
    rw [e, i_lt (by omega) (by omega)]
    exact propext ⟨fun h => h, fun h => h⟩
section Lf
variable {Z : aZ} {N : Nat → Nat → Nat} {L : Nat → Nat → Int64} {u : Nat × Nat} {mo mi sh cc : Nat}
theorem lz_first_loop {s dd af : Nat} (hA : LA Z mo mi sh cc) (hb : LB N mo cc) (hdd : dd = 4294967295 ∨ dd < 2000) (haf : af ≤ 2000) (hs : s ≤ 3) : ∀ (k i b : Nat), i + k = 12 → FI N mo cc s dd af i b →
    ∃ b', ex 103 6 [some (.int (nI s)), some (.int (nI dd)), some (.int (nI (af + 4294967295))), some (.ref mo), some (.ref cc), some (.int (nI b)), some (.int (nI i))] [] (Z, iN N, L, u) = some (.inl (some (.int (nI b'))), (Z, iN N, L, u)) ∧ FI N mo cc s dd af 12 b'
  | 0, i, b, e, h => by
    have ei : i = 12 := by omega
    subst ei
    refine ⟨b, ?_, h⟩
    simp (disch := omega) only [r_L_first_0, r_L_first_1, r_L_first_3, r_L_first_4, r_L_first_6, r_L_first_8, r_L_first_10, r_L_first_13, r_L_first_15, r_L_first_17, r_L_first_20, r_L_first_23, r_L_first_24, r_L_first_25, r_L_first_27, r_L_first_28, r_L_first_29, r_L_first_30, r_L_first_31, r_L_first_32, r_L_first_35, r_L_first_36, r_L_first_39, r_L_first_40, r_L_first_41, r_L_first_43, r_L_first_44, r_L_first_45, r_L_first_46, r_L_first_47, r_L_first_48, r_L_first_51, r_L_first_52, r_L_first_53, r_L_first_55, r_L_first_56, r_L_first_57, r_L_first_58, r_L_first_59, r_L_first_60, r_L_first_63, r_L_first_66, r_L_first_68, r_L_first_71, r_L_first_72, r_L_first_73, r_L_first_75, r_L_first_76, r_L_first_77, r_L_first_78, r_L_first_79, r_L_first_80, r_L_first_81, r_L_first_83, r_L_first_84, r_L_first_85, r_L_first_86, r_L_first_87, r_L_first_90, r_L_first_91, r_L_first_92, r_L_first_94, r_L_first_95, r_L_first_96, r_L_first_97, r_L_first_98, r_L_first_99, r_L_first_100, r_L_first_102, r_L_first_103, r_L_first_104, r_L_first_105, r_L_first_106, r_L_first_109, r_L_first_110, r_L_first_111, r_L_first_113, r_L_first_114, r_L_first_115, r_L_first_116, r_L_first_117, r_L_first_118, r_L_first_119, r_L_first_121, r_L_first_122, r_L_first_123, r_L_first_124, r_L_first_125, r_L_first_128, r_L_first_130, r_L_first_132, r_L_first_135, r_L_first_138, r_L_first_140, up2_o, up2_e, iN_ap, iN_up, i_ix, i_inb, i_lt, i_lt0, i_0lt, i_eq, i_ne0, i_00, i_11, i_01, i_10, i_b, i_rem2, n_rem, i_add, i_mul, i_sub, i_div, i_max, i_min, rdk_0, rdk_3, kp_none, kp_int, kp_ref, kp_long, kp_double, aK_v, aK_0, aK_ite, if_true, if_false, and_self, and_true, true_and, or_false, false_or, not_true_eq_false, not_false_eq_true, ite_self, ↓reduceIte, eq_self, Bool.false_eq_true, Nat.lt_irrefl]
  | k + 1, i, b, e, h => by
    have q : i < 12 := by omega
    obtain ⟨b1, b2, b3, b4⟩ := hb.2.2.1 i q
    have ht := lz_there (L := L) (u := u) hA.2.2.2.1 q hb
    have zd := lz_neg hdd
    have za := lz_af haf b4
    have hbb : b = 4294967295 ∨ b < 2000 := by
      rcases h with ⟨h1, -⟩ | ⟨h1, -⟩
      · exact Or.inl h1
      · exact Or.inr (by omega)
    have zb := lz_neg hbb
    have skip : ¬ fC N mo cc s dd af i → ∃ b', ex 103 6 [some (.int (nI s)), some (.int (nI dd)), some (.int (nI (af + 4294967295))), some (.ref mo), some (.ref cc), some (.int (nI b)), some (.int (nI (i + 1)))] [] (Z, iN N, L, u) = some (.inl (some (.int (nI b'))), (Z, iN N, L, u)) ∧ FI N mo cc s dd af 12 b' := fun hn => lz_first_loop hA hb hdd haf hs k (i + 1) b (by omega) (FI_skip h hn)
    rw [r_L_first_6]
    by_cases t : lTh (N cc) i = true
    · by_cases s1 : N mo (5 * i + 2) = s
      · have go : ∀ (_ : fC N mo cc s dd af i), (∃ b', ex 103 66 [some (.int (nI s)), some (.int (nI dd)), some (.int (nI (af + 4294967295))), some (.ref mo), some (.ref cc), some (.int (nI b)), some (.int (nI i))] [] (Z, iN N, L, u) = some (.inl (some (.int (nI b'))), (Z, iN N, L, u)) ∧ FI N mo cc s dd af 12 b') := by
          intro hc
          by_cases w : b = 4294967295
          · obtain ⟨b', h1, h2⟩ := lz_first_loop hA hb hdd haf hs k (i + 1) i (by omega) (FI_none h (by omega) w hc)
            refine ⟨b', ?_, h2⟩
            have w2 : (nI b < 0) = True := by rw [zb]; exact eq_true w
            simp (disch := omega) only [r_L_first_66, r_L_first_68, r_L_first_71, r_L_first_72, r_L_first_73, r_L_first_75, r_L_first_76, r_L_first_77, r_L_first_78, r_L_first_79, r_L_first_80, r_L_first_81, r_L_first_83, r_L_first_84, r_L_first_85, r_L_first_86, r_L_first_87, r_L_first_90, r_L_first_91, r_L_first_92, r_L_first_94, r_L_first_95, r_L_first_96, r_L_first_97, r_L_first_98, r_L_first_99, r_L_first_100, r_L_first_102, r_L_first_103, r_L_first_104, r_L_first_105, r_L_first_106, r_L_first_109, r_L_first_110, r_L_first_111, r_L_first_113, r_L_first_114, r_L_first_115, r_L_first_116, r_L_first_117, r_L_first_118, r_L_first_119, r_L_first_121, r_L_first_122, r_L_first_123, r_L_first_124, r_L_first_125, r_L_first_128, r_L_first_130, r_L_first_132, r_L_first_135, up2_o, up2_e, iN_ap, iN_up, i_ix, i_inb, i_lt, i_lt0, i_0lt, i_eq, i_ne0, i_00, i_11, i_01, i_10, i_b, i_rem2, n_rem, i_add, i_mul, i_sub, i_div, i_max, i_min, rdk_0, rdk_3, kp_none, kp_int, kp_ref, kp_long, kp_double, aK_v, aK_0, aK_ite, if_true, if_false, and_self, and_true, true_and, or_false, false_or, not_true_eq_false, not_false_eq_true, ite_self, ↓reduceIte, eq_self, Bool.false_eq_true, w2]
            exact h1
          · have w2 : (nI b < 0) = False := by rw [zb]; exact eq_false w
            have hb12 : b < 12 := by
              rcases h with ⟨h1, -⟩ | ⟨h1, -⟩
              · exact absurd h1 w
              · omega
            obtain ⟨v1, v2, v3, v4⟩ := hb.2.2.1 b hb12
            by_cases g1 : N mo (5 * i + 3) < N mo (5 * b + 3)
            · obtain ⟨b', h1, h2⟩ := lz_first_loop hA hb hdd haf hs k (i + 1) i (by omega) (FI_take h w hc (Or.inl g1))
              refine ⟨b', ?_, h2⟩
              simp (disch := omega) only [r_L_first_66, r_L_first_68, r_L_first_71, r_L_first_72, r_L_first_73, r_L_first_75, r_L_first_76, r_L_first_77, r_L_first_78, r_L_first_79, r_L_first_80, r_L_first_81, r_L_first_83, r_L_first_84, r_L_first_85, r_L_first_86, r_L_first_87, r_L_first_90, r_L_first_91, r_L_first_92, r_L_first_94, r_L_first_95, r_L_first_96, r_L_first_97, r_L_first_98, r_L_first_99, r_L_first_100, r_L_first_102, r_L_first_103, r_L_first_104, r_L_first_105, r_L_first_106, r_L_first_109, r_L_first_110, r_L_first_111, r_L_first_113, r_L_first_114, r_L_first_115, r_L_first_116, r_L_first_117, r_L_first_118, r_L_first_119, r_L_first_121, r_L_first_122, r_L_first_123, r_L_first_124, r_L_first_125, r_L_first_128, r_L_first_130, r_L_first_132, r_L_first_135, up2_o, up2_e, iN_ap, iN_up, i_ix, i_inb, i_lt, i_lt0, i_0lt, i_eq, i_ne0, i_00, i_11, i_01, i_10, i_b, i_rem2, n_rem, i_add, i_mul, i_sub, i_div, i_max, i_min, rdk_0, rdk_3, kp_none, kp_int, kp_ref, kp_long, kp_double, aK_v, aK_0, aK_ite, if_true, if_false, and_self, and_true, true_and, or_false, false_or, not_true_eq_false, not_false_eq_true, ite_self, ↓reduceIte, eq_self, Bool.false_eq_true, hA.1.1, hA.1.2, hA.2.1.1, hA.2.1.2, hA.2.2.1.1, hA.2.2.1.2, hA.2.2.2.1.1, hA.2.2.2.1.2, hA.2.2.2.2.1.1, hA.2.2.2.2.1.2, hA.2.2.2.2.2.1, hA.2.2.2.2.2.2, w2, g1]
              exact h1
            · by_cases g2 : N mo (5 * i + 3) = N mo (5 * b + 3)
              · by_cases g3 : N mo (5 * i + 4) < N mo (5 * b + 4)
                · obtain ⟨b', h1, h2⟩ := lz_first_loop hA hb hdd haf hs k (i + 1) i (by omega) (FI_take h w hc (Or.inr ⟨g2, g3⟩))
                  refine ⟨b', ?_, h2⟩
                  simp (disch := omega) only [r_L_first_66, r_L_first_68, r_L_first_71, r_L_first_72, r_L_first_73, r_L_first_75, r_L_first_76, r_L_first_77, r_L_first_78, r_L_first_79, r_L_first_80, r_L_first_81, r_L_first_83, r_L_first_84, r_L_first_85, r_L_first_86, r_L_first_87, r_L_first_90, r_L_first_91, r_L_first_92, r_L_first_94, r_L_first_95, r_L_first_96, r_L_first_97, r_L_first_98, r_L_first_99, r_L_first_100, r_L_first_102, r_L_first_103, r_L_first_104, r_L_first_105, r_L_first_106, r_L_first_109, r_L_first_110, r_L_first_111, r_L_first_113, r_L_first_114, r_L_first_115, r_L_first_116, r_L_first_117, r_L_first_118, r_L_first_119, r_L_first_121, r_L_first_122, r_L_first_123, r_L_first_124, r_L_first_125, r_L_first_128, r_L_first_130, r_L_first_132, r_L_first_135, up2_o, up2_e, iN_ap, iN_up, i_ix, i_inb, i_lt, i_lt0, i_0lt, i_eq, i_ne0, i_00, i_11, i_01, i_10, i_b, i_rem2, n_rem, i_add, i_mul, i_sub, i_div, i_max, i_min, rdk_0, rdk_3, kp_none, kp_int, kp_ref, kp_long, kp_double, aK_v, aK_0, aK_ite, if_true, if_false, and_self, and_true, true_and, or_false, false_or, not_true_eq_false, not_false_eq_true, ite_self, ↓reduceIte, eq_self, Bool.false_eq_true, hA.1.1, hA.1.2, hA.2.1.1, hA.2.1.2, hA.2.2.1.1, hA.2.2.1.2, hA.2.2.2.1.1, hA.2.2.2.1.2, hA.2.2.2.2.1.1, hA.2.2.2.2.1.2, hA.2.2.2.2.2.1, hA.2.2.2.2.2.2, w2, g2, g3, Nat.lt_irrefl]
                  exact h1
                · obtain ⟨b', h1, h2⟩ := lz_first_loop hA hb hdd haf hs k (i + 1) b (by omega) (FI_keep h w (by unfold fL; omega))
                  refine ⟨b', ?_, h2⟩
                  simp (disch := omega) only [r_L_first_66, r_L_first_68, r_L_first_71, r_L_first_72, r_L_first_73, r_L_first_75, r_L_first_76, r_L_first_77, r_L_first_78, r_L_first_79, r_L_first_80, r_L_first_81, r_L_first_83, r_L_first_84, r_L_first_85, r_L_first_86, r_L_first_87, r_L_first_90, r_L_first_91, r_L_first_92, r_L_first_94, r_L_first_95, r_L_first_96, r_L_first_97, r_L_first_98, r_L_first_99, r_L_first_100, r_L_first_102, r_L_first_103, r_L_first_104, r_L_first_105, r_L_first_106, r_L_first_109, r_L_first_110, r_L_first_111, r_L_first_113, r_L_first_114, r_L_first_115, r_L_first_116, r_L_first_117, r_L_first_118, r_L_first_119, r_L_first_121, r_L_first_122, r_L_first_123, r_L_first_124, r_L_first_125, r_L_first_128, r_L_first_130, r_L_first_132, r_L_first_135, up2_o, up2_e, iN_ap, iN_up, i_ix, i_inb, i_lt, i_lt0, i_0lt, i_eq, i_ne0, i_00, i_11, i_01, i_10, i_b, i_rem2, n_rem, i_add, i_mul, i_sub, i_div, i_max, i_min, rdk_0, rdk_3, kp_none, kp_int, kp_ref, kp_long, kp_double, aK_v, aK_0, aK_ite, if_true, if_false, and_self, and_true, true_and, or_false, false_or, not_true_eq_false, not_false_eq_true, ite_self, ↓reduceIte, eq_self, Bool.false_eq_true, hA.1.1, hA.1.2, hA.2.1.1, hA.2.1.2, hA.2.2.1.1, hA.2.2.1.2, hA.2.2.2.1.1, hA.2.2.2.1.2, hA.2.2.2.2.1.1, hA.2.2.2.2.1.2, hA.2.2.2.2.2.1, hA.2.2.2.2.2.2, w2, g2, g3, Nat.lt_irrefl]
                  exact h1
              · obtain ⟨b', h1, h2⟩ := lz_first_loop hA hb hdd haf hs k (i + 1) b (by omega) (FI_keep h w (by unfold fL; omega))
                refine ⟨b', ?_, h2⟩
                simp (disch := omega) only [r_L_first_66, r_L_first_68, r_L_first_71, r_L_first_72, r_L_first_73, r_L_first_75, r_L_first_76, r_L_first_77, r_L_first_78, r_L_first_79, r_L_first_80, r_L_first_81, r_L_first_83, r_L_first_84, r_L_first_85, r_L_first_86, r_L_first_87, r_L_first_90, r_L_first_91, r_L_first_92, r_L_first_94, r_L_first_95, r_L_first_96, r_L_first_97, r_L_first_98, r_L_first_99, r_L_first_100, r_L_first_102, r_L_first_103, r_L_first_104, r_L_first_105, r_L_first_106, r_L_first_109, r_L_first_110, r_L_first_111, r_L_first_113, r_L_first_114, r_L_first_115, r_L_first_116, r_L_first_117, r_L_first_118, r_L_first_119, r_L_first_121, r_L_first_122, r_L_first_123, r_L_first_124, r_L_first_125, r_L_first_128, r_L_first_130, r_L_first_132, r_L_first_135, up2_o, up2_e, iN_ap, iN_up, i_ix, i_inb, i_lt, i_lt0, i_0lt, i_eq, i_ne0, i_00, i_11, i_01, i_10, i_b, i_rem2, n_rem, i_add, i_mul, i_sub, i_div, i_max, i_min, rdk_0, rdk_3, kp_none, kp_int, kp_ref, kp_long, kp_double, aK_v, aK_0, aK_ite, if_true, if_false, and_self, and_true, true_and, or_false, false_or, not_true_eq_false, not_false_eq_true, ite_self, ↓reduceIte, eq_self, Bool.false_eq_true, hA.1.1, hA.1.2, hA.2.1.1, hA.2.1.2, hA.2.2.1.1, hA.2.2.1.2, hA.2.2.2.1.1, hA.2.2.2.1.2, hA.2.2.2.2.1.1, hA.2.2.2.2.1.2, hA.2.2.2.2.2.1, hA.2.2.2.2.2.2, w2, g1, g2]
                exact h1
        have day : (dd = 4294967295 ∨ N mo (5 * i + 3) = dd) → (∃ b', ex 103 51 [some (.int (nI s)), some (.int (nI dd)), some (.int (nI (af + 4294967295))), some (.ref mo), some (.ref cc), some (.int (nI b)), some (.int (nI i))] [] (Z, iN N, L, u) = some (.inl (some (.int (nI b'))), (Z, iN N, L, u)) ∧ FI N mo cc s dd af 12 b') := by
          intro hd
          by_cases g : af ≤ N mo (5 * i + 4)
          · have ga : (nI (af + 4294967295) < nI (N mo (5 * i + 4))) = True := by rw [za]; exact eq_true g
            obtain ⟨b', h1, h2⟩ := go ⟨t, s1, hd, g⟩
            refine ⟨b', ?_, h2⟩
            simp (disch := omega) only [r_L_first_51, r_L_first_52, r_L_first_53, r_L_first_55, r_L_first_56, r_L_first_57, r_L_first_58, r_L_first_59, r_L_first_60, r_L_first_63, up2_o, up2_e, iN_ap, iN_up, i_ix, i_inb, i_lt, i_lt0, i_0lt, i_eq, i_ne0, i_00, i_11, i_01, i_10, i_b, i_rem2, n_rem, i_add, i_mul, i_sub, i_div, i_max, i_min, rdk_0, rdk_3, kp_none, kp_int, kp_ref, kp_long, kp_double, aK_v, aK_0, aK_ite, if_true, if_false, and_self, and_true, true_and, or_false, false_or, not_true_eq_false, not_false_eq_true, ite_self, ↓reduceIte, eq_self, Bool.false_eq_true, hA.1.1, hA.1.2, hA.2.1.1, hA.2.1.2, hA.2.2.1.1, hA.2.2.1.2, hA.2.2.2.1.1, hA.2.2.2.1.2, hA.2.2.2.2.1.1, hA.2.2.2.2.1.2, hA.2.2.2.2.2.1, hA.2.2.2.2.2.2, ga]
            exact h1
          · have ga : (nI (af + 4294967295) < nI (N mo (5 * i + 4))) = False := by rw [za]; exact eq_false g
            obtain ⟨b', h1, h2⟩ := skip (fun z => g z.2.2.2)
            refine ⟨b', ?_, h2⟩
            simp (disch := omega) only [r_L_first_51, r_L_first_52, r_L_first_53, r_L_first_55, r_L_first_56, r_L_first_57, r_L_first_58, r_L_first_59, r_L_first_60, r_L_first_63, r_L_first_132, r_L_first_135, up2_o, up2_e, iN_ap, iN_up, i_ix, i_inb, i_lt, i_lt0, i_0lt, i_eq, i_ne0, i_00, i_11, i_01, i_10, i_b, i_rem2, n_rem, i_add, i_mul, i_sub, i_div, i_max, i_min, rdk_0, rdk_3, kp_none, kp_int, kp_ref, kp_long, kp_double, aK_v, aK_0, aK_ite, if_true, if_false, and_self, and_true, true_and, or_false, false_or, not_true_eq_false, not_false_eq_true, ite_self, ↓reduceIte, eq_self, Bool.false_eq_true, hA.1.1, hA.1.2, hA.2.1.1, hA.2.1.2, hA.2.2.1.1, hA.2.2.1.2, hA.2.2.2.1.1, hA.2.2.2.1.2, hA.2.2.2.2.1.1, hA.2.2.2.2.1.2, hA.2.2.2.2.2.1, hA.2.2.2.2.2.2, ga]
            exact h1
        by_cases d1 : dd = 4294967295
        · have w2 : (nI dd < 0) = True := by rw [zd]; exact eq_true d1
          obtain ⟨b', h1, h2⟩ := day (Or.inl d1)
          refine ⟨b', ?_, h2⟩
          simp (disch := omega) only [r_L_first_8, r_L_first_10, r_L_first_13, r_L_first_15, r_L_first_17, r_L_first_20, r_L_first_23, r_L_first_24, r_L_first_25, r_L_first_27, r_L_first_28, r_L_first_29, r_L_first_30, r_L_first_31, r_L_first_32, r_L_first_35, r_L_first_36, up2_o, up2_e, iN_ap, iN_up, i_ix, i_inb, i_lt, i_lt0, i_0lt, i_eq, i_ne0, i_00, i_11, i_01, i_10, i_b, i_rem2, n_rem, i_add, i_mul, i_sub, i_div, i_max, i_min, rdk_0, rdk_3, kp_none, kp_int, kp_ref, kp_long, kp_double, aK_v, aK_0, aK_ite, if_true, if_false, and_self, and_true, true_and, or_false, false_or, not_true_eq_false, not_false_eq_true, ite_self, ↓reduceIte, eq_self, Bool.false_eq_true, hA.1.1, hA.1.2, hA.2.1.1, hA.2.1.2, hA.2.2.1.1, hA.2.2.1.2, hA.2.2.2.1.1, hA.2.2.2.1.2, hA.2.2.2.2.1.1, hA.2.2.2.2.1.2, hA.2.2.2.2.2.1, hA.2.2.2.2.2.2, q, ht, t, s1, w2]
          exact h1
        · have w2 : (nI dd < 0) = False := by rw [zd]; exact eq_false d1
          have d3 : dd < 2000 := by omega
          by_cases d2 : N mo (5 * i + 3) = dd
          · obtain ⟨b', h1, h2⟩ := day (Or.inr d2)
            refine ⟨b', ?_, h2⟩
            simp (disch := omega) only [r_L_first_8, r_L_first_10, r_L_first_13, r_L_first_15, r_L_first_17, r_L_first_20, r_L_first_23, r_L_first_24, r_L_first_25, r_L_first_27, r_L_first_28, r_L_first_29, r_L_first_30, r_L_first_31, r_L_first_32, r_L_first_35, r_L_first_36, r_L_first_39, r_L_first_40, r_L_first_41, r_L_first_43, r_L_first_44, r_L_first_45, r_L_first_46, r_L_first_47, r_L_first_48, up2_o, up2_e, iN_ap, iN_up, i_ix, i_inb, i_lt, i_lt0, i_0lt, i_eq, i_ne0, i_00, i_11, i_01, i_10, i_b, i_rem2, n_rem, i_add, i_mul, i_sub, i_div, i_max, i_min, rdk_0, rdk_3, kp_none, kp_int, kp_ref, kp_long, kp_double, aK_v, aK_0, aK_ite, if_true, if_false, and_self, and_true, true_and, or_false, false_or, not_true_eq_false, not_false_eq_true, ite_self, ↓reduceIte, eq_self, Bool.false_eq_true, hA.1.1, hA.1.2, hA.2.1.1, hA.2.1.2, hA.2.2.1.1, hA.2.2.1.2, hA.2.2.2.1.1, hA.2.2.2.1.2, hA.2.2.2.2.1.1, hA.2.2.2.2.1.2, hA.2.2.2.2.2.1, hA.2.2.2.2.2.2, q, ht, t, s1, w2, d2]
            exact h1
          · obtain ⟨b', h1, h2⟩ := skip (fun z => by have := z.2.2.1; omega)
            refine ⟨b', ?_, h2⟩
            simp (disch := omega) only [r_L_first_8, r_L_first_10, r_L_first_13, r_L_first_15, r_L_first_17, r_L_first_20, r_L_first_23, r_L_first_24, r_L_first_25, r_L_first_27, r_L_first_28, r_L_first_29, r_L_first_30, r_L_first_31, r_L_first_32, r_L_first_35, r_L_first_36, r_L_first_39, r_L_first_40, r_L_first_41, r_L_first_43, r_L_first_44, r_L_first_45, r_L_first_46, r_L_first_47, r_L_first_48, r_L_first_132, r_L_first_135, up2_o, up2_e, iN_ap, iN_up, i_ix, i_inb, i_lt, i_lt0, i_0lt, i_eq, i_ne0, i_00, i_11, i_01, i_10, i_b, i_rem2, n_rem, i_add, i_mul, i_sub, i_div, i_max, i_min, rdk_0, rdk_3, kp_none, kp_int, kp_ref, kp_long, kp_double, aK_v, aK_0, aK_ite, if_true, if_false, and_self, and_true, true_and, or_false, false_or, not_true_eq_false, not_false_eq_true, ite_self, ↓reduceIte, eq_self, Bool.false_eq_true, hA.1.1, hA.1.2, hA.2.1.1, hA.2.1.2, hA.2.2.1.1, hA.2.2.1.2, hA.2.2.2.1.1, hA.2.2.2.1.2, hA.2.2.2.2.1.1, hA.2.2.2.2.1.2, hA.2.2.2.2.2.1, hA.2.2.2.2.2.2, q, ht, t, s1, w2, d2]
            exact h1
      · obtain ⟨b', h1, h2⟩ := skip (fun z => s1 z.2.1)
        refine ⟨b', ?_, h2⟩
        simp (disch := omega) only [r_L_first_8, r_L_first_10, r_L_first_13, r_L_first_15, r_L_first_17, r_L_first_20, r_L_first_23, r_L_first_24, r_L_first_25, r_L_first_27, r_L_first_28, r_L_first_29, r_L_first_30, r_L_first_31, r_L_first_32, r_L_first_35, r_L_first_36, r_L_first_132, r_L_first_135, up2_o, up2_e, iN_ap, iN_up, i_ix, i_inb, i_lt, i_lt0, i_0lt, i_eq, i_ne0, i_00, i_11, i_01, i_10, i_b, i_rem2, n_rem, i_add, i_mul, i_sub, i_div, i_max, i_min, rdk_0, rdk_3, kp_none, kp_int, kp_ref, kp_long, kp_double, aK_v, aK_0, aK_ite, if_true, if_false, and_self, and_true, true_and, or_false, false_or, not_true_eq_false, not_false_eq_true, ite_self, ↓reduceIte, eq_self, Bool.false_eq_true, hA.1.1, hA.1.2, hA.2.1.1, hA.2.1.2, hA.2.2.1.1, hA.2.2.1.2, hA.2.2.2.1.1, hA.2.2.2.1.2, hA.2.2.2.2.1.1, hA.2.2.2.2.1.2, hA.2.2.2.2.2.1, hA.2.2.2.2.2.2, q, ht, t, s1]
        exact h1
    · obtain ⟨b', h1, h2⟩ := skip (fun z => t z.1)
      refine ⟨b', ?_, h2⟩
      simp (disch := omega) only [r_L_first_8, r_L_first_10, r_L_first_13, r_L_first_15, r_L_first_17, r_L_first_20, r_L_first_23, r_L_first_24, r_L_first_25, r_L_first_27, r_L_first_28, r_L_first_29, r_L_first_30, r_L_first_31, r_L_first_32, r_L_first_35, r_L_first_36, r_L_first_132, r_L_first_135, up2_o, up2_e, iN_ap, iN_up, i_ix, i_inb, i_lt, i_lt0, i_0lt, i_eq, i_ne0, i_00, i_11, i_01, i_10, i_b, i_rem2, n_rem, i_add, i_mul, i_sub, i_div, i_max, i_min, rdk_0, rdk_3, kp_none, kp_int, kp_ref, kp_long, kp_double, aK_v, aK_0, aK_ite, if_true, if_false, and_self, and_true, true_and, or_false, false_or, not_true_eq_false, not_false_eq_true, ite_self, ↓reduceIte, eq_self, Bool.false_eq_true, hA.1.1, hA.1.2, hA.2.1.1, hA.2.1.2, hA.2.2.1.1, hA.2.2.1.2, hA.2.2.2.1.1, hA.2.2.2.1.2, hA.2.2.2.2.1.1, hA.2.2.2.2.1.2, hA.2.2.2.2.2.1, hA.2.2.2.2.2.2, q, ht, t]
      exact h1
theorem lz_first {s dd af : Nat} {A : Int32} (hA : LA Z mo mi sh cc) (hb : LB N mo cc) (hdd : dd = 4294967295 ∨ dd < 2000) (haf : af ≤ 2000) (hs : s ≤ 3) (hAf : A = nI (af + 4294967295)) :
    ∃ b', ex 103 0 [some (.int (nI s)), some (.int (nI dd)), some (.int A), some (.ref mo), some (.ref cc), none, none] [] (Z, iN N, L, u) = some (.inl (some (.int (nI b'))), (Z, iN N, L, u)) ∧ FI N mo cc s dd af 12 b' := by
  obtain ⟨b', h1, h2⟩ := lz_first_loop (L := L) (u := u) hA hb hdd haf hs 12 0 4294967295 rfl (Or.inl ⟨rfl, fun m hm => absurd hm (Nat.not_lt_zero m)⟩)
  refine ⟨b', ?_, h2⟩
  rw [hAf, r_L_first_0, r_L_first_1, r_L_first_3, r_L_first_4, nM1]
  exact h1
end Lf
