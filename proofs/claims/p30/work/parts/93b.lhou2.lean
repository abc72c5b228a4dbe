/-! the law asks of houses, whole -/
theorem nn_02 : (0 < 2) = True := eq_true (by omega)
theorem nn_01 : (0 < 1) = True := eq_true (by omega)
theorem nn_00 : (0 < 0) = False := eq_false (by omega)
theorem ne_12 : ((1 : Nat) = 2) = False := eq_false (by omega)
theorem ne_02 : ((0 : Nat) = 2) = False := eq_false (by omega)
theorem ne_01 : ((0 : Nat) = 1) = False := eq_false (by omega)
theorem ne_21 : ((2 : Nat) = 1) = False := eq_false (by omega)
def hL (R : aY) (h k : Nat) : Nat := if min k (R 4 h) = 0 then 4294967295 else R 8 (6 * h + min k (R 4 h) - 1)
def h3 (R : aY) (h k : Nat) : Nat := sumN (fun j => R 7 (6 * h + j)) 0 k
def h4 (R : aY) (h k : Nat) : Nat := sumN (fun j => sumN (R 13) ((6 * h + j) * 4) 4) 0 k
def h5 (R : aY) (h k : Nat) : Nat := sumN (fun j => sumN (R 12) ((6 * h + j) * 4) 4) 0 k
theorem sumN_tl {f : Nat → Nat} {a n : Nat} : ∀ (j : Nat), (∀ i, n ≤ i → i < n + j → f (a + i) = 0) → sumN f a (n + j) = sumN f a n
  | 0, _ => rfl
  | j + 1, h => by
    rw [show n + (j + 1) = (n + j) + 1 by omega, sumN_succ, sumN_tl j (fun i h1 h2 => h i h1 (by omega)), h (n + j) (by omega) (by omega), Nat.add_zero]
theorem sumN_4 {f : Nat → Nat} {a : Nat} : ∀ (n : Nat), sumN f (a * 4) (n * 4) = sumN (fun j => sumN f ((a + j) * 4) 4) 0 n
  | 0 => by
    rw [Nat.zero_mul]
    rfl
  | n + 1 => by
    rw [sumN_succ, ← sumN_4 n, show (n + 1) * 4 = n * 4 + 1 + 1 + 1 + 1 by omega, sumN_succ, sumN_succ, sumN_succ, sumN_succ, Nat.zero_add, sum4]
    rw [show (a + n) * 4 = a * 4 + n * 4 by omega, show a * 4 + (n * 4 + 1) = a * 4 + n * 4 + 1 by omega, show a * 4 + (n * 4 + 1 + 1) = a * 4 + n * 4 + 2 by omega, show a * 4 + (n * 4 + 1 + 1 + 1) = a * 4 + n * 4 + 3 by omega]
    omega
theorem h_w {R : aY} {q : List Nat} (hw : WF R q) {h : Nat} (hh : h < 6) : min (R 3 h) (R 4 h) = R 4 h ∧ min (R 3 h) (R 5 h) = R 5 h ∧ h3 R h (R 3 h) = sumN (R 7) (h * 6) 6 ∧ h4 R h (R 3 h) = sumN (R 13) (h * 6 * 4) 24 ∧ h5 R h (R 3 h) = sumN (R 12) (h * 6 * 4) 24 ∧ hL R h (R 3 h) = (if R 4 h < 1 then 4294967295 else R 8 (h * 6 + R 4 h - 1)) := by
  obtain ⟨a1, a2, a3, a4⟩ := hw.2.1 h hh
  have e : R 3 h + (6 - R 3 h) = 6 := by omega
  have c : 6 * h = h * 6 := by omega
  refine ⟨by omega, by omega, ?_, ?_, ?_, ?_⟩
  · unfold h3
    rw [← sumN_sh 6, c]
    have := sumN_tl (f := fun j => R 7 (h * 6 + j)) (a := 0) (n := R 3 h) (6 - R 3 h) (fun i h1 h2 => by
      have p := hw.2.2.1 (h * 6 + i) (by omega)
      rw [show (h * 6 + i) / 6 = h by omega, show (h * 6 + i) % 6 = i by omega] at p
      rw [Nat.zero_add]
      exact (p.2.2 h1).2.1)
    rw [e] at this
    exact this.symm
  · unfold h4
    rw [show (24 : Nat) = 6 * 4 from rfl, sumN_4 6, c]
    have := sumN_tl (f := fun j => sumN (R 13) ((h * 6 + j) * 4) 4) (a := 0) (n := R 3 h) (6 - R 3 h) (fun i h1 h2 => by
      have p := fun t ht => (hw.2.2.2.1 (h * 6 + i) (by omega) t ht).2.2 (by rw [show (h * 6 + i) / 6 = h by omega, show (h * 6 + i) % 6 = i by omega]; exact h1)
      have p0 := (p 0 (by omega)).2
      have p1 := (p 1 (by omega)).2
      have p2 := (p 2 (by omega)).2
      have p3 := (p 3 (by omega)).2
      rw [Nat.add_zero] at p0
      rw [Nat.zero_add, sum4, p0, p1, p2, p3])
    rw [e] at this
    exact this.symm
  · unfold h5
    rw [show (24 : Nat) = 6 * 4 from rfl, sumN_4 6, c]
    have := sumN_tl (f := fun j => sumN (R 12) ((h * 6 + j) * 4) 4) (a := 0) (n := R 3 h) (6 - R 3 h) (fun i h1 h2 => by
      have p := fun t ht => (hw.2.2.2.1 (h * 6 + i) (by omega) t ht).2.2 (by rw [show (h * 6 + i) / 6 = h by omega, show (h * 6 + i) % 6 = i by omega]; exact h1)
      have p0 := (p 0 (by omega)).1
      have p1 := (p 1 (by omega)).1
      have p2 := (p 2 (by omega)).1
      have p3 := (p 3 (by omega)).1
      rw [Nat.add_zero] at p0
      rw [Nat.zero_add, sum4, p0, p1, p2, p3])
    rw [e] at this
    exact this.symm
  · unfold hL
    rw [show min (R 3 h) (R 4 h) = R 4 h by omega, c]
    by_cases z : R 4 h = 0
    · rw [if_pos z, if_pos (by omega)]
    · rw [if_neg z, if_neg (by omega)]
section Lp
variable {Z : aZ} {N : Nat → Nat → Nat} {L : Nat → Nat → Int64} {u : Nat × Nat} {S : aSt} {B : Nat → Nat} {o : Nat}
theorem lz_hk {h : Nat} (hZ : LZ Z) (H : LW N S B o) (hh : h < S.1.1 0 1) : ∀ (n k : Nat) (a14 a15 a16 : Option Value), k + n = S.1.1 3 h →
    ∃ b14 b15 b16, ex 105 33 [some (.ref 0), some (.ref 144), some (.ref 145), some (.ref 146), some (.ref 147), some (.ref 151), some (.int (nI h)), some (.int (nI (min k (S.1.1 4 h)))), some (.int (nI (min k (S.1.1 5 h)))), some (.int (nI (h3 S.1.1 h k))), some (.int (nI (h4 S.1.1 h k))), some (.int (nI (h5 S.1.1 h k))), some (.int (nI (hL S.1.1 h k))), some (.int (nI k)), a14, a15, a16] [] (Z, iN N, L, u) =
    ex 105 410 [some (.ref 0), some (.ref 144), some (.ref 145), some (.ref 146), some (.ref 147), some (.ref 151), some (.int (nI h)), some (.int (nI (min (S.1.1 3 h) (S.1.1 4 h)))), some (.int (nI (min (S.1.1 3 h) (S.1.1 5 h)))), some (.int (nI (h3 S.1.1 h (S.1.1 3 h)))), some (.int (nI (h4 S.1.1 h (S.1.1 3 h)))), some (.int (nI (h5 S.1.1 h (S.1.1 3 h)))), some (.int (nI (hL S.1.1 h (S.1.1 3 h)))), some (.int (nI (S.1.1 3 h))), b14, b15, b16] [] (Z, iN N, L, u)
  | 0, k, a14, a15, a16, e => by
    have ek : k = S.1.1 3 h := by omega
    subst ek
    have h1 := H.2.2.2.2.1.1
    have hr := H.2.2.2.2.1.2 h (by omega)
    have c4 := H.1.1.2.2.2.2 h (by omega)
    have hA := hZ.2.1
    refine ⟨a14, a15, a16, ?_⟩
    rw [r_L_houses_33]
    simp (disch := omega) only [r_L_houses_35, r_L_houses_37, r_L_houses_38, r_L_houses_40, r_L_houses_41, r_L_houses_42, up2_o, up2_e, iN_ap, iN_up, i_ix, i_inb, i_lt, i_lt0, i_0lt, i_eq, i_ne0, i_00, i_11, i_01, i_10, i_b, i_rem2, n_rem, i_add, i_mul, i_sub, i_div, i_max, i_min, rdk_0, rdk_3, kp_none, kp_int, kp_ref, kp_long, kp_double, aK_v, aK_0, aK_ite, if_true, if_false, and_self, and_true, true_and, or_false, false_or, not_true_eq_false, not_false_eq_true, ite_self, ↓reduceIte, eq_self, Bool.false_eq_true, hA.1.1, hA.1.2, hA.2.1.1, hA.2.1.2, hA.2.2.1.1, hA.2.2.1.2, hA.2.2.2.1.1, hA.2.2.2.1.2, hA.2.2.2.2.1.1, hA.2.2.2.2.1.2, hA.2.2.2.2.2.1, hA.2.2.2.2.2.2, c4, Nat.lt_irrefl]
  | n + 1, k, a14, a15, a16, e => by
    have hk : k < S.1.1 3 h := by omega
    have z0 := hZ.1.1.1
    have h1 := H.2.2.2.2.1.1
    have hr := H.2.2.2.2.1.2 h (by omega)
    have hm : 4 * h + k < 12 := by omega
    have hp : pl (4 * h + k) = 6 * h + k := pl_hk (by omega)
    have c4 := H.1.1.2.2.2.2 h (by omega)
    obtain ⟨f0, f1, f2, f3, f4, f5, f6⟩ := H.1.2.2.2.1 (4 * h + k) hm
    have g2 := (H.1.2.2.2.2.1 (4 * h + k) hm).2
    rw [hp] at f1 f2 g2
    have e12 := lz_s12 (L := L) (u := u) hZ H hm
    have e13 := lz_s13 (L := L) (u := u) hZ H hm
    rw [hp] at e12 e13
    have hA := hZ.2.1
    have hd6 : (6 * h + k) / 6 = h ∧ (6 * h + k) % 6 = k := by omega
    rw [hd6.1, hd6.2] at g2
    obtain ⟨w1, w2, w3, w4⟩ := H.2.2.2.1.1.1.2.1 h (by omega)
    have x3 : h3 S.1.1 h (k + 1) = h3 S.1.1 h k + S.1.1 7 (6 * h + k) := by
      unfold h3
      rw [sumN_succ, Nat.zero_add]
    have x4 : h4 S.1.1 h (k + 1) = h4 S.1.1 h k + sumN (S.1.1 13) ((6 * h + k) * 4) 4 := by
      unfold h4
      rw [sumN_succ, Nat.zero_add]
    have x5 : h5 S.1.1 h (k + 1) = h5 S.1.1 h k + sumN (S.1.1 12) ((6 * h + k) * 4) 4 := by
      unfold h5
      rw [sumN_succ, Nat.zero_add]
    obtain ⟨b14, b15, b16, ih⟩ := lz_hk hZ H hh n (k + 1) (some (.int (nI (4 * h + k)))) (some (.int (nI (stg S.1.1 (6 * h + k))))) (some (.int (nI 4))) (by omega)
    rw [x3, x4, x5] at ih
    refine ⟨b14, b15, b16, ?_⟩
    rw [← ih]
    clear ih
    have hmd := fun (st : Nat) (hs : stg S.1.1 (6 * h + k) = st) (a7 a8 a9 a10 a11 : Option Value) (z12 : Int32) => lz_hmod (L := L) (u := u) (a7 := a7) (a8 := a8) (a9 := a9) (a10 := a10) (a11 := a11) (a16 := a16) (z12 := z12) hZ H hh hk hs
    rw [r_L_houses_33]
    by_cases q2 : k < S.1.1 5 h
    · have es : stg S.1.1 (6 * h + k) = 2 := by
        unfold stg
        rw [hd6.1, hd6.2, if_pos q2]
      have y1 : min (k + 1) (S.1.1 4 h) = min k (S.1.1 4 h) + 1 := by omega
      have y2 : min (k + 1) (S.1.1 5 h) = min k (S.1.1 5 h) + 1 := by omega
      have y6 : hL S.1.1 h (k + 1) = S.1.1 8 (6 * h + k) := by
        unfold hL
        rw [show min (k + 1) (S.1.1 4 h) = k + 1 by omega, if_neg (by omega), show 6 * h + (k + 1) - 1 = 6 * h + k by omega]
      have g2 := g2 (by omega)
      rw [es] at f2
      rw [y1, y2, y6, es]
      have hmd2 := hmd 2 es
      simp (disch := omega) only [r_L_houses_35, r_L_houses_37, r_L_houses_38, r_L_houses_40, r_L_houses_41, r_L_houses_42, r_L_houses_45, r_L_houses_46, r_L_houses_48, r_L_houses_49, r_L_houses_51, r_L_houses_52, r_L_houses_54, r_L_houses_55, r_L_houses_56, r_L_houses_58, r_L_houses_59, r_L_houses_60, r_L_houses_61, r_L_houses_62, r_L_houses_64, r_L_houses_66, r_L_houses_68, r_L_houses_71, r_L_houses_72, r_L_houses_75, r_L_houses_76, r_L_houses_77, r_L_houses_79, r_L_houses_81, r_L_houses_83, r_L_houses_84, r_L_houses_87, r_L_houses_88, r_L_houses_91, r_L_houses_92, r_L_houses_93, r_L_houses_95, r_L_houses_97, r_L_houses_98, r_L_houses_99, r_L_houses_101, r_L_houses_102, r_L_houses_103, r_L_houses_104, r_L_houses_105, r_L_houses_106, r_L_houses_108, r_L_houses_110, r_L_houses_112, r_L_houses_113, r_L_houses_115, r_L_houses_116, r_L_houses_119, r_L_houses_120, r_L_houses_122, r_L_houses_124, r_L_houses_125, r_L_houses_126, r_L_houses_128, r_L_houses_129, r_L_houses_132, r_L_houses_133, r_L_houses_135, r_L_houses_137, r_L_houses_140, r_L_houses_141, r_L_houses_142, r_L_houses_144, r_L_houses_145, r_L_houses_146, r_L_houses_147, r_L_houses_148, r_L_houses_151, r_L_houses_153, up2_o, up2_e, iN_ap, iN_up, i_ix, i_inb, i_lt, i_lt0, i_0lt, i_eq, i_ne0, i_00, i_11, i_01, i_10, i_b, i_rem2, n_rem, i_add, i_mul, i_sub, i_div, i_max, i_min, rdk_0, rdk_3, kp_none, kp_int, kp_ref, kp_long, kp_double, aK_v, aK_0, aK_ite, if_true, if_false, and_self, and_true, true_and, or_false, false_or, not_true_eq_false, not_false_eq_true, ite_self, ↓reduceIte, eq_self, Bool.false_eq_true, hA.1.1, hA.1.2, hA.2.1.1, hA.2.1.2, hA.2.2.1.1, hA.2.2.1.2, hA.2.2.2.1.1, hA.2.2.2.1.2, hA.2.2.2.2.1.1, hA.2.2.2.2.1.2, hA.2.2.2.2.2.1, hA.2.2.2.2.2.2, kp_int, hZ.2.2.1.1, hZ.2.2.1.2, c4, hk, f1, f2, g2, e12, e13, hmd2, nn_02]
    · by_cases q1 : k < S.1.1 4 h
      · have es : stg S.1.1 (6 * h + k) = 1 := by
          unfold stg
          rw [hd6.1, hd6.2, if_neg q2, if_pos q1]
        have y1 : min (k + 1) (S.1.1 4 h) = min k (S.1.1 4 h) + 1 := by omega
        have y2 : min (k + 1) (S.1.1 5 h) = min k (S.1.1 5 h) := by omega
        have y6 : hL S.1.1 h (k + 1) = S.1.1 8 (6 * h + k) := by
          unfold hL
          rw [show min (k + 1) (S.1.1 4 h) = k + 1 by omega, if_neg (by omega), show 6 * h + (k + 1) - 1 = 6 * h + k by omega]
        have g2 := g2 (by omega)
        rw [es] at f2
        rw [y1, y2, y6, es]
        have hmd1 := hmd 1 es
        simp (disch := omega) only [r_L_houses_35, r_L_houses_37, r_L_houses_38, r_L_houses_40, r_L_houses_41, r_L_houses_42, r_L_houses_45, r_L_houses_46, r_L_houses_48, r_L_houses_49, r_L_houses_51, r_L_houses_52, r_L_houses_54, r_L_houses_55, r_L_houses_56, r_L_houses_58, r_L_houses_59, r_L_houses_60, r_L_houses_61, r_L_houses_62, r_L_houses_64, r_L_houses_66, r_L_houses_68, r_L_houses_71, r_L_houses_72, r_L_houses_75, r_L_houses_76, r_L_houses_77, r_L_houses_79, r_L_houses_81, r_L_houses_83, r_L_houses_84, r_L_houses_87, r_L_houses_88, r_L_houses_91, r_L_houses_92, r_L_houses_93, r_L_houses_95, r_L_houses_97, r_L_houses_98, r_L_houses_99, r_L_houses_101, r_L_houses_102, r_L_houses_103, r_L_houses_104, r_L_houses_105, r_L_houses_106, r_L_houses_108, r_L_houses_110, r_L_houses_112, r_L_houses_113, r_L_houses_115, r_L_houses_116, r_L_houses_119, r_L_houses_120, r_L_houses_122, r_L_houses_124, r_L_houses_125, r_L_houses_126, r_L_houses_128, r_L_houses_129, r_L_houses_132, r_L_houses_133, r_L_houses_135, r_L_houses_137, r_L_houses_140, r_L_houses_141, r_L_houses_142, r_L_houses_144, r_L_houses_145, r_L_houses_146, r_L_houses_147, r_L_houses_148, r_L_houses_151, r_L_houses_153, up2_o, up2_e, iN_ap, iN_up, i_ix, i_inb, i_lt, i_lt0, i_0lt, i_eq, i_ne0, i_00, i_11, i_01, i_10, i_b, i_rem2, n_rem, i_add, i_mul, i_sub, i_div, i_max, i_min, rdk_0, rdk_3, kp_none, kp_int, kp_ref, kp_long, kp_double, aK_v, aK_0, aK_ite, if_true, if_false, and_self, and_true, true_and, or_false, false_or, not_true_eq_false, not_false_eq_true, ite_self, ↓reduceIte, eq_self, Bool.false_eq_true, hA.1.1, hA.1.2, hA.2.1.1, hA.2.1.2, hA.2.2.1.1, hA.2.2.1.2, hA.2.2.2.1.1, hA.2.2.2.1.2, hA.2.2.2.2.1.1, hA.2.2.2.2.1.2, hA.2.2.2.2.2.1, hA.2.2.2.2.2.2, kp_int, hZ.2.2.1.1, hZ.2.2.1.2, c4, hk, f1, f2, g2, e12, e13, hmd1, Nat.add_zero, nn_01, ne_12]
      · have es : stg S.1.1 (6 * h + k) = 0 := by
          unfold stg
          rw [hd6.1, hd6.2, if_neg q2, if_neg q1]
        have y1 : min (k + 1) (S.1.1 4 h) = min k (S.1.1 4 h) := by omega
        have y2 : min (k + 1) (S.1.1 5 h) = min k (S.1.1 5 h) := by omega
        have y6 : hL S.1.1 h (k + 1) = hL S.1.1 h k := by
          unfold hL
          rw [y1]
        rw [es] at f2
        rw [y1, y2, y6, es]
        have hmd0 := hmd 0 es
        simp (disch := omega) only [r_L_houses_35, r_L_houses_37, r_L_houses_38, r_L_houses_40, r_L_houses_41, r_L_houses_42, r_L_houses_45, r_L_houses_46, r_L_houses_48, r_L_houses_49, r_L_houses_51, r_L_houses_52, r_L_houses_54, r_L_houses_55, r_L_houses_56, r_L_houses_58, r_L_houses_59, r_L_houses_60, r_L_houses_61, r_L_houses_62, r_L_houses_64, r_L_houses_66, r_L_houses_68, r_L_houses_71, r_L_houses_72, r_L_houses_75, r_L_houses_76, r_L_houses_77, r_L_houses_79, r_L_houses_81, r_L_houses_83, r_L_houses_84, r_L_houses_87, r_L_houses_88, r_L_houses_91, r_L_houses_92, r_L_houses_93, r_L_houses_95, r_L_houses_97, r_L_houses_98, r_L_houses_99, r_L_houses_101, r_L_houses_102, r_L_houses_103, r_L_houses_104, r_L_houses_105, r_L_houses_106, r_L_houses_108, r_L_houses_110, r_L_houses_112, r_L_houses_113, r_L_houses_115, r_L_houses_116, r_L_houses_119, r_L_houses_120, r_L_houses_122, r_L_houses_124, r_L_houses_125, r_L_houses_126, r_L_houses_128, r_L_houses_129, r_L_houses_132, r_L_houses_133, r_L_houses_135, r_L_houses_137, r_L_houses_140, r_L_houses_141, r_L_houses_142, r_L_houses_144, r_L_houses_145, r_L_houses_146, r_L_houses_147, r_L_houses_148, r_L_houses_151, r_L_houses_153, up2_o, up2_e, iN_ap, iN_up, i_ix, i_inb, i_lt, i_lt0, i_0lt, i_eq, i_ne0, i_00, i_11, i_01, i_10, i_b, i_rem2, n_rem, i_add, i_mul, i_sub, i_div, i_max, i_min, rdk_0, rdk_3, kp_none, kp_int, kp_ref, kp_long, kp_double, aK_v, aK_0, aK_ite, if_true, if_false, and_self, and_true, true_and, or_false, false_or, not_true_eq_false, not_false_eq_true, ite_self, ↓reduceIte, eq_self, Bool.false_eq_true, hA.1.1, hA.1.2, hA.2.1.1, hA.2.1.2, hA.2.2.1.1, hA.2.2.1.2, hA.2.2.2.1.1, hA.2.2.2.1.2, hA.2.2.2.2.1.1, hA.2.2.2.2.1.2, hA.2.2.2.2.2.1, hA.2.2.2.2.2.2, kp_int, hZ.2.2.1.1, hZ.2.2.1.2, c4, hk, f1, f2, e12, e13, hmd0, Nat.add_zero, nn_00, ne_02]
theorem lz_hh (hZ : LZ Z) (H : LW N S B o) : ∀ (n h : Nat) (a7 a8 a9 a10 a11 a12 a13 a14 a15 a16 : Option Value), h + n = S.1.1 0 1 →
    ex 105 3 [some (.ref 0), some (.ref 144), some (.ref 145), some (.ref 146), some (.ref 147), some (.ref 151), some (.int (nI h)), a7, a8, a9, a10, a11, a12, a13, a14, a15, a16] [] (Z, iN N, L, u) = some (.inl (some (.int (nI 1))), (Z, iN N, L, u))
  | 0, h, a7, a8, a9, a10, a11, a12, a13, a14, a15, a16, e => by
    have eh : h = S.1.1 0 1 := by omega
    subst eh
    have h1 := H.2.2.2.2.1.1
    have c0 := H.1.1.1
    have hA := hZ.2.1
    rw [r_L_houses_3]
    simp (disch := omega) only [r_L_houses_5, r_L_houses_7, r_L_houses_8, r_L_houses_9, r_L_houses_508, r_L_houses_509, up2_o, up2_e, iN_ap, iN_up, i_ix, i_inb, i_lt, i_lt0, i_0lt, i_eq, i_ne0, i_00, i_11, i_01, i_10, i_b, i_rem2, n_rem, i_add, i_mul, i_sub, i_div, i_max, i_min, rdk_0, rdk_3, kp_none, kp_int, kp_ref, kp_long, kp_double, aK_v, aK_0, aK_ite, if_true, if_false, and_self, and_true, true_and, or_false, false_or, not_true_eq_false, not_false_eq_true, ite_self, ↓reduceIte, eq_self, Bool.false_eq_true, hA.1.1, hA.1.2, hA.2.1.1, hA.2.1.2, hA.2.2.1.1, hA.2.2.1.2, hA.2.2.2.1.1, hA.2.2.2.1.2, hA.2.2.2.2.1.1, hA.2.2.2.2.1.2, hA.2.2.2.2.2.1, hA.2.2.2.2.2.2, c0, Nat.lt_irrefl]
  | n + 1, h, a7, a8, a9, a10, a11, a12, a13, a14, a15, a16, e => by
    have hh : h < S.1.1 0 1 := by omega
    have h1 := H.2.2.2.2.1.1
    have c0 := H.1.1.1
    have c4 := H.1.1.2.2.2.2 h (by omega)
    have hr := H.2.2.2.2.1.2 h (by omega)
    have z0 := hZ.1.1.1
    have hA := hZ.2.1
    obtain ⟨b14, b15, b16, lk⟩ := lz_hk (L := L) (u := u) hZ H hh (S.1.1 3 h) 0 a14 a15 a16 (by omega)
    obtain ⟨w1, w2, w3, w4, w5, w6⟩ := h_w H.2.2.2.1.1.1 (h := h) (by omega)
    have ih := lz_hh hZ H n (h + 1) (some (.int (nI (min (S.1.1 3 h) (S.1.1 4 h))))) (some (.int (nI (min (S.1.1 3 h) (S.1.1 5 h))))) (some (.int (nI (h3 S.1.1 h (S.1.1 3 h))))) (some (.int (nI (h4 S.1.1 h (S.1.1 3 h))))) (some (.int (nI (h5 S.1.1 h (S.1.1 3 h))))) (some (.int (nI (hL S.1.1 h (S.1.1 3 h))))) (some (.int (nI (S.1.1 3 h)))) b14 b15 b16 (by omega)
    have md : ∀ w v, w ≤ 6 → aHn S.1.1 h w = v → ex 70 0 [some (.ref 0), some (.int (nI h)), some (.int (nI w)), none, none] [] (Z, iN N, L, u) = some (.inl (some (.int (nI v))), (Z, iN N, L, u)) := fun w v hw hv => by
      rw [← hv]
      exact ce_house hZ.1 H.2.2.1 H.2.2.2.1 hh hw
    have m0 := md 0 (S.1.1 3 h) (by omega) rfl
    have m1 := md 1 (min (S.1.1 3 h) (S.1.1 4 h)) (by omega) (by rw [w1]; rfl)
    have m2 := md 2 (min (S.1.1 3 h) (S.1.1 5 h)) (by omega) (by rw [w2]; rfl)
    have m3 := md 3 (h3 S.1.1 h (S.1.1 3 h)) (by omega) (by rw [w3]; rfl)
    have m4 := md 4 (h4 S.1.1 h (S.1.1 3 h)) (by omega) (by rw [w4]; rfl)
    have m5 := md 5 (h5 S.1.1 h (S.1.1 3 h)) (by omega) (by rw [w5]; rfl)
    have m6 := md 6 (hL S.1.1 h (S.1.1 3 h)) (by omega) (by rw [w6]; rfl)
    have i1 : min 0 (S.1.1 4 h) = 0 := by omega
    have i2 : min 0 (S.1.1 5 h) = 0 := by omega
    have i3 : h3 S.1.1 h 0 = 0 := rfl
    have i4 : h4 S.1.1 h 0 = 0 := rfl
    have i5 : h5 S.1.1 h 0 = 0 := rfl
    have i6 : hL S.1.1 h 0 = 4294967295 := by
      unfold hL
      rw [i1, if_pos rfl]
    rw [i1, i2, i3, i4, i5, i6] at lk
    clear w1 w2 w3 w4 w5 w6
    have g : ex 105 3 [some (.ref 0), some (.ref 144), some (.ref 145), some (.ref 146), some (.ref 147), some (.ref 151), some (.int (nI h)), a7, a8, a9, a10, a11, a12, a13, a14, a15, a16] [] (Z, iN N, L, u) = ex 105 33 [some (.ref 0), some (.ref 144), some (.ref 145), some (.ref 146), some (.ref 147), some (.ref 151), some (.int (nI h)), some (.int (nI 0)), some (.int (nI 0)), some (.int (nI 0)), some (.int (nI 0)), some (.int (nI 0)), some (.int (nI 4294967295)), some (.int (nI 0)), a14, a15, a16] [] (Z, iN N, L, u) := by
      rw [r_L_houses_3]
      simp (disch := omega) only [r_L_houses_5, r_L_houses_7, r_L_houses_8, r_L_houses_9, r_L_houses_12, r_L_houses_13, r_L_houses_15, r_L_houses_16, r_L_houses_18, r_L_houses_19, r_L_houses_21, r_L_houses_22, r_L_houses_24, r_L_houses_25, r_L_houses_27, r_L_houses_28, r_L_houses_30, r_L_houses_31, up2_o, up2_e, iN_ap, iN_up, i_ix, i_inb, i_lt, i_lt0, i_0lt, i_eq, i_ne0, i_00, i_11, i_01, i_10, i_b, i_rem2, n_rem, i_add, i_mul, i_sub, i_div, i_max, i_min, rdk_0, rdk_3, kp_none, kp_int, kp_ref, kp_long, kp_double, aK_v, aK_0, aK_ite, if_true, if_false, and_self, and_true, true_and, or_false, false_or, not_true_eq_false, not_false_eq_true, ite_self, ↓reduceIte, eq_self, Bool.false_eq_true, hA.1.1, hA.1.2, hA.2.1.1, hA.2.1.2, hA.2.2.1.1, hA.2.2.1.2, hA.2.2.2.1.1, hA.2.2.2.1.2, hA.2.2.2.2.1.1, hA.2.2.2.2.1.2, hA.2.2.2.2.2.1, hA.2.2.2.2.2.2, kp_int, c0, hh, nM1]
    rw [g, lk, ← ih]
    simp (disch := omega) only [r_L_houses_410, r_L_houses_411, r_L_houses_413, r_L_houses_414, r_L_houses_417, r_L_houses_419, r_L_houses_420, r_L_houses_422, r_L_houses_423, r_L_houses_424, r_L_houses_427, r_L_houses_428, r_L_houses_430, r_L_houses_431, r_L_houses_434, r_L_houses_436, r_L_houses_439, r_L_houses_440, r_L_houses_442, r_L_houses_443, r_L_houses_446, r_L_houses_448, r_L_houses_451, r_L_houses_452, r_L_houses_454, r_L_houses_455, r_L_houses_458, r_L_houses_460, r_L_houses_463, r_L_houses_464, r_L_houses_466, r_L_houses_467, r_L_houses_470, r_L_houses_472, r_L_houses_475, r_L_houses_476, r_L_houses_478, r_L_houses_479, r_L_houses_482, r_L_houses_484, r_L_houses_487, r_L_houses_488, r_L_houses_490, r_L_houses_492, r_L_houses_495, r_L_houses_497, r_L_houses_500, r_L_houses_501, r_L_houses_502, r_L_houses_505, up2_o, up2_e, iN_ap, iN_up, i_ix, i_inb, i_lt, i_lt0, i_0lt, i_eq, i_ne0, i_00, i_11, i_01, i_10, i_b, i_rem2, n_rem, i_add, i_mul, i_sub, i_div, i_max, i_min, rdk_0, rdk_3, kp_none, kp_int, kp_ref, kp_long, kp_double, aK_v, aK_0, aK_ite, if_true, if_false, and_self, and_true, true_and, or_false, false_or, not_true_eq_false, not_false_eq_true, ite_self, ↓reduceIte, eq_self, Bool.false_eq_true, hA.1.1, hA.1.2, hA.2.1.1, hA.2.1.2, hA.2.2.1.1, hA.2.2.1.2, hA.2.2.2.1.1, hA.2.2.2.1.2, hA.2.2.2.2.1.1, hA.2.2.2.2.1.2, hA.2.2.2.2.2.1, hA.2.2.2.2.2.2, kp_int, kp_ref, z0, c4, m0, m1, m2, m3, m4, m5, m6]
theorem lz_houses (hZ : LZ Z) (H : LW N S B o) :
    ex 105 0 [some (.ref 0), some (.ref 144), some (.ref 145), some (.ref 146), some (.ref 147), some (.ref 151), none, none, none, none, none, none, none, none, none, none, none] [] (Z, iN N, L, u) = some (.inl (some (.int (nI 1))), (Z, iN N, L, u)) := by
  rw [r_L_houses_0, r_L_houses_1, kp_ref]
  exact lz_hh hZ H (S.1.1 0 1) 0 none none none none none none none none none none (by omega)
end Lp
