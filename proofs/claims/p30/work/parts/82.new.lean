/-! the objects are made -/
theorem u1_e {α : Type} {f : Nat → α} {a b : Nat} {v : α} (h : b = a) : up1 f a v b = v := if_pos h
theorem u1_o {α : Type} {f : Nat → α} {a b : Nat} {v : α} (h : b ≠ a) : up1 f a v b = f b := if_neg h
theorem u2_f {α : Type} {f : Nat → Nat → α} {a b k : Nat} {v : α} (h : b ≠ a) : up2 f a k v b = f b := by
  funext j
  exact up2_o (by omega)
theorem t_nI {k : Nat} (h : k < 2147483648) : (nI k).toInt = (k : Int) := by
  unfold nI
  exact Int32.toInt_ofNat_of_lt h
theorem al_1 {k : Nat} (h : k < 2147483648) : (0 ≤ (nI k).toInt) = True := eq_true (by rw [t_nI h]; omega)
theorem al_2 {k : Nat} (h : k ≤ 100000) : ((nI k).toInt ≤ 100000) = True := eq_true (by rw [t_nI (by omega)]; omega)
theorem n_lt {a b : Nat} (h : a < b) : (a < b) = True := eq_true h
theorem n_le {a b : Nat} (h : a ≤ b) : (a ≤ b) = True := eq_true h
theorem n_ne {a b : Nat} (h : a ≠ b) : (a = b) = False := eq_false h
theorem s_fill {Z : aZ} {L : Nat → Nat → Int64} {c : Nat × Nat} {r n : Nat} {v : Int32} (h0 : Z.1 r = 0) (hl : Z.2.1 r = n) (hn : n ≤ 100000) : ∀ (k i : Nat) (I : Nat → Nat → Int32), i + k = n →
    ∃ I', ex 94 5 [some (.ref r), some (.int v), some (.int (nI i)), some (.int (nI n))] [] (Z, I, L, c) = some (.inl none, (Z, I', L, c)) ∧ ∀ a j, I' a j = if a = r ∧ i ≤ j ∧ j < n then v else I a j
  | 0, i, I, h => by
    have e : i = n := by omega
    subst e
    refine ⟨I, ?_, fun a j => by rw [if_neg (by omega)]⟩
    simp (disch := omega) only [r_J7_fill_53178_0, r_J7_fill_53178_1, r_J7_fill_53178_2, r_J7_fill_53178_3, r_J7_fill_53178_4, r_J7_fill_53178_5, r_J7_fill_53178_6, r_J7_fill_53178_7, r_J7_fill_53178_10, r_J7_fill_53178_11, r_J7_fill_53178_12, r_J7_fill_53178_13, r_J7_fill_53178_14, r_J7_fill_53178_17, r_J7_fill_53178_20, up2_o, up2_e, iN_ap, iN_up, i_ix, i_inb, i_lt, i_lt0, i_0lt, i_eq, i_ne0, i_00, i_11, i_01, i_10, i_b, i_rem2, n_rem, i_add, i_mul, i_sub, i_div, i_max, i_min, rdk_0, rdk_3, kp_none, kp_int, kp_ref, kp_long, kp_double, aK_v, aK_0, aK_ite, if_true, if_false, and_self, and_true, true_and, or_false, false_or, not_true_eq_false, not_false_eq_true, ite_self, ↓reduceIte, Nat.lt_irrefl]
  | k + 1, i, I, h => by
    have e : i < n := by omega
    obtain ⟨I', ih, h2⟩ := s_fill (L := L) (c := c) (v := v) h0 hl hn k (i + 1) (up2 I r i v) (by omega)
    refine ⟨I', ?_, fun a j => ?_⟩
    · rw [r_J7_fill_53178_5]
      simp (disch := omega) only [r_J7_fill_53178_0, r_J7_fill_53178_1, r_J7_fill_53178_2, r_J7_fill_53178_3, r_J7_fill_53178_4, r_J7_fill_53178_6, r_J7_fill_53178_7, r_J7_fill_53178_10, r_J7_fill_53178_11, r_J7_fill_53178_12, r_J7_fill_53178_13, r_J7_fill_53178_14, r_J7_fill_53178_17, r_J7_fill_53178_20, h0, hl, up2_o, up2_e, iN_ap, iN_up, i_ix, i_inb, i_lt, i_lt0, i_0lt, i_eq, i_ne0, i_00, i_11, i_01, i_10, i_b, i_rem2, n_rem, i_add, i_mul, i_sub, i_div, i_max, i_min, rdk_0, rdk_3, kp_none, kp_int, kp_ref, kp_long, kp_double, aK_v, aK_0, aK_ite, if_true, if_false, and_self, and_true, true_and, or_false, false_or, not_true_eq_false, not_false_eq_true, ite_self, ↓reduceIte, e, ih]
    · rw [h2]
      by_cases q : a = r ∧ i ≤ j ∧ j < n
      · rw [if_pos q]
        by_cases q2 : i + 1 ≤ j
        · rw [if_pos (by omega)]
        · rw [if_neg (by omega)]
          exact up2_e ⟨q.1, by omega⟩
      · rw [if_neg q, if_neg (by omega)]
        exact up2_o (by omega)
/-- what a new yard holds -/
def y00 (k i : Nat) : Int32 := if k = 0 ∧ i = 2 then nI 1 else if k = 1 ∧ i = 0 then nI 3 else if k = 2 ∧ i < 5 then fFirst i else if k = 8 ∧ i < 36 then nI 4294967295 else 0
def FR (y n : Nat) (Z Z' : aZ) (I I' : Nat → Nat → Int32) : Prop := ∀ a, (a < y ∨ n ≤ a) → Z'.1 a = Z.1 a ∧ Z'.2.1 a = Z.2.1 a ∧ Z'.2.2.1 a = Z.2.2.1 a ∧ I' a = I a
def y01 (k i : Nat) : Int32 := if k = 0 ∧ i = 2 then nI 1 else if k = 1 ∧ i = 0 then nI 3 else if k = 2 ∧ i < 5 then fFirst i else 0
theorem cp_o {I : Nat → Nat → Int32} {a0 a sp dp n b : Nat} (h : b ≠ a) : cpI I a0 a sp dp n b = I b := by
  funext j
  exact if_neg (fun z => h z.1)
theorem cp_e {I : Nat → Nat → Int32} {a0 a n j : Nat} : cpI I a0 a 0 0 n a j = if j < n then I a0 j else I a j := by
  show (if a = a ∧ 0 ≤ j ∧ j < 0 + n then I a0 (0 + (j - 0)) else I a j) = _
  by_cases q : j < n
  · rw [if_pos q, if_pos ⟨rfl, by omega, by omega⟩, Nat.zero_add, Nat.sub_zero]
  · rw [if_neg q, if_neg (by omega)]
theorem u2_j {α : Type} {f : Nat → Nat → α} {a b k j : Nat} {v : α} (h : b ≠ a ∨ j ≠ k) : up2 f a k v b j = f b j := up2_o (by omega)
set_option maxHeartbeats 4000000 in
theorem n_yard1 {K G : Nat → Nat} {F : Nat → Nat → Value} {I : Nat → Nat → Int32} {L : Nat → Nat → Int64} {u y : Nat} (hy : K y = 9) (hb : y + 16 < 1000) (hI : I y = fun _ => 0) (h3 : K 100003 = 3) (h4 : G 100003 = 5) (h5 : I 100003 = fFirst) :
    ∃ K' G' F' I' L' u', ex 35 0 [some (.ref y)] [] ((K, G, F, y + 1), I, L, (0, u)) = ex 35 150 [some (.ref y)] [] ((K', G', F', y + 16), I', L', (0, u')) ∧ YAt (K', G', F', y + 16) y ∧ FR y (y + 16) (K, G, F, y + 1) (K', G', F', y + 16) I I' ∧ (∀ k i, k < 16 → I' (y + k) i = y01 k i) ∧ u' ≤ u + 1000 := by
  refine ⟨?K, ?G, ?F, ?I, ?L, ?u, ?g1, ?g2, ?g3, ?g4, ?g5⟩
  case g1 =>
    simp (disch := omega) only [r_X6_init_0, r_X6_init_1, r_X6_init_4, r_X6_init_5, r_X6_init_6, r_X6_init_9, r_X6_init_10, r_X6_init_12, r_X6_init_14, r_X6_init_17, r_X6_init_18, r_X6_init_19, r_X6_init_21, r_X6_init_24, r_X6_init_25, r_X6_init_27, r_X6_init_29, r_X6_init_32, r_X6_init_33, r_X6_init_35, r_X6_init_37, r_X6_init_40, r_X6_init_41, r_X6_init_43, r_X6_init_45, r_X6_init_48, r_X6_init_49, r_X6_init_51, r_X6_init_53, r_X6_init_56, r_X6_init_57, r_X6_init_59, r_X6_init_61, r_X6_init_64, r_X6_init_65, r_X6_init_67, r_X6_init_69, r_X6_init_72, r_X6_init_73, r_X6_init_75, r_X6_init_77, r_X6_init_80, r_X6_init_81, r_X6_init_83, r_X6_init_85, r_X6_init_88, r_X6_init_89, r_X6_init_91, r_X6_init_93, r_X6_init_96, r_X6_init_97, r_X6_init_100, r_X6_init_102, r_X6_init_105, r_X6_init_106, r_X6_init_109, r_X6_init_111, r_X6_init_114, r_X6_init_115, r_X6_init_117, r_X6_init_119, r_X6_init_122, r_X6_init_123, r_X6_init_125, r_X6_init_127, r_X6_init_130, r_X6_init_131, r_X6_init_134, r_X6_init_135, r_X6_init_136, r_X6_init_137, r_X6_init_140, r_X6_init_141, r_X6_init_142, r_X6_init_145, r_X6_init_146, r_X6_init_147, up2_o, up2_e, iN_ap, iN_up, i_ix, i_inb, i_lt, i_lt0, i_0lt, i_eq, i_ne0, i_00, i_11, i_01, i_10, i_b, i_rem2, n_rem, i_add, i_mul, i_sub, i_div, i_max, i_min, rdk_0, rdk_3, kp_none, kp_int, kp_ref, kp_long, kp_double, aK_v, aK_0, aK_ite, if_true, if_false, and_self, and_true, true_and, or_false, false_or, not_true_eq_false, not_false_eq_true, ite_self, ↓reduceIte, al_1, al_2, n_lt, n_le, n_ne, u1_e, u1_o, hy, h3, h4, eq_self, Nat.add_assoc, Nat.reduceAdd, Nat.zero_add]
    rfl
  case g2 =>
    refine ⟨?_, fun k h1 h2 => ?_⟩
    · simp (disch := omega) only [u1_e, u1_o, hy]
    · rcases (show k = 1 ∨ k = 2 ∨ k = 3 ∨ k = 4 ∨ k = 5 ∨ k = 6 ∨ k = 7 ∨ k = 8 ∨ k = 9 ∨ k = 10 ∨ k = 11 ∨ k = 12 ∨ k = 13 ∨ k = 14 ∨ k = 15 by omega) with rfl | rfl | rfl | rfl | rfl | rfl | rfl | rfl | rfl | rfl | rfl | rfl | rfl | rfl | rfl
      all_goals
        refine ⟨?_, ?_, ?_⟩
        · simp (disch := omega) only [u1_e, u1_o]
        · simp (disch := omega) only [u1_e, u1_o]
          rfl
        · simp (disch := omega) only [u1_e, u1_o, up2_e, u2_j, Nat.reduceAdd]
  case g3 =>
    intro a ha
    refine ⟨?_, ?_, ?_, ?_⟩
    · simp (disch := omega) only [u1_o]
    · simp (disch := omega) only [u1_o]
    · simp (disch := omega) only [u1_o, u2_f]
    · simp (disch := omega) only [u1_o, u2_f, cp_o]
  case g4 =>
    intro k i hk
    rcases (show k = 0 ∨ k = 1 ∨ k = 2 ∨ k = 3 ∨ k = 4 ∨ k = 5 ∨ k = 6 ∨ k = 7 ∨ k = 8 ∨ k = 9 ∨ k = 10 ∨ k = 11 ∨ k = 12 ∨ k = 13 ∨ k = 14 ∨ k = 15 by omega) with rfl | rfl | rfl | rfl | rfl | rfl | rfl | rfl | rfl | rfl | rfl | rfl | rfl | rfl | rfl | rfl
    · simp (disch := omega) only [u1_o, u2_f, cp_o, Nat.add_zero]
      unfold y01
      by_cases q : i = 2
      · rw [up2_e ⟨rfl, q⟩, if_pos ⟨rfl, q⟩]
      · rw [up2_o (by omega), if_neg (by omega), if_neg (by omega), if_neg (by omega), hI]
    · simp (disch := omega) only [u1_e, u1_o, u2_f, cp_o]
      unfold y01
      by_cases q : i = 0
      · rw [up2_e ⟨rfl, q⟩, if_neg (by omega), if_pos ⟨rfl, q⟩]
      · rw [up2_o (by omega), if_neg (by omega), if_neg (by omega), if_neg (by omega)]
        simp (disch := omega) only [u1_e, u1_o]
    · simp (disch := omega) only [cp_e]
      unfold y01
      by_cases q : i < 5
      · rw [if_pos q, if_neg (by omega), if_neg (by omega), if_pos ⟨rfl, q⟩]
        simp (disch := omega) only [u1_o, u2_f, h5]
      · rw [if_neg q, if_neg (by omega), if_neg (by omega), if_neg (by omega)]
        simp (disch := omega) only [u1_e, u1_o, u2_f]
    all_goals
      simp (disch := omega) only [u1_e, u1_o, u2_f, cp_o]
      rfl
  case g5 =>
    omega
theorem n_yard {K G : Nat → Nat} {F : Nat → Nat → Value} {I : Nat → Nat → Int32} {L : Nat → Nat → Int64} {u y : Nat} (hy : K y = 9) (hb : y + 16 < 1000) (hI : I y = fun _ => 0) (h3 : K 100003 = 3) (h4 : G 100003 = 5) (h5 : I 100003 = fFirst) :
    ∃ K' G' F' I' L' u', ex 35 0 [some (.ref y)] [] ((K, G, F, y + 1), I, L, (0, u)) = some (.inl none, ((K', G', F', y + 16), I', L', (0, u'))) ∧ YAt (K', G', F', y + 16) y ∧ FR y (y + 16) (K, G, F, y + 1) (K', G', F', y + 16) I I' ∧ (∀ k i, k < 16 → I' (y + k) i = y00 k i) ∧ u' ≤ u + 1000 := by
  obtain ⟨K', G', F', I', L', u', e1, e2, e3, e4, e5⟩ := n_yard1 (L := L) (u := u) hy hb hI h3 h4 h5
  obtain ⟨I2, f1, f2⟩ := s_fill (Z := (K', G', F', y + 16)) (L := L') (c := (0, u')) (r := y + 8) (n := 36) (v := nI 4294967295) (yK e2 8 rfl) (yL e2 8 rfl) (by omega) 36 0 I' rfl
  refine ⟨K', G', F', I2, L', u', ?_, e2, fun a ha => ?_, fun k i hk => ?_, e5⟩
  · rw [e1]
    have r8 : rdk (K' (y + 8)) = true := by rw [show K' (y + 8) = 0 from yK e2 8 rfl]; rfl
    have l8 : G' (y + 8) = 36 := yL e2 8 rfl
    have ff : ex 94 0 [some (.ref (y + 8)), some (.int (nI 4294967295)), none, none] [] ((K', G', F', y + 16), I', L', (0, u')) = some (.inl none, ((K', G', F', y + 16), I2, L', (0, u'))) := by
      simp (disch := omega) only [r_J7_fill_53178_0, r_J7_fill_53178_1, r_J7_fill_53178_2, r_J7_fill_53178_3, r_J7_fill_53178_4, up2_o, up2_e, iN_ap, iN_up, i_ix, i_inb, i_lt, i_lt0, i_0lt, i_eq, i_ne0, i_00, i_11, i_01, i_10, i_b, i_rem2, n_rem, i_add, i_mul, i_sub, i_div, i_max, i_min, rdk_0, rdk_3, kp_none, kp_int, kp_ref, kp_long, kp_double, aK_v, aK_0, aK_ite, if_true, if_false, and_self, and_true, true_and, or_false, false_or, not_true_eq_false, not_false_eq_true, ite_self, ↓reduceIte, r8, l8]
      exact f1
    have w9 : K' y = 9 := e2.1
    have w8 : F' y 11 = .ref (y + 8) := yR e2 8 rfl
    simp (disch := omega) only [r_X6_init_150, r_X6_init_151, r_X6_init_154, r_X6_init_155, r_X6_init_158, w9, w8, up2_o, up2_e, iN_ap, iN_up, i_ix, i_inb, i_lt, i_lt0, i_0lt, i_eq, i_ne0, i_00, i_11, i_01, i_10, i_b, i_rem2, n_rem, i_add, i_mul, i_sub, i_div, i_max, i_min, rdk_0, rdk_3, kp_none, kp_int, kp_ref, kp_long, kp_double, aK_v, aK_0, aK_ite, if_true, if_false, and_self, and_true, true_and, or_false, false_or, not_true_eq_false, not_false_eq_true, ite_self, ↓reduceIte, nM1, ff]
  · obtain ⟨a1, a2, a3, a4⟩ := e3 a ha
    refine ⟨a1, a2, a3, ?_⟩
    rw [← a4]
    funext j
    rw [f2, if_neg (by omega)]
  · rw [f2, e4 k i hk]
    unfold y00 y01
    by_cases q : k = 8 ∧ i < 36
    · rw [if_pos (by omega), if_neg (by omega), if_neg (by omega), if_neg (by omega), if_pos q]
    · rw [if_neg (by omega)]
      rw [if_neg q]
