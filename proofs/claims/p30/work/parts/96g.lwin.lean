/-! the law sets winds -/
theorem wS_cm {s : aP2} (h : wEnd s = true) (hl : 0 < s.2.length) : wS 44 s = some (0, s.2) := by
  obtain ⟨a, l⟩ := s
  cases l with
  | nil => exact absurd hl (Nat.lt_irrefl 0)
  | cons e l =>
    obtain ⟨w, t⟩ := e
    match a, h with
    | 0, h => cases h
    | 1, _ => rfl
    | 2, h =>
      have h2 : 2 ≤ t := Nat.le_of_ble_eq_true h
      show (if (44 : Nat) = 44 then (if (2 : Nat) = 1 ∨ 2 ≤ t then some ((0 : Nat), (w, t) :: l) else none) else (if (48 ≤ 44 ∧ 44 ≤ 57) ∧ 1 ≤ t * 10 + (44 - 48) ∧ t * 10 + (44 - 48) ≤ 60 then some ((2 : Nat), (w, t * 10 + (44 - 48)) :: l) else none)) = _
      rw [if_pos rfl, if_pos (Or.inr h2)]
    | n + 3, h => cases h
theorem wS_dg {d : Nat} {l : List (Nat × Nat)} (hd : d < 10) (hl : l.length < 60) : wS (48 + d) (0, l) = some (1, (d, 1) :: l) := by
  show (if (48 ≤ 48 + d ∧ 48 + d ≤ 57) ∧ l.length < 60 then some ((1 : Nat), (48 + d - 48, 1) :: l) else none) = _
  rw [if_pos (by omega), Nat.add_sub_cancel_left]
theorem wS_st {w : Nat} {l : List (Nat × Nat)} : wS 42 (1, (w, 1) :: l) = some (2, (w, 0) :: l) := rfl
theorem wS_tm {w d : Nat} {l : List (Nat × Nat)} (hd : 1 ≤ d ∧ d < 10) : wS (48 + d) (2, (w, 0) :: l) = some (2, (w, d) :: l) := by
  show (if 48 + d = 44 then (if (2 : Nat) = 1 ∨ 2 ≤ 0 then some ((0 : Nat), (w, 0) :: l) else none) else (if (48 ≤ 48 + d ∧ 48 + d ≤ 57) ∧ 1 ≤ 0 * 10 + (48 + d - 48) ∧ 0 * 10 + (48 + d - 48) ≤ 60 then some ((2 : Nat), (w, 0 * 10 + (48 + d - 48)) :: l) else none)) = _
  rw [if_neg (by omega), if_pos (by omega), Nat.add_sub_cancel_left, Nat.zero_mul, Nat.zero_add]
section Ly
variable {Z : aZ} {L : Nat → Nat → Int64} {u : Nat × Nat} {S : aSt}
theorem lz_windsT {B : Nat → Nat} {o : Nat} {x y : Int32} {n i v many : Nat} (hZ : LZ Z) (hm : many ≤ 8) : ∀ (r t k : Nat) (N : Nat → Nat → Nat) (X : aY), t + r = many → MT N (up2 X 0 2 k) B o → k + r ≤ 60 →
    ∃ N', ex 112 124 [some (.ref 0), some (.int x), some (.int y), some (.ref 150), some (.ref 151), some (.int (nI n)), some (.int (nI i)), some (.int (nI v)), some (.int (nI many)), some (.int (nI t))] [] (Z, iN N, L, u) = ex 112 153 [some (.ref 0), some (.int x), some (.int y), some (.ref 150), some (.ref 151), some (.int (nI n)), some (.int (nI i)), some (.int (nI v)), some (.int (nI many)), some (.int (nI many))] [] (Z, iN N', L, u) ∧ MT N' (up2 (skX v r k X) 0 2 (k + r)) B o ∧ ∀ a, a ≠ 150 → a ≠ 151 → N' a = N a
  | 0, t, k, N, X, he, hM, _ => by
    have e : t = many := by omega
    subst e
    refine ⟨N, ?_, hM, fun _ _ _ => rfl⟩
    simp (disch := omega) only [r_L_winds_124, r_L_winds_126, r_L_winds_128, up2_o, up2_e, iN_ap, iN_up, i_ix, i_inb, i_lt, i_lt0, i_0lt, i_eq, i_ne0, i_00, i_11, i_01, i_10, i_b, i_rem2, n_rem, i_add, i_mul, i_sub, i_div, i_max, i_min, rdk_0, rdk_3, kp_none, kp_int, kp_ref, kp_long, kp_double, aK_v, aK_0, aK_ite, if_true, if_false, and_self, and_true, true_and, or_false, false_or, not_true_eq_false, not_false_eq_true, ite_self, ↓reduceIte, eq_self, Bool.false_eq_true, Nat.lt_irrefl]
  | r + 1, t, k, N, X, he, hM, hk => by
    have q : t < many := by omega
    have hA := hZ.2.1
    have c3 : N 151 3 = k := by rw [hM.1.1.2.2.2.1]; exact up2_e ⟨rfl, rfl⟩
    have m1 := MT_wi (v := v) hM
    obtain ⟨N', h1, h2, h3⟩ := lz_windsT (x := x) (y := y) (n := n) (i := i) hZ hm r (t + 1) (k + 1) _ _ (by omega) m1 (by omega)
    rw [show k + 1 + r = k + (r + 1) by omega] at h2
    refine ⟨N', ?_, h2, fun a ha hb => (h3 a ha hb).trans (by rw [up2_ne hb, up2_ne ha])⟩
    rw [← h1]
    rw [r_L_winds_124]
    simp (disch := omega) only [r_L_winds_126, r_L_winds_128, r_L_winds_131, r_L_winds_132, r_L_winds_134, r_L_winds_135, r_L_winds_136, r_L_winds_138, r_L_winds_139, r_L_winds_141, r_L_winds_142, r_L_winds_143, r_L_winds_144, r_L_winds_145, r_L_winds_146, r_L_winds_147, r_L_winds_150, up2_o, up2_e, iN_ap, iN_up, i_ix, i_inb, i_lt, i_lt0, i_0lt, i_eq, i_ne0, i_00, i_11, i_01, i_10, i_b, i_rem2, n_rem, i_add, i_mul, i_sub, i_div, i_max, i_min, rdk_0, rdk_3, kp_none, kp_int, kp_ref, kp_long, kp_double, aK_v, aK_0, aK_ite, if_true, if_false, and_self, and_true, true_and, or_false, false_or, not_true_eq_false, not_false_eq_true, ite_self, ↓reduceIte, eq_self, Bool.false_eq_true, hA.1.1, hA.1.2, hA.2.1.1, hA.2.1.2, hA.2.2.1.1, hA.2.2.1.2, hA.2.2.2.1.1, hA.2.2.2.1.2, hA.2.2.2.2.1.1, hA.2.2.2.2.1.2, hA.2.2.2.2.2.1, hA.2.2.2.2.2.2, kp_int, kp_ref, q, c3]
theorem lz_winds77 {N : Nat → Nat → Nat} {x y : Int32} {n i v many : Nat} {a9 : Option Value} {tx : List Nat} {l : List (Nat × Nat)} (hZ : LZ Z) (T : TX wS S N tx (0, l)) (hv : v < 10) (hm : 1 ≤ many ∧ many ≤ 8) (hl : l.length < 60) (ht : tx.length + 3 < 60) :
    ∃ N' tx' s', ex 112 77 [some (.ref 0), some (.int x), some (.int y), some (.ref 150), some (.ref 151), some (.int (nI n)), some (.int (nI i)), some (.int (nI v)), some (.int (nI many)), a9] [] (Z, iN N, L, u) = ex 112 121 [some (.ref 0), some (.int x), some (.int y), some (.ref 150), some (.ref 151), some (.int (nI n)), some (.int (nI i)), some (.int (nI v)), some (.int (nI many)), a9] [] (Z, iN N', L, u) ∧ TX wS S N' tx' s' ∧ s'.2 = (v, many) :: l ∧ wEnd s' = true ∧ tx'.length ≤ tx.length + 3 ∧ ∀ a, 144 ≤ a → N' a = N a := by
  have hA := hZ.2.1
  have z0 : Z.1 0 = 10 := hZ.1.1.1
  obtain ⟨N1, g1, g2, g3⟩ := tx_app (L := L) (u := u) (x := 48 + v) hZ.1 T (by omega) (by omega) (wS_dg hv hl)
  have q1 : ¬ tx.length + 1 < 1 := by omega
  by_cases q : 1 < many
  · obtain ⟨N2, j1, j2, j3⟩ := tx_app (L := L) (u := u) (x := 42) hZ.1 g2 (by omega) (by rw [List.length_append, List.length_singleton]; omega) wS_st
    obtain ⟨N3, k1, k2, k3⟩ := tx_app (L := L) (u := u) (x := 48 + many) hZ.1 j2 (by omega) (by rw [List.length_append, List.length_append, List.length_singleton, List.length_singleton]; omega) (wS_tm (by omega))
    refine ⟨N3, _, _, ?_, k2, rfl, Nat.ble_eq_true_of_le (show 2 ≤ many by omega), ?_, fun b hb => (k3 b hb).trans ((j3 b hb).trans (g3 b hb))⟩
    · have q2 : ¬ tx.length + 1 + 1 < 1 := by omega
      have q3 : ¬ tx.length + 1 + 1 + 1 < 1 := by omega
      rw [List.length_append, List.length_singleton] at j1
      rw [List.length_append, List.length_append, List.length_singleton, List.length_singleton] at k1
      simp (disch := omega) only [r_L_winds_77, r_L_winds_78, r_L_winds_80, r_L_winds_82, r_L_winds_83, r_L_winds_86, r_L_winds_87, r_L_winds_90, r_L_winds_92, r_L_winds_93, r_L_winds_96, r_L_winds_97, r_L_winds_99, r_L_winds_102, r_L_winds_103, r_L_winds_106, r_L_winds_107, r_L_winds_109, r_L_winds_111, r_L_winds_112, r_L_winds_115, r_L_winds_116, up2_o, up2_e, iN_ap, iN_up, i_ix, i_inb, i_lt, i_lt0, i_0lt, i_eq, i_ne0, i_00, i_11, i_01, i_10, i_b, i_rem2, n_rem, i_add, i_mul, i_sub, i_div, i_max, i_min, rdk_0, rdk_3, kp_none, kp_int, kp_ref, kp_long, kp_double, aK_v, aK_0, aK_ite, if_true, if_false, and_self, and_true, true_and, or_false, false_or, not_true_eq_false, not_false_eq_true, ite_self, ↓reduceIte, eq_self, Bool.false_eq_true, kp_int, kp_ref, z0, g1, j1, k1, q1, q2, q3, q]
    · simp only [List.length_append, List.length_singleton]
      omega
  · have e : many = 1 := by omega
    subst e
    refine ⟨N1, _, _, ?_, g2, rfl, rfl, ?_, g3⟩
    · simp (disch := omega) only [r_L_winds_77, r_L_winds_78, r_L_winds_80, r_L_winds_82, r_L_winds_83, r_L_winds_86, r_L_winds_87, r_L_winds_90, r_L_winds_92, r_L_winds_93, up2_o, up2_e, iN_ap, iN_up, i_ix, i_inb, i_lt, i_lt0, i_0lt, i_eq, i_ne0, i_00, i_11, i_01, i_10, i_b, i_rem2, n_rem, i_add, i_mul, i_sub, i_div, i_max, i_min, rdk_0, rdk_3, kp_none, kp_int, kp_ref, kp_long, kp_double, aK_v, aK_0, aK_ite, if_true, if_false, and_self, and_true, true_and, or_false, false_or, not_true_eq_false, not_false_eq_true, ite_self, ↓reduceIte, eq_self, Bool.false_eq_true, kp_int, kp_ref, z0, g1, q1, Nat.lt_irrefl]
    · rw [List.length_append, List.length_singleton]
      omega
theorem lz_windsL {B : Nat → Nat} {o : Nat} {x y : Int32} {n : Nat} (hZ : LZ Z) (hn : n ≤ 7) : ∀ (k i : Nat) (N : Nat → Nat → Nat) (tx : List Nat) (s : aP2) (a7 a8 a9 : Option Value), i + k = n → s.2.length = i → TX wS S N tx s → (i = 0 → s.1 = 0) → (0 < i → wEnd s = true) → MT N (up2 (swX s.2.reverse 0 S.1.1) 0 2 (tot s.2.reverse)) B o → tx.length ≤ 4 * i → tot s.2.reverse ≤ 8 * i →
    ∃ N' tx' s' a7' a8' a9', ex 112 23 [some (.ref 0), some (.int x), some (.int y), some (.ref 150), some (.ref 151), some (.int (nI n)), some (.int (nI i)), a7, a8, a9] [] (Z, iN N, L, u) = ex 112 159 [some (.ref 0), some (.int x), some (.int y), some (.ref 150), some (.ref 151), some (.int (nI n)), some (.int (nI n)), a7', a8', a9'] [] (Z, iN N', L, u) ∧ s'.2.length = n ∧ TX wS S N' tx' s' ∧ (0 < n → wEnd s' = true) ∧ MT N' (up2 (swX s'.2.reverse 0 S.1.1) 0 2 (tot s'.2.reverse)) B o ∧ tot s'.2.reverse ≤ 8 * n
  | 0, i, N, tx, s, a7, a8, a9, he, hl, T, _, h1, hM, _, ht => by
    have e : i = n := by omega
    subst e
    refine ⟨N, tx, s, a7, a8, a9, ?_, hl, T, h1, hM, ht⟩
    simp (disch := omega) only [r_L_winds_23, r_L_winds_25, r_L_winds_27, up2_o, up2_e, iN_ap, iN_up, i_ix, i_inb, i_lt, i_lt0, i_0lt, i_eq, i_ne0, i_00, i_11, i_01, i_10, i_b, i_rem2, n_rem, i_add, i_mul, i_sub, i_div, i_max, i_min, rdk_0, rdk_3, kp_none, kp_int, kp_ref, kp_long, kp_double, aK_v, aK_0, aK_ite, if_true, if_false, and_self, and_true, true_and, or_false, false_or, not_true_eq_false, not_false_eq_true, ite_self, ↓reduceIte, eq_self, Bool.false_eq_true, Nat.lt_irrefl]
  | k + 1, i, N, tx, s, a7, a8, a9, he, hl, T, h0, h1, hM, hx, ht => by
    have q : i < n := by omega
    have hA := hZ.2.1
    have z0 : Z.1 0 = 10 := hZ.1.1.1
    obtain ⟨v, hv, a1⟩ := lz_at (x := x >>> (nI (3 * i) &&& 31) + nI i) (n := 10) (h := (Z, iN N, L, u)) (by omega) (by omega)
    obtain ⟨r2, hr2, a2⟩ := lz_at (x := y >>> (nI i &&& 31) + nI i) (n := 8) (h := (Z, iN N, L, u)) (by omega) (by omega)
    obtain ⟨m, hm⟩ : ∃ m, m = 1 + r2 := ⟨_, rfl⟩
    have go : ex 112 23 [some (.ref 0), some (.int x), some (.int y), some (.ref 150), some (.ref 151), some (.int (nI n)), some (.int (nI i)), a7, a8, a9] [] (Z, iN N, L, u) = ex 112 62 [some (.ref 0), some (.int x), some (.int y), some (.ref 150), some (.ref 151), some (.int (nI n)), some (.int (nI i)), some (.int (nI v)), some (.int (nI m)), a9] [] (Z, iN N, L, u) := by
      have m2 : 1 + r2 = m := hm.symm
      rw [r_L_winds_23]
      simp (disch := omega) only [r_L_winds_25, r_L_winds_27, r_L_winds_30, r_L_winds_31, r_L_winds_32, r_L_winds_34, r_L_winds_35, r_L_winds_36, r_L_winds_38, r_L_winds_39, r_L_winds_41, r_L_winds_44, r_L_winds_46, r_L_winds_47, r_L_winds_48, r_L_winds_50, r_L_winds_51, r_L_winds_53, r_L_winds_54, r_L_winds_56, r_L_winds_59, r_L_winds_60, up2_o, up2_e, iN_ap, iN_up, i_ix, i_inb, i_lt, i_lt0, i_0lt, i_eq, i_ne0, i_00, i_11, i_01, i_10, i_b, i_rem2, n_rem, i_add, i_mul, i_sub, i_div, i_max, i_min, rdk_0, rdk_3, kp_none, kp_int, kp_ref, kp_long, kp_double, aK_v, aK_0, aK_ite, if_true, if_false, and_self, and_true, true_and, or_false, false_or, not_true_eq_false, not_false_eq_true, ite_self, ↓reduceIte, eq_self, Bool.false_eq_true, kp_int, kp_ref, q, a1, a2, m2]
    have key : ∀ (N3 : Nat → Nat → Nat) (tx3 : List Nat), TX wS S N3 tx3 (0, s.2) → (∀ a, 144 ≤ a → N3 a = N a) → tx3.length ≤ tx.length + 1 →
        ∃ N' tx' s' a7' a8' a9', ex 112 77 [some (.ref 0), some (.int x), some (.int y), some (.ref 150), some (.ref 151), some (.int (nI n)), some (.int (nI i)), some (.int (nI v)), some (.int (nI m)), a9] [] (Z, iN N3, L, u) = ex 112 159 [some (.ref 0), some (.int x), some (.int y), some (.ref 150), some (.ref 151), some (.int (nI n)), some (.int (nI n)), a7', a8', a9'] [] (Z, iN N', L, u) ∧ s'.2.length = n ∧ TX wS S N' tx' s' ∧ (0 < n → wEnd s' = true) ∧ MT N' (up2 (swX s'.2.reverse 0 S.1.1) 0 2 (tot s'.2.reverse)) B o ∧ tot s'.2.reverse ≤ 8 * n := fun N3 tx3 T3 f3 h3 => by
      obtain ⟨N4, tx4, s4, j1, j2, j3, j4, j5, j6⟩ := lz_winds77 (L := L) (u := u) (x := x) (y := y) (n := n) (i := i) (v := v) (many := m) (a9 := a9) hZ T3 hv (by omega) (by omega) (by omega)
      have er : s4.2.reverse = s.2.reverse ++ [(v, m)] := by rw [j3, List.reverse_cons]
      have m1 : MT N4 (up2 (swX s.2.reverse 0 S.1.1) 0 2 (tot s.2.reverse)) B o := MT_cg hM (fun a ha => (j6 a ha).trans (f3 a ha))
      obtain ⟨N5, k1, k2, k3⟩ := lz_windsT (L := L) (u := u) (x := x) (y := y) (n := n) (i := i) (v := v) (many := m) hZ (by omega) m 0 _ N4 _ (by omega) m1 (by omega)
      have e2 : skX v m (tot s.2.reverse) (swX s.2.reverse 0 S.1.1) = swX s4.2.reverse 0 S.1.1 := by rw [er, swX_snoc, Nat.zero_add]
      have e3 : tot s.2.reverse + m = tot s4.2.reverse := by rw [er, tot_app]
      rw [e2, e3] at k2
      have l4 : s4.2.length = i + 1 := by rw [j3, List.length_cons, hl]
      obtain ⟨N', tx', s', a7', a8', a9', g1, g2⟩ := lz_windsL hZ hn k (i + 1) N5 tx4 s4 (some (.int (nI v))) (some (.int (nI m))) (some (.int (nI m))) (by omega) l4 (TX_cg j2 (fun a ha => k3 a (by omega) (by omega))) (by omega) (fun _ => j4) k2 (by omega) (by omega)
      refine ⟨N', tx', s', a7', a8', a9', ?_, g2⟩
      rw [j1, ← g1]
      have k0 : ex 112 121 [some (.ref 0), some (.int x), some (.int y), some (.ref 150), some (.ref 151), some (.int (nI n)), some (.int (nI i)), some (.int (nI v)), some (.int (nI m)), a9] [] (Z, iN N4, L, u) = ex 112 124 [some (.ref 0), some (.int x), some (.int y), some (.ref 150), some (.ref 151), some (.int (nI n)), some (.int (nI i)), some (.int (nI v)), some (.int (nI m)), some (.int (nI 0))] [] (Z, iN N4, L, u) := by
        simp (disch := omega) only [r_L_winds_121, r_L_winds_122, up2_o, up2_e, iN_ap, iN_up, i_ix, i_inb, i_lt, i_lt0, i_0lt, i_eq, i_ne0, i_00, i_11, i_01, i_10, i_b, i_rem2, n_rem, i_add, i_mul, i_sub, i_div, i_max, i_min, rdk_0, rdk_3, kp_none, kp_int, kp_ref, kp_long, kp_double, aK_v, aK_0, aK_ite, if_true, if_false, and_self, and_true, true_and, or_false, false_or, not_true_eq_false, not_false_eq_true, ite_self, ↓reduceIte, eq_self, Bool.false_eq_true]
      rw [k0, k1]
      simp (disch := omega) only [r_L_winds_153, r_L_winds_156, up2_o, up2_e, iN_ap, iN_up, i_ix, i_inb, i_lt, i_lt0, i_0lt, i_eq, i_ne0, i_00, i_11, i_01, i_10, i_b, i_rem2, n_rem, i_add, i_mul, i_sub, i_div, i_max, i_min, rdk_0, rdk_3, kp_none, kp_int, kp_ref, kp_long, kp_double, aK_v, aK_0, aK_ite, if_true, if_false, and_self, and_true, true_and, or_false, false_or, not_true_eq_false, not_false_eq_true, ite_self, ↓reduceIte, eq_self, Bool.false_eq_true]
    rw [go]
    by_cases z : i = 0
    · have T2 : TX wS S N tx (0, s.2) := by
        rw [← h0 z]
        exact T
      obtain ⟨N', tx', s', a7', a8', a9', g1, g2⟩ := key N tx T2 (fun _ _ => rfl) (by omega)
      refine ⟨N', tx', s', a7', a8', a9', ?_, g2⟩
      rw [← g1]
      have z2 : ¬ 0 < i := by omega
      simp (disch := omega) only [r_L_winds_62, r_L_winds_64, up2_o, up2_e, iN_ap, iN_up, i_ix, i_inb, i_lt, i_lt0, i_0lt, i_eq, i_ne0, i_00, i_11, i_01, i_10, i_b, i_rem2, n_rem, i_add, i_mul, i_sub, i_div, i_max, i_min, rdk_0, rdk_3, kp_none, kp_int, kp_ref, kp_long, kp_double, aK_v, aK_0, aK_ite, if_true, if_false, and_self, and_true, true_and, or_false, false_or, not_true_eq_false, not_false_eq_true, ite_self, ↓reduceIte, eq_self, Bool.false_eq_true, z2]
    · have z2 : 0 < i := by omega
      obtain ⟨N3, j1, j2, j3⟩ := tx_app (L := L) (u := u) (x := 44) hZ.1 T (by omega) (by omega) (wS_cm (h1 z2) (by omega))
      obtain ⟨N', tx', s', a7', a8', a9', g1, g2⟩ := key N3 _ j2 j3 (by rw [List.length_append, List.length_singleton]; omega)
      refine ⟨N', tx', s', a7', a8', a9', ?_, g2⟩
      rw [← g1]
      have q1 : ¬ tx.length + 1 < 1 := by omega
      simp (disch := omega) only [r_L_winds_62, r_L_winds_64, r_L_winds_67, r_L_winds_68, r_L_winds_70, r_L_winds_73, r_L_winds_74, up2_o, up2_e, iN_ap, iN_up, i_ix, i_inb, i_lt, i_lt0, i_0lt, i_eq, i_ne0, i_00, i_11, i_01, i_10, i_b, i_rem2, n_rem, i_add, i_mul, i_sub, i_div, i_max, i_min, rdk_0, rdk_3, kp_none, kp_int, kp_ref, kp_long, kp_double, aK_v, aK_0, aK_ite, if_true, if_false, and_self, and_true, true_and, or_false, false_or, not_true_eq_false, not_false_eq_true, ite_self, ↓reduceIte, eq_self, Bool.false_eq_true, z0, z2, j1, q1]
theorem lz_winds {N : Nat → Nat → Nat} {B : Nat → Nat} {o : Nat} {x y : Int32} (hZ : LZ Z) (H : LW N S B o) (h1 : LS1 S.1.1) :
    AR Z L u S o (ex 112 0 [some (.ref 0), some (.int x), some (.int y), some (.ref 150), some (.ref 151), none, none, none, none, none] [] (Z, iN N, L, u)) := by
  have hA := hZ.2.1
  have z0 : Z.1 0 = 10 := hZ.1.1.1
  have hI := H.2.2.1
  have hSk := H.2.2.2.1
  have hL3 := H.2.2.2.2.1
  have hbk := H.2.2.2.2.2
  have hMT : MT N S.1.1 B o := ⟨H.1, H.2.1⟩
  obtain ⟨r, hr, a1⟩ := lz_at (x := x) (n := 7) (h := (Z, iN N, L, u)) (by omega) (by omega)
  obtain ⟨n, hn⟩ : ∃ n, n = 1 + r := ⟨_, rfl⟩
  obtain ⟨N1, v1, g1, g2, g3⟩ := tx_clr (L := L) (u := u) (f := wS) hZ.1 hI hSk
  have m0 := MT_w0 (MT_cg hMT g3)
  obtain ⟨W, hW⟩ : ∃ W, W = up2 N1 151 3 0 := ⟨_, rfl⟩
  rw [← hW] at m0
  have T1 : TX wS S W [] (0, []) := TX_cg g2 (fun a ha => by rw [hW, up2_ne (by omega)])
  obtain ⟨N2, tx, s, a7, a8, a9, j1, j2, T2, j4, j5, j6⟩ := lz_windsL (L := L) (u := u) (S := S) (B := B) (o := o) (x := x) (y := y) (n := n) hZ (by omega) n 0 W [] (0, []) none none none (by omega) rfl T1 (fun _ => rfl) (fun z => absurd z (Nat.lt_irrefl 0)) m0 (by simp) (Nat.zero_le _)
  have he := j4 (by omega)
  have hr0 : oWnd (S.1, S.2.1, tx) = (0, tot s.2.reverse, (swR S.1.1 s.2.reverse, S.1.2), push S.2.1 S.1, []) := by
    have hp : (pW tx).2 = some s := T2.2.2
    unfold oWnd
    dsimp only
    rw [hp]
    dsimp only
    rw [if_pos he, if_neg (by omega)]
  obtain ⟨N3, k1, k2, k3⟩ := CR_0 (q_setWinds (L := L) (c := u) hZ.1 T2.1 T2.2.1) hr0
  have hS2 := SOK_wnd T2.2.1
  rw [hr0] at hS2
  have o0 : ∀ k j, k ≠ 1 → (k ≠ 0 ∨ j ≠ 2) → swR S.1.1 s.2.reverse k j = S.1.1 k j := fun k j q1 q4 => by
    unfold swR
    rw [up2_o (by omega), swX_o q1]
  have HW := LW_mk (S2 := ((swR S.1.1 s.2.reverse, S.1.2), push S.2.1 S.1, [])) j5 k2 k3 hS2 (LS3_o hL3 (o0 0 1 (by omega) (by omega)) (fun i => o0 3 i (by omega) (by omega))) hbk
  refine ⟨N3, _, B, o, ?_, HW, LS1_o h1 (o0 0 1 (by omega) (by omega)) (fun i => o0 3 i (by omega) (by omega)), by omega, ?_, fun _ => push_pos⟩
  · have w2 : 1 + r = n := hn.symm
    have c3 : N3 151 3 = tot s.2.reverse := by rw [k3 151 (by omega), j5.1.1.2.2.2.1]; exact up2_e ⟨rfl, rfl⟩
    have go : ex 112 0 [some (.ref 0), some (.int x), some (.int y), some (.ref 150), some (.ref 151), none, none, none, none, none] [] (Z, iN N, L, u) = ex 112 23 [some (.ref 0), some (.int x), some (.int y), some (.ref 150), some (.ref 151), some (.int (nI n)), some (.int (nI 0)), none, none, none] [] (Z, iN W, L, u) := by
      have hW' : up2 N1 151 3 0 = W := hW.symm
      simp (disch := omega) only [r_L_winds_0, r_L_winds_1, r_L_winds_2, r_L_winds_4, r_L_winds_7, r_L_winds_8, r_L_winds_10, r_L_winds_11, r_L_winds_14, r_L_winds_15, r_L_winds_17, r_L_winds_18, r_L_winds_19, r_L_winds_20, r_L_winds_21, up2_o, up2_e, iN_ap, iN_up, i_ix, i_inb, i_lt, i_lt0, i_0lt, i_eq, i_ne0, i_00, i_11, i_01, i_10, i_b, i_rem2, n_rem, i_add, i_mul, i_sub, i_div, i_max, i_min, rdk_0, rdk_3, kp_none, kp_int, kp_ref, kp_long, kp_double, aK_v, aK_0, aK_ite, if_true, if_false, and_self, and_true, true_and, or_false, false_or, not_true_eq_false, not_false_eq_true, ite_self, ↓reduceIte, eq_self, Bool.false_eq_true, hA.1.1, hA.1.2, hA.2.1.1, hA.2.1.2, hA.2.2.1.1, hA.2.2.1.2, hA.2.2.2.1.1, hA.2.2.2.1.2, hA.2.2.2.2.1.1, hA.2.2.2.2.1.2, hA.2.2.2.2.2.1, hA.2.2.2.2.2.2, kp_int, kp_ref, z0, a1, w2, g1, hW']
    rw [go, j1]
    simp (disch := omega) only [r_L_winds_159, r_L_winds_160, r_L_winds_163, r_L_winds_165, r_L_winds_166, r_L_winds_167, r_L_winds_170, r_L_winds_171, r_L_winds_174, r_L_winds_175, up2_o, up2_e, iN_ap, iN_up, i_ix, i_inb, i_lt, i_lt0, i_0lt, i_eq, i_ne0, i_00, i_11, i_01, i_10, i_b, i_rem2, n_rem, i_add, i_mul, i_sub, i_div, i_max, i_min, rdk_0, rdk_3, kp_none, kp_int, kp_ref, kp_long, kp_double, aK_v, aK_0, aK_ite, if_true, if_false, and_self, and_true, true_and, or_false, false_or, not_true_eq_false, not_false_eq_true, ite_self, ↓reduceIte, eq_self, Bool.false_eq_true, hA.1.1, hA.1.2, hA.2.1.1, hA.2.1.2, hA.2.2.1.1, hA.2.2.1.2, hA.2.2.2.1.1, hA.2.2.2.1.2, hA.2.2.2.2.1.1, hA.2.2.2.2.1.2, hA.2.2.2.2.2.1, hA.2.2.2.2.2.2, kp_int, kp_ref, z0, k1, c3]
  · show swR S.1.1 s.2.reverse 0 0 ≤ _
    rw [o0 0 0 (by omega) (by omega)]
    omega
end Ly
