/-! the law adds a house -/
theorem MT_cg {N N' : Nat → Nat → Nat} {R : aY} {B : Nat → Nat} {o : Nat} (h : MT N R B o) (e : ∀ a, 144 ≤ a → N' a = N a) : MT N' R B o :=
  ⟨LM_cg h.1 (fun a _ => e a (by omega)), LT_o h.2 (e 147 (by omega)) (e 148 (by omega)) (fun _ => rfl) (fun _ => rfl)⟩
section Ly
variable {Z : aZ} {L : Nat → Nat → Int64} {u : Nat × Nat} {S : aSt}
theorem lz_adds93 {N : Nat → Nat → Nat} {x y : Int32} {n i a w p : Nat} {tx : List Nat} {l : List (Nat × Nat)} (hZ : LZ Z) (T : TX hS S N tx (0, l)) (hw : 1 ≤ w ∧ w ≤ 3) (hp : 1 ≤ p ∧ p ≤ 9999) (hl : l.length < 6) (ha : a + 1 < 60) (ew : N 144 a = w) (ep : N 144 (a + 1) = p) (ht : tx.length + 6 < 60) :
    ∃ N' tx', ex 111 93 [some (.ref 0), some (.int x), some (.int y), some (.ref 144), some (.ref 151), some (.int (nI n)), some (.int (nI i)), some (.int (nI a))] [] (Z, iN N, L, u) = ex 111 133 [some (.ref 0), some (.int x), some (.int y), some (.ref 144), some (.ref 151), some (.int (nI n)), some (.int (nI i)), some (.int (nI a))] [] (Z, iN N', L, u) ∧ TX hS S N' tx' (2, (w, p) :: l) ∧ tx'.length ≤ tx.length + 6 ∧ ∀ a, 144 ≤ a → N' a = N a := by
  have hA := hZ.2.1
  have z0 : Z.1 0 = 10 := hZ.1.1.1
  obtain ⟨N1, g1, g2, g3⟩ := tx_app (L := L) (u := u) (x := 48 + w) hZ.1 T (by omega) (by omega) (hS_wt ⟨hw, hl⟩)
  obtain ⟨N2, j1, j2, j3⟩ := tx_app (L := L) (u := u) (x := 58) hZ.1 g2 (by omega) (by rw [List.length_append, List.length_singleton]; omega) hS_co
  obtain ⟨N3, tx3, k1, k2, k3, k4⟩ := lz_num (L := L) (u := u) (v := p) hZ.1 j2 hp (by rw [List.length_append, List.length_append, List.length_singleton, List.length_singleton]; omega)
  rw [List.length_append, List.length_append, List.length_singleton, List.length_singleton] at k3
  refine ⟨N3, tx3, ?_, k2, by omega, fun b hb => (k4 b hb).trans ((j3 b hb).trans (g3 b hb))⟩
  have e2 : N2 144 (a + 1) = p := by rw [j3 144 (by omega), g3 144 (by omega)]; exact ep
  have q1 : ¬ tx.length + 1 < 1 := by omega
  have q2 : ¬ tx.length + 1 + 1 < 1 := by omega
  rw [List.length_append, List.length_singleton] at j1
  simp (disch := omega) only [r_L_adds_93, r_L_adds_94, r_L_adds_96, r_L_adds_97, r_L_adds_99, r_L_adds_100, r_L_adds_101, r_L_adds_104, r_L_adds_105, r_L_adds_108, r_L_adds_109, r_L_adds_111, r_L_adds_114, r_L_adds_115, r_L_adds_118, r_L_adds_119, r_L_adds_120, r_L_adds_122, r_L_adds_123, r_L_adds_124, r_L_adds_125, r_L_adds_128, up2_o, up2_e, iN_ap, iN_up, i_ix, i_inb, i_lt, i_lt0, i_0lt, i_eq, i_ne0, i_00, i_11, i_01, i_10, i_b, i_rem2, n_rem, i_add, i_mul, i_sub, i_div, i_max, i_min, rdk_0, rdk_3, kp_none, kp_int, kp_ref, kp_long, kp_double, aK_v, aK_0, aK_ite, if_true, if_false, and_self, and_true, true_and, or_false, false_or, not_true_eq_false, not_false_eq_true, ite_self, ↓reduceIte, eq_self, Bool.false_eq_true, hA.1.1, hA.1.2, hA.2.1.1, hA.2.1.2, hA.2.2.1.1, hA.2.2.1.2, hA.2.2.2.1.1, hA.2.2.2.1.2, hA.2.2.2.2.1.1, hA.2.2.2.2.1.2, hA.2.2.2.2.2.1, hA.2.2.2.2.2.2, kp_int, kp_ref, z0, ew, e2, g1, j1, k1, q1, q2]
theorem lz_addsL {B : Nat → Nat} {o : Nat} {x y : Int32} {n c : Nat} (hZ : LZ Z) (hc : c < 3) (hn : n ≤ 4) (h01 : S.1.1 0 1 = c) : ∀ (k i : Nat) (N : Nat → Nat → Nat) (tx : List Nat) (l : List (Nat × Nat)) (a7 : Option Value), i + k = n → l.length = i → TX hS S N tx (if i = 0 then 0 else 2, l) → MT N (ahX c l.reverse 0 S.1.1) B o → tx.length ≤ 7 * i → (∀ e ∈ l, 1 ≤ e.2) →
    ∃ N' tx' l' a7', ex 111 17 [some (.ref 0), some (.int x), some (.int y), some (.ref 144), some (.ref 151), some (.int (nI n)), some (.int (nI i)), a7] [] (Z, iN N, L, u) = ex 111 139 [some (.ref 0), some (.int x), some (.int y), some (.ref 144), some (.ref 151), some (.int (nI n)), some (.int (nI n)), a7'] [] (Z, iN N', L, u) ∧ l'.length = n ∧ TX hS S N' tx' (if n = 0 then 0 else 2, l') ∧ MT N' (ahX c l'.reverse 0 S.1.1) B o ∧ (∀ e ∈ l', 1 ≤ e.2)
  | 0, i, N, tx, l, a7, he, hl, T, hM, _, h1 => by
    have e : i = n := by omega
    subst e
    refine ⟨N, tx, l, a7, ?_, hl, T, hM, h1⟩
    simp (disch := omega) only [r_L_adds_17, r_L_adds_19, r_L_adds_21, up2_o, up2_e, iN_ap, iN_up, i_ix, i_inb, i_lt, i_lt0, i_0lt, i_eq, i_ne0, i_00, i_11, i_01, i_10, i_b, i_rem2, n_rem, i_add, i_mul, i_sub, i_div, i_max, i_min, rdk_0, rdk_3, kp_none, kp_int, kp_ref, kp_long, kp_double, aK_v, aK_0, aK_ite, if_true, if_false, and_self, and_true, true_and, or_false, false_or, not_true_eq_false, not_false_eq_true, ite_self, ↓reduceIte, eq_self, Bool.false_eq_true, Nat.lt_irrefl]
  | k + 1, i, N, tx, l, a7, he, hl, T, hM, hx, h1 => by
    have q : i < n := by omega
    have hA := hZ.2.1
    have z0 : Z.1 0 = 10 := hZ.1.1.1
    have c0 : N 151 0 = c := by rw [hM.1.1.1, ahX_o (by omega) (by omega)]; exact h01
    obtain ⟨r1, hr1, a1⟩ := lz_at (x := x >>> (nI (2 * i + 3) &&& 31)) (n := 3) (h := (Z, iN N, L, u)) (by omega) (by omega)
    obtain ⟨w, hw⟩ : ∃ w, w = 1 + r1 := ⟨_, rfl⟩
    obtain ⟨W1, hW1⟩ : ∃ W, W = up2 N 144 (5 * (4 * c + i) + 0) w := ⟨_, rfl⟩
    obtain ⟨r2, hr2, a2⟩ := lz_at (x := y >>> (nI (3 * i) &&& 31) + nI i) (n := 9999) (h := (Z, iN W1, L, u)) (by omega) (by omega)
    obtain ⟨p, hp⟩ : ∃ p, p = 1 + r2 := ⟨_, rfl⟩
    obtain ⟨W, hW⟩ : ∃ W, W = up2 W1 144 (5 * (4 * c + i) + 1) p := ⟨_, rfl⟩
    have m1 := MT_67 (m := 4 * c + i) (k := 6) (d := 0) (v := w) hM (Or.inl ⟨rfl, rfl⟩)
    rw [← hW1] at m1
    have m2 := MT_67 (m := 4 * c + i) (k := 7) (d := 1) (v := p) m1 (Or.inr ⟨rfl, rfl⟩)
    rw [← hW, show pl (4 * c + i) = c * 6 + (0 + l.reverse.length) by rw [List.length_reverse, hl]; unfold pl; omega, ← ahX_snoc (e := (w, p)), ← List.reverse_cons] at m2
    have T2 : TX hS S W tx (if i = 0 then 0 else 2, l) := TX_cg T (fun a ha => by rw [hW, up2_ne (by omega), hW1, up2_ne (by omega)])
    have ew : W 144 (5 * (4 * c + i)) = w := by rw [hW, up2_o (by omega), hW1]; exact up2_e ⟨rfl, rfl⟩
    have ep : W 144 (5 * (4 * c + i) + 1) = p := by rw [hW]; exact up2_e ⟨rfl, rfl⟩
    have go : ex 111 17 [some (.ref 0), some (.int x), some (.int y), some (.ref 144), some (.ref 151), some (.int (nI n)), some (.int (nI i)), a7] [] (Z, iN N, L, u) = ex 111 78 [some (.ref 0), some (.int x), some (.int y), some (.ref 144), some (.ref 151), some (.int (nI n)), some (.int (nI i)), some (.int (nI (5 * (4 * c + i))))] [] (Z, iN W, L, u) := by
      have w2 : 1 + r1 = w := hw.symm
      have p2 : 1 + r2 = p := hp.symm
      have hW1' : up2 N 144 (5 * (4 * c + i)) w = W1 := hW1.symm
      rw [r_L_adds_17]
      simp (disch := omega) only [r_L_adds_19, r_L_adds_21, r_L_adds_24, r_L_adds_25, r_L_adds_26, r_L_adds_28, r_L_adds_29, r_L_adds_30, r_L_adds_31, r_L_adds_33, r_L_adds_34, r_L_adds_35, r_L_adds_37, r_L_adds_38, r_L_adds_40, r_L_adds_41, r_L_adds_42, r_L_adds_43, r_L_adds_45, r_L_adds_46, r_L_adds_47, r_L_adds_48, r_L_adds_49, r_L_adds_50, r_L_adds_53, r_L_adds_54, r_L_adds_55, r_L_adds_56, r_L_adds_58, r_L_adds_59, r_L_adds_60, r_L_adds_61, r_L_adds_62, r_L_adds_63, r_L_adds_65, r_L_adds_66, r_L_adds_67, r_L_adds_69, r_L_adds_70, r_L_adds_73, r_L_adds_76, r_L_adds_77, up2_o, up2_e, iN_ap, iN_up, i_ix, i_inb, i_lt, i_lt0, i_0lt, i_eq, i_ne0, i_00, i_11, i_01, i_10, i_b, i_rem2, n_rem, i_add, i_mul, i_sub, i_div, i_max, i_min, rdk_0, rdk_3, kp_none, kp_int, kp_ref, kp_long, kp_double, aK_v, aK_0, aK_ite, if_true, if_false, and_self, and_true, true_and, or_false, false_or, not_true_eq_false, not_false_eq_true, ite_self, ↓reduceIte, eq_self, Bool.false_eq_true, hA.1.1, hA.1.2, hA.2.1.1, hA.2.1.2, hA.2.2.1.1, hA.2.2.1.2, hA.2.2.2.1.1, hA.2.2.2.1.2, hA.2.2.2.2.1.1, hA.2.2.2.2.1.2, hA.2.2.2.2.2.1, hA.2.2.2.2.2.2, kp_int, kp_ref, c0, q, a1, w2, hW1', a2, p2]
      rw [← hW]
    have key : ∀ (N3 : Nat → Nat → Nat) (tx3 : List Nat), TX hS S N3 tx3 (0, l) → (∀ a, 144 ≤ a → N3 a = W a) → tx3.length ≤ tx.length + 1 →
        ∃ N' tx' l' a7', ex 111 93 [some (.ref 0), some (.int x), some (.int y), some (.ref 144), some (.ref 151), some (.int (nI n)), some (.int (nI i)), some (.int (nI (5 * (4 * c + i))))] [] (Z, iN N3, L, u) = ex 111 139 [some (.ref 0), some (.int x), some (.int y), some (.ref 144), some (.ref 151), some (.int (nI n)), some (.int (nI n)), a7'] [] (Z, iN N', L, u) ∧ l'.length = n ∧ TX hS S N' tx' (if n = 0 then 0 else 2, l') ∧ MT N' (ahX c l'.reverse 0 S.1.1) B o ∧ (∀ e ∈ l', 1 ≤ e.2) := fun N3 tx3 T3 f3 h3 => by
      obtain ⟨N4, tx4, j1, j2, j3, j4⟩ := lz_adds93 (L := L) (u := u) (x := x) (y := y) (n := n) (i := i) (a := 5 * (4 * c + i)) (w := w) (p := p) hZ T3 (by omega) (by omega) (by omega) (by omega) (by rw [f3 144 (by omega)]; exact ew) (by rw [f3 144 (by omega)]; exact ep) (by omega)
      obtain ⟨N', tx', l', a7', g1, g2⟩ := lz_addsL hZ hc hn h01 k (i + 1) N4 tx4 ((w, p) :: l) (some (.int (nI (5 * (4 * c + i))))) (by omega) (by rw [List.length_cons, hl]) (by rw [if_neg (by omega)]; exact j2) (MT_cg m2 (fun a ha => (j4 a ha).trans (f3 a ha))) (by omega) (fun e h => by
        rcases List.mem_cons.mp h with z | z
        · rw [z]; show 1 ≤ p; omega
        · exact h1 e z)
      refine ⟨N', tx', l', a7', ?_, g2⟩
      rw [j1, ← g1]
      simp (disch := omega) only [r_L_adds_133, r_L_adds_136, up2_o, up2_e, iN_ap, iN_up, i_ix, i_inb, i_lt, i_lt0, i_0lt, i_eq, i_ne0, i_00, i_11, i_01, i_10, i_b, i_rem2, n_rem, i_add, i_mul, i_sub, i_div, i_max, i_min, rdk_0, rdk_3, kp_none, kp_int, kp_ref, kp_long, kp_double, aK_v, aK_0, aK_ite, if_true, if_false, and_self, and_true, true_and, or_false, false_or, not_true_eq_false, not_false_eq_true, ite_self, ↓reduceIte, eq_self, Bool.false_eq_true]
    rw [go]
    by_cases z : i = 0
    · rw [if_pos z] at T2
      obtain ⟨N', tx', l', a7', g1, g2⟩ := key W tx T2 (fun _ _ => rfl) (by omega)
      refine ⟨N', tx', l', a7', ?_, g2⟩
      rw [← g1]
      have z2 : ¬ 0 < i := by omega
      simp (disch := omega) only [r_L_adds_78, r_L_adds_80, up2_o, up2_e, iN_ap, iN_up, i_ix, i_inb, i_lt, i_lt0, i_0lt, i_eq, i_ne0, i_00, i_11, i_01, i_10, i_b, i_rem2, n_rem, i_add, i_mul, i_sub, i_div, i_max, i_min, rdk_0, rdk_3, kp_none, kp_int, kp_ref, kp_long, kp_double, aK_v, aK_0, aK_ite, if_true, if_false, and_self, and_true, true_and, or_false, false_or, not_true_eq_false, not_false_eq_true, ite_self, ↓reduceIte, eq_self, Bool.false_eq_true, z2]
    · rw [if_neg z] at T2
      have z2 : 0 < i := by omega
      obtain ⟨e, l2, hl2⟩ := List.exists_cons_of_length_pos (l := l) (by omega)
      obtain ⟨we, pe⟩ := e
      have hpe := h1 (we, pe) (by rw [hl2]; exact List.mem_cons_self)
      have hll : l2.length + 1 < 6 := by
        have := congrArg List.length hl2
        rw [List.length_cons] at this
        omega
      obtain ⟨N3, j1, j2, j3⟩ := tx_app (L := L) (u := u) (x := 44) (s' := (0, l)) hZ.1 T2 (by omega) (by omega) (by rw [hl2]; exact hS_cm ⟨hpe, hll⟩)
      obtain ⟨N', tx', l', a7', g1, g2⟩ := key N3 _ j2 j3 (by rw [List.length_append, List.length_singleton]; omega)
      refine ⟨N', tx', l', a7', ?_, g2⟩
      rw [← g1]
      have q1 : ¬ tx.length + 1 < 1 := by omega
      simp (disch := omega) only [r_L_adds_78, r_L_adds_80, r_L_adds_83, r_L_adds_84, r_L_adds_86, r_L_adds_89, r_L_adds_90, up2_o, up2_e, iN_ap, iN_up, i_ix, i_inb, i_lt, i_lt0, i_0lt, i_eq, i_ne0, i_00, i_11, i_01, i_10, i_b, i_rem2, n_rem, i_add, i_mul, i_sub, i_div, i_max, i_min, rdk_0, rdk_3, kp_none, kp_int, kp_ref, kp_long, kp_double, aK_v, aK_0, aK_ite, if_true, if_false, and_self, and_true, true_and, or_false, false_or, not_true_eq_false, not_false_eq_true, ite_self, ↓reduceIte, eq_self, Bool.false_eq_true, z0, z2, j1, q1]
theorem lz_adds {N : Nat → Nat → Nat} {B : Nat → Nat} {o : Nat} {x y : Int32} (hZ : LZ Z) (H : LW N S B o) (h1 : LS1 S.1.1) (h3 : S.1.1 0 1 < 3) :
    ∃ N' S', ex 111 0 [some (.ref 0), some (.int x), some (.int y), some (.ref 144), some (.ref 151), none, none, none] [] (Z, iN N, L, u) = some (.inl (some (.int (nI 1))), (Z, iN N', L, u)) ∧ LW N' S' B o ∧ LS1 S'.1.1 ∧ S'.1.1 0 0 = S.1.1 0 0 ∧ 0 < S'.2.1.length ∧ S'.1.1 0 1 = S.1.1 0 1 + 1 := by
  have hA := hZ.2.1
  have z0 : Z.1 0 = 10 := hZ.1.1.1
  have hI := H.2.2.1
  have hSk := H.2.2.2.1
  have hL3 := H.2.2.2.2.1
  have hbk := H.2.2.2.2.2
  have hMT : MT N S.1.1 B o := ⟨H.1, H.2.1⟩
  obtain ⟨r, hr, a1⟩ := lz_at (x := x) (n := 4) (h := (Z, iN N, L, u)) (by omega) (by omega)
  obtain ⟨n, hn⟩ : ∃ n, n = 1 + r := ⟨_, rfl⟩
  obtain ⟨N1, v1, g1, g2, g3⟩ := tx_clr (L := L) (u := u) (f := hS) hZ.1 hI hSk
  obtain ⟨N2, tx, l, a7, j1, j2, j3, j4, j5⟩ := lz_addsL (L := L) (u := u) (S := S) (B := B) (o := o) (x := x) (y := y) (n := n) (c := S.1.1 0 1) hZ h3 (by omega) rfl n 0 N1 [] [] none (by omega) rfl g2 (MT_cg hMT g3) (by simp) (fun e he => by simp at he)
  rw [if_neg (by omega)] at j3
  obtain ⟨e, l2, hl2⟩ := List.exists_cons_of_length_pos (l := l) (by omega)
  obtain ⟨we, pe⟩ := e
  have hpe := j5 (we, pe) (by rw [hl2]; exact List.mem_cons_self)
  have c0 : N2 151 0 = S.1.1 0 1 := by rw [j4.1.1.1, ahX_o (by omega) (by omega)]
  have m1 := MT_ch (h := S.1.1 0 1) (v := n) j4
  have m2 := MT_c0 (v := S.1.1 0 1 + 1) m1
  obtain ⟨W, hW⟩ : ∃ W, W = up2 (up2 N2 151 (4 + S.1.1 0 1) n) 151 0 (S.1.1 0 1 + 1) := ⟨_, rfl⟩
  rw [← hW] at m2
  have hah : up2 (up2 (ahX (S.1.1 0 1) l.reverse 0 S.1.1) 3 (S.1.1 0 1) n) 0 1 (S.1.1 0 1 + 1) = ahR S.1.1 l.reverse := by
    unfold ahR
    rw [List.length_reverse, j2]
  rw [hah] at m2
  have T2 : TX hS S W tx (2, l) := TX_cg j3 (fun a ha => by rw [hW, up2_ne (by omega), up2_ne (by omega)])
  have hr0 : oAdd (S.1, S.2.1, tx) = (0, S.1.1 0 1, (ahR S.1.1 l.reverse, S.1.2), push S.2.1 S.1, []) := by
    have hp : (pH tx).2 = some (2, l) := T2.2.2
    have he : hEnd (2, l) = true := by
      rw [hl2]
      exact Nat.ble_eq_true_of_le hpe
    unfold oAdd
    dsimp only
    rw [hp]
    dsimp only
    rw [if_pos he, if_neg (by omega)]
  obtain ⟨N3, k1, k2, k3⟩ := CR_0 (q_addHouse (L := L) (c := u) hZ.1 T2.1 T2.2.1) hr0
  have hS2 := SOK_add T2.2.1
  rw [hr0] at hS2
  have o0 : ∀ k j, k ≠ 6 → k ≠ 7 → k ≠ 3 → (k ≠ 0 ∨ j ≠ 1) → ahR S.1.1 l.reverse k j = S.1.1 k j := fun k j q1 q2 q3 q4 => by
    rw [← hah, up2_o (by omega), up2_o (by omega), ahX_o q1 q2]
  have o01 : ahR S.1.1 l.reverse 0 1 = S.1.1 0 1 + 1 := by rw [← hah]; exact up2_e ⟨rfl, rfl⟩
  have o3 : ∀ i, ahR S.1.1 l.reverse 3 i = if i = S.1.1 0 1 then n else S.1.1 3 i := fun i => by
    rw [← hah, up2_o (by omega)]
    by_cases z : i = S.1.1 0 1
    · rw [if_pos z, up2_e ⟨rfl, z⟩]
    · rw [if_neg z, up2_o (by omega), ahX_o (by omega) (by omega)]
  have HL3 : LS3 (ahR S.1.1 l.reverse) := ⟨by rw [o01]; omega, fun h hh => by
    rw [o3]
    have := hL3.2 h hh
    split <;> omega⟩
  have HL1 : LS1 (ahR S.1.1 l.reverse) := fun h hh => by
    rw [o01] at hh
    rw [o3]
    split
    · omega
    · exact h1 h (by omega)
  have HW := LW_mk (S2 := ((ahR S.1.1 l.reverse, S.1.2), push S.2.1 S.1, [])) m2 k2 k3 hS2 HL3 hbk
  refine ⟨N3, _, ?_, HW, HL1, o0 0 0 (by omega) (by omega) (by omega) (by omega), push_pos, o01⟩
  have w2 : 1 + r = n := hn.symm
  have c3 : N3 151 0 = S.1.1 0 1 + 1 := by rw [k3 151 (by omega), hW]; exact up2_e ⟨rfl, rfl⟩
  have go : ex 111 0 [some (.ref 0), some (.int x), some (.int y), some (.ref 144), some (.ref 151), none, none, none] [] (Z, iN N, L, u) = ex 111 17 [some (.ref 0), some (.int x), some (.int y), some (.ref 144), some (.ref 151), some (.int (nI n)), some (.int (nI 0)), none] [] (Z, iN N1, L, u) := by
    simp (disch := omega) only [r_L_adds_0, r_L_adds_1, r_L_adds_2, r_L_adds_3, r_L_adds_6, r_L_adds_7, r_L_adds_9, r_L_adds_10, r_L_adds_13, r_L_adds_14, r_L_adds_15, up2_o, up2_e, iN_ap, iN_up, i_ix, i_inb, i_lt, i_lt0, i_0lt, i_eq, i_ne0, i_00, i_11, i_01, i_10, i_b, i_rem2, n_rem, i_add, i_mul, i_sub, i_div, i_max, i_min, rdk_0, rdk_3, kp_none, kp_int, kp_ref, kp_long, kp_double, aK_v, aK_0, aK_ite, if_true, if_false, and_self, and_true, true_and, or_false, false_or, not_true_eq_false, not_false_eq_true, ite_self, ↓reduceIte, eq_self, Bool.false_eq_true, kp_int, kp_ref, z0, a1, w2, g1]
  rw [go, j1]
  simp (disch := omega) only [r_L_adds_139, r_L_adds_141, r_L_adds_142, r_L_adds_144, r_L_adds_145, r_L_adds_146, r_L_adds_147, r_L_adds_149, r_L_adds_150, r_L_adds_152, r_L_adds_153, r_L_adds_154, r_L_adds_155, r_L_adds_156, r_L_adds_157, up2_o, up2_e, iN_ap, iN_up, i_ix, i_inb, i_lt, i_lt0, i_0lt, i_eq, i_ne0, i_00, i_11, i_01, i_10, i_b, i_rem2, n_rem, i_add, i_mul, i_sub, i_div, i_max, i_min, rdk_0, rdk_3, kp_none, kp_int, kp_ref, kp_long, kp_double, aK_v, aK_0, aK_ite, if_true, if_false, and_self, and_true, true_and, or_false, false_or, not_true_eq_false, not_false_eq_true, ite_self, ↓reduceIte, eq_self, Bool.false_eq_true, hA.1.1, hA.1.2, hA.2.1.1, hA.2.1.2, hA.2.2.1.1, hA.2.2.1.2, hA.2.2.2.1.1, hA.2.2.2.1.2, hA.2.2.2.2.1.1, hA.2.2.2.2.1.2, hA.2.2.2.2.2.1, hA.2.2.2.2.2.2, kp_int, kp_ref, c0]
  rw [← hW]
  have e9 : nI (S.1.1 0 1 + 1) - nI 1 = nI (S.1.1 0 1) := by rw [i_sub (by omega), Nat.add_sub_cancel]
  simp (disch := omega) only [r_L_adds_158, r_L_adds_159, r_L_adds_162, r_L_adds_164, r_L_adds_165, r_L_adds_166, r_L_adds_167, r_L_adds_168, r_L_adds_171, r_L_adds_172, r_L_adds_175, r_L_adds_176, up2_o, up2_e, iN_ap, iN_up, i_ix, i_inb, i_lt, i_lt0, i_0lt, i_eq, i_ne0, i_00, i_11, i_01, i_10, i_b, i_rem2, n_rem, i_add, i_mul, i_sub, i_div, i_max, i_min, rdk_0, rdk_3, kp_none, kp_int, kp_ref, kp_long, kp_double, aK_v, aK_0, aK_ite, if_true, if_false, and_self, and_true, true_and, or_false, false_or, not_true_eq_false, not_false_eq_true, ite_self, ↓reduceIte, eq_self, Bool.false_eq_true, hA.1.1, hA.1.2, hA.2.1.1, hA.2.1.2, hA.2.2.1.1, hA.2.2.1.2, hA.2.2.2.1.1, hA.2.2.2.1.2, hA.2.2.2.2.1.1, hA.2.2.2.2.1.2, hA.2.2.2.2.2.1, hA.2.2.2.2.2.2, kp_int, kp_ref, z0, k1, c3, e9, Nat.add_sub_cancel]
end Ly
