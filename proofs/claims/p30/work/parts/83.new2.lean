/-! the smaller objects are made -/
set_option maxHeartbeats 4000000 in
theorem n_slots {K G : Nat → Nat} {F : Nat → Nat → Value} {I : Nat → Nat → Int32} {L : Nat → Nat → Int64} {u y : Nat} (hy : K y = 7) (hb : y + 5 < 1000) (hI : I y = fun _ => 0) :
    ∃ K' G' F' I' L' u', ex 15 0 [some (.ref y)] [] ((K, G, F, y + 1), I, L, (0, u)) = some (.inl none, ((K', G', F', y + 5), I', L', (0, u'))) ∧ SAt (K', G', F', y + 5) y ∧ FR y (y + 5) (K, G, F, y + 1) (K', G', F', y + 5) I I' ∧ (∀ k i, k < 5 → I' (y + k) i = 0) ∧ u' ≤ u + 5000 := by
  refine ⟨?K, ?G, ?F, ?I, ?L, ?u, ?g1, ?g2, ?g3, ?g4, ?g5⟩
  case g1 =>
    simp (disch := omega) only [r_X3_init_0, r_X3_init_1, r_X3_init_4, r_X3_init_5, r_X3_init_8, r_X3_init_10, r_X3_init_13, r_X3_init_14, r_X3_init_17, r_X3_init_19, r_X3_init_22, r_X3_init_23, r_X3_init_25, r_X3_init_27, r_X3_init_30, r_X3_init_31, r_X3_init_33, r_X3_init_35, r_X3_init_38, up2_o, up2_e, iN_ap, iN_up, i_ix, i_inb, i_lt, i_lt0, i_0lt, i_eq, i_ne0, i_00, i_11, i_01, i_10, i_b, i_rem2, n_rem, i_add, i_mul, i_sub, i_div, i_max, i_min, rdk_0, rdk_3, kp_none, kp_int, kp_ref, kp_long, kp_double, aK_v, aK_0, aK_ite, if_true, if_false, and_self, and_true, true_and, or_false, false_or, not_true_eq_false, not_false_eq_true, ite_self, ↓reduceIte, al_1, al_2, n_lt, n_le, n_ne, u1_e, u1_o, hy, eq_self, Nat.add_assoc, Nat.reduceAdd, Nat.zero_add]
    rfl
  case g2 =>
    refine ⟨?_, ?_, ?_, ?_, ?_, ?_, ?_, ?_, ?_, ?_, ?_, ?_, ?_⟩
    all_goals simp (disch := omega) only [u1_e, u1_o, up2_e, u2_j, u2_f, hy]
  case g3 =>
    intro a ha
    refine ⟨?_, ?_, ?_, ?_⟩
    · simp (disch := omega) only [u1_o]
    · simp (disch := omega) only [u1_o]
    · simp (disch := omega) only [u1_o, u2_f]
    · simp (disch := omega) only [u1_o, u2_f]
  case g4 =>
    intro k i hk
    rcases (show k = 0 ∨ k = 1 ∨ k = 2 ∨ k = 3 ∨ k = 4 by omega) with rfl | rfl | rfl | rfl | rfl
    · simp (disch := omega) only [u1_o, hI, Nat.add_zero]
    all_goals simp (disch := omega) only [u1_e, u1_o]
  case g5 =>
    omega
theorem n_text {K G : Nat → Nat} {F : Nat → Nat → Value} {I : Nat → Nat → Int32} {L : Nat → Nat → Int64} {u y : Nat} (hy : K y = 5) (hb : y + 5 < 1000) (hI : I y = fun _ => 0) :
    ∃ K' G' F' I' L' u', ex 8 0 [some (.ref y)] [] ((K, G, F, y + 1), I, L, (0, u)) = some (.inl none, ((K', G', F', y + 2), I', L', (0, u'))) ∧ TAt (K', G', F', y + 2) y ∧ FR y (y + 2) (K, G, F, y + 1) (K', G', F', y + 2) I I' ∧ (∀ i, I' y i = 0) ∧ u' ≤ u + 1000 := by
  refine ⟨?K, ?G, ?F, ?I, ?L, ?u, ?g1, ?g2, ?g3, ?g4, ?g5⟩
  case g1 =>
    simp (disch := omega) only [r_X1_init_0, r_X1_init_1, r_X1_init_4, r_X1_init_5, r_X1_init_7, r_X1_init_9, r_X1_init_12, up2_o, up2_e, iN_ap, iN_up, i_ix, i_inb, i_lt, i_lt0, i_0lt, i_eq, i_ne0, i_00, i_11, i_01, i_10, i_b, i_rem2, n_rem, i_add, i_mul, i_sub, i_div, i_max, i_min, rdk_0, rdk_3, kp_none, kp_int, kp_ref, kp_long, kp_double, aK_v, aK_0, aK_ite, if_true, if_false, and_self, and_true, true_and, or_false, false_or, not_true_eq_false, not_false_eq_true, ite_self, ↓reduceIte, al_1, al_2, n_lt, n_le, n_ne, u1_e, u1_o, hy, eq_self, Nat.add_assoc, Nat.reduceAdd, Nat.zero_add]
    rfl
  case g2 =>
    refine ⟨?_, ?_, ?_, ?_⟩
    all_goals simp (disch := omega) only [u1_e, u1_o, up2_e, u2_j, u2_f, hy]
  case g3 =>
    intro a ha
    refine ⟨?_, ?_, ?_, ?_⟩
    · simp (disch := omega) only [u1_o]
    · simp (disch := omega) only [u1_o]
    · simp (disch := omega) only [u1_o, u2_f]
    · simp (disch := omega) only [u1_o, u2_f]
  case g4 =>
    intro i
    simp (disch := omega) only [u1_o, hI]
  case g5 =>
    omega
theorem n_hread {K G : Nat → Nat} {F : Nat → Nat → Value} {I : Nat → Nat → Int32} {L : Nat → Nat → Int64} {u y : Nat} (hy : K y = 4) (hb : y + 5 < 1000) :
    ∃ K' G' F' I' L' u', ex 0 0 [some (.ref y)] [] ((K, G, F, y + 1), I, L, (0, u)) = some (.inl none, ((K', G', F', y + 3), I', L', (0, u'))) ∧ RAt (K', G', F', y + 3) y 4 6 ∧ FR y (y + 3) (K, G, F, y + 1) (K', G', F', y + 3) I I' ∧ u' ≤ u + 1000 := by
  refine ⟨?K, ?G, ?F, ?I, ?L, ?u, ?g1, ?g2, ?g3, ?g5⟩
  case g1 =>
    simp (disch := omega) only [r_X0_init_0, r_X0_init_1, r_X0_init_4, r_X0_init_5, r_X0_init_7, r_X0_init_9, r_X0_init_12, r_X0_init_13, r_X0_init_15, r_X0_init_17, r_X0_init_20, up2_o, up2_e, iN_ap, iN_up, i_ix, i_inb, i_lt, i_lt0, i_0lt, i_eq, i_ne0, i_00, i_11, i_01, i_10, i_b, i_rem2, n_rem, i_add, i_mul, i_sub, i_div, i_max, i_min, rdk_0, rdk_3, kp_none, kp_int, kp_ref, kp_long, kp_double, aK_v, aK_0, aK_ite, if_true, if_false, and_self, and_true, true_and, or_false, false_or, not_true_eq_false, not_false_eq_true, ite_self, ↓reduceIte, al_1, al_2, n_lt, n_le, n_ne, u1_e, u1_o, hy, eq_self, Nat.add_assoc, Nat.reduceAdd, Nat.zero_add]
    rfl
  case g2 =>
    refine ⟨?_, ?_, ?_, ?_, ?_, ?_, ?_⟩
    all_goals simp (disch := omega) only [u1_e, u1_o, up2_e, u2_j, u2_f, hy]
  case g3 =>
    intro a ha
    refine ⟨?_, ?_, ?_, ?_⟩
    · simp (disch := omega) only [u1_o]
    · simp (disch := omega) only [u1_o]
    · simp (disch := omega) only [u1_o, u2_f]
    · simp (disch := omega) only [u1_o, u2_f]
  case g5 =>
    omega
theorem n_wread {K G : Nat → Nat} {F : Nat → Nat → Value} {I : Nat → Nat → Int32} {L : Nat → Nat → Int64} {u y : Nat} (hy : K y = 8) (hb : y + 5 < 1000) :
    ∃ K' G' F' I' L' u', ex 25 0 [some (.ref y)] [] ((K, G, F, y + 1), I, L, (0, u)) = some (.inl none, ((K', G', F', y + 3), I', L', (0, u'))) ∧ RAt (K', G', F', y + 3) y 8 60 ∧ FR y (y + 3) (K, G, F, y + 1) (K', G', F', y + 3) I I' ∧ u' ≤ u + 1000 := by
  refine ⟨?K, ?G, ?F, ?I, ?L, ?u, ?g1, ?g2, ?g3, ?g5⟩
  case g1 =>
    simp (disch := omega) only [r_X5_init_0, r_X5_init_1, r_X5_init_4, r_X5_init_5, r_X5_init_7, r_X5_init_9, r_X5_init_12, r_X5_init_13, r_X5_init_15, r_X5_init_17, r_X5_init_20, up2_o, up2_e, iN_ap, iN_up, i_ix, i_inb, i_lt, i_lt0, i_0lt, i_eq, i_ne0, i_00, i_11, i_01, i_10, i_b, i_rem2, n_rem, i_add, i_mul, i_sub, i_div, i_max, i_min, rdk_0, rdk_3, kp_none, kp_int, kp_ref, kp_long, kp_double, aK_v, aK_0, aK_ite, if_true, if_false, and_self, and_true, true_and, or_false, false_or, not_true_eq_false, not_false_eq_true, ite_self, ↓reduceIte, al_1, al_2, n_lt, n_le, n_ne, u1_e, u1_o, hy, eq_self, Nat.add_assoc, Nat.reduceAdd, Nat.zero_add]
    rfl
  case g2 =>
    refine ⟨?_, ?_, ?_, ?_, ?_, ?_, ?_⟩
    all_goals simp (disch := omega) only [u1_e, u1_o, up2_e, u2_j, u2_f, hy]
  case g3 =>
    intro a ha
    refine ⟨?_, ?_, ?_, ?_⟩
    · simp (disch := omega) only [u1_o]
    · simp (disch := omega) only [u1_o]
    · simp (disch := omega) only [u1_o, u2_f]
    · simp (disch := omega) only [u1_o, u2_f]
  case g5 =>
    omega
