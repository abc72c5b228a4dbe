/-! the law's calls that may fail -/
theorem aK_x {M pc pc' e k t : Nat} {ls l' : aL} {rest : List Value} {h : aH} (h1 : hdl M pc e = some (k, t)) (h2 : skp ls k = some l') : aK M pc ls pc' rest (some (.inr e, h)) = ex M t l' [] h := by
  unfold aK
  dsimp only
  rw [h1]
  dsimp only
  rw [h2]
def WR (Z : aZ) (L : Nat → Nat → Int64) (c : Nat × Nat) (N : Nat → Nat → Nat) (e : Option (aR × aH)) (o : Nat × Nat × aSt) : Prop :=
  ∃ N' L' c', e = some (.inl (some (.int (nI o.1))), (Z, iN N', L', c')) ∧ CI N' o.2.2 ∧ (∀ a, 144 ≤ a → N' a = N a) ∧ (o.1 = 0 → L' 152 0 = (nI o.2.1).toInt64) ∧ (c' = c ∨ c' = bc c) ∧ ∀ a, a ≠ 152 → L' a = L a
theorem kb1 {n : Nat} {a : Prop} (h : n ≤ 1) (ha : a) : n = 0 ∨ (n = 1 ∧ a) := by
  rcases (show n = 0 ∨ n = 1 by omega) with h | h
  · exact Or.inl h
  · exact Or.inr ⟨h, ha⟩
theorem kb2 {n : Nat} {a b : Prop} (h : n ≤ 2) (ha : a) (hb : b) : n = 0 ∨ (n = 1 ∧ a) ∨ (n = 2 ∧ b) := by
  rcases (show n = 0 ∨ n = 1 ∨ n = 2 by omega) with h | h | h
  · exact Or.inl h
  · exact Or.inr (Or.inl ⟨h, ha⟩)
  · exact Or.inr (Or.inr ⟨h, hb⟩)
theorem kb3 {n : Nat} {a b c : Prop} (h : n ≤ 3) (ha : a) (hb : b) (hc : c) : n = 0 ∨ (n = 1 ∧ a) ∨ (n = 2 ∧ b) ∨ (n = 3 ∧ c) := by
  rcases (show n = 0 ∨ n = 1 ∨ n = 2 ∨ n = 3 by omega) with h | h | h | h
  · exact Or.inl h
  · exact Or.inr (Or.inl ⟨h, ha⟩)
  · exact Or.inr (Or.inr (Or.inl ⟨h, hb⟩))
  · exact Or.inr (Or.inr (Or.inr ⟨h, hc⟩))
section Wr
variable {Z : aZ} {L : Nat → Nat → Int64} {c : Nat × Nat} {N : Nat → Nat → Nat}
theorem w_book {kd : Nat → Nat} {o : Nat × Nat × aSt} {v1 v2 : Int32} (z0 : Z.1 0 = 10) (z1 : Z.1 152 = 1) (z2 : Z.2.1 152 = 1) (h : CR Z L c N kd (ex 59 0 [some (.ref 0), some (.int v1), some (.int v2), none, none] [] (Z, iN N, L, c)) o) (hk : o.1 = 0 ∨ (o.1 = 1 ∧ kd 1 = 0) ∨ (o.1 = 2 ∧ kd 2 = 1) ∨ (o.1 = 3 ∧ kd 3 = 2)) :
    WR Z L c N (ex 190 0 [some (.ref 0), some (.int v1), some (.int v2), some (.ref 152), none] [] (Z, iN N, L, c)) o := by
  obtain ⟨k, v, S'⟩ := o
  obtain ⟨N1, e, h1, h2⟩ := h
  dsimp only at e h1 hk
  rcases hk with rfl | ⟨rfl, hk⟩ | ⟨rfl, hk⟩ | ⟨rfl, hk⟩
  · rw [if_pos rfl] at e
    refine ⟨N1, up2 L 152 0 (nI v).toInt64, c, ?_, h1, h2, fun _ => up2_e ⟨rfl, rfl⟩, Or.inl rfl, fun a ha => (by funext j; exact up2_o (by omega))⟩
    simp (disch := omega) only [r_L_book_0, r_L_book_1, r_L_book_2, r_L_book_3, r_L_book_4, r_L_book_5, r_L_book_8, r_L_book_9, r_L_book_10, r_L_book_15, r_L_book_16, r_L_book_19, r_L_book_20, r_L_book_23, r_L_book_24, r_L_book_25, r_L_book_26, z0, z1, z2, up2_o, up2_e, iN_ap, iN_up, i_ix, i_inb, i_lt, i_lt0, i_0lt, i_eq, i_ne0, i_00, i_11, i_01, i_10, i_b, i_rem2, n_rem, i_add, i_mul, i_sub, i_div, i_max, i_min, rdk_0, rdk_3, kp_none, kp_int, kp_ref, kp_long, kp_double, aK_v, aK_0, aK_ite, if_true, if_false, and_self, and_true, true_and, or_false, false_or, not_true_eq_false, not_false_eq_true, ite_self, ↓reduceIte, e]
  · rw [if_neg (by omega), hk] at e
    refine ⟨N1, L, bc c, ?_, h1, h2, fun z => absurd z (by dsimp only; omega), Or.inr rfl, fun _ _ => rfl⟩
    simp (disch := omega) only [r_L_book_0, r_L_book_1, r_L_book_2, r_L_book_3, r_L_book_4, r_L_book_5, r_L_book_8, r_L_book_9, r_L_book_10, r_L_book_15, r_L_book_16, r_L_book_19, r_L_book_20, r_L_book_23, r_L_book_24, r_L_book_25, r_L_book_26, z0, up2_o, up2_e, iN_ap, iN_up, i_ix, i_inb, i_lt, i_lt0, i_0lt, i_eq, i_ne0, i_00, i_11, i_01, i_10, i_b, i_rem2, n_rem, i_add, i_mul, i_sub, i_div, i_max, i_min, rdk_0, rdk_3, kp_none, kp_int, kp_ref, kp_long, kp_double, aK_v, aK_0, aK_ite, if_true, if_false, and_self, and_true, true_and, or_false, false_or, not_true_eq_false, not_false_eq_true, ite_self, ↓reduceIte, e]
    rw [aK_x (k := 4) (t := 15) (by decide +kernel) rfl]
    simp only [r_L_book_0, r_L_book_1, r_L_book_2, r_L_book_3, r_L_book_4, r_L_book_5, r_L_book_8, r_L_book_9, r_L_book_10, r_L_book_15, r_L_book_16, r_L_book_19, r_L_book_20, r_L_book_23, r_L_book_24, r_L_book_25, r_L_book_26]
  · rw [if_neg (by omega), hk] at e
    refine ⟨N1, L, bc c, ?_, h1, h2, fun z => absurd z (by dsimp only; omega), Or.inr rfl, fun _ _ => rfl⟩
    simp (disch := omega) only [r_L_book_0, r_L_book_1, r_L_book_2, r_L_book_3, r_L_book_4, r_L_book_5, r_L_book_8, r_L_book_9, r_L_book_10, r_L_book_15, r_L_book_16, r_L_book_19, r_L_book_20, r_L_book_23, r_L_book_24, r_L_book_25, r_L_book_26, z0, up2_o, up2_e, iN_ap, iN_up, i_ix, i_inb, i_lt, i_lt0, i_0lt, i_eq, i_ne0, i_00, i_11, i_01, i_10, i_b, i_rem2, n_rem, i_add, i_mul, i_sub, i_div, i_max, i_min, rdk_0, rdk_3, kp_none, kp_int, kp_ref, kp_long, kp_double, aK_v, aK_0, aK_ite, if_true, if_false, and_self, and_true, true_and, or_false, false_or, not_true_eq_false, not_false_eq_true, ite_self, ↓reduceIte, e]
    rw [aK_x (k := 4) (t := 19) (by decide +kernel) rfl]
    simp only [r_L_book_0, r_L_book_1, r_L_book_2, r_L_book_3, r_L_book_4, r_L_book_5, r_L_book_8, r_L_book_9, r_L_book_10, r_L_book_15, r_L_book_16, r_L_book_19, r_L_book_20, r_L_book_23, r_L_book_24, r_L_book_25, r_L_book_26]
  · rw [if_neg (by omega), hk] at e
    refine ⟨N1, L, bc c, ?_, h1, h2, fun z => absurd z (by dsimp only; omega), Or.inr rfl, fun _ _ => rfl⟩
    simp (disch := omega) only [r_L_book_0, r_L_book_1, r_L_book_2, r_L_book_3, r_L_book_4, r_L_book_5, r_L_book_8, r_L_book_9, r_L_book_10, r_L_book_15, r_L_book_16, r_L_book_19, r_L_book_20, r_L_book_23, r_L_book_24, r_L_book_25, r_L_book_26, z0, up2_o, up2_e, iN_ap, iN_up, i_ix, i_inb, i_lt, i_lt0, i_0lt, i_eq, i_ne0, i_00, i_11, i_01, i_10, i_b, i_rem2, n_rem, i_add, i_mul, i_sub, i_div, i_max, i_min, rdk_0, rdk_3, kp_none, kp_int, kp_ref, kp_long, kp_double, aK_v, aK_0, aK_ite, if_true, if_false, and_self, and_true, true_and, or_false, false_or, not_true_eq_false, not_false_eq_true, ite_self, ↓reduceIte, e]
    rw [aK_x (k := 4) (t := 23) (by decide +kernel) rfl]
    simp only [r_L_book_0, r_L_book_1, r_L_book_2, r_L_book_3, r_L_book_4, r_L_book_5, r_L_book_8, r_L_book_9, r_L_book_10, r_L_book_15, r_L_book_16, r_L_book_19, r_L_book_20, r_L_book_23, r_L_book_24, r_L_book_25, r_L_book_26]
theorem w_unbook {kd : Nat → Nat} {o : Nat × Nat × aSt} {v1 : Int32} (z0 : Z.1 0 = 10) (z1 : Z.1 152 = 1) (z2 : Z.2.1 152 = 1) (h : CR Z L c N kd (ex 60 0 [some (.ref 0), some (.int v1)] [] (Z, iN N, L, c)) o) (hk : o.1 = 0 ∨ (o.1 = 1 ∧ kd 1 = 0) ∨ (o.1 = 2 ∧ kd 2 = 2)) :
    WR Z L c N (ex 191 0 [some (.ref 0), some (.int v1), some (.ref 152), none] [] (Z, iN N, L, c)) o := by
  obtain ⟨k, v, S'⟩ := o
  obtain ⟨N1, e, h1, h2⟩ := h
  dsimp only at e h1 hk
  rcases hk with rfl | ⟨rfl, hk⟩ | ⟨rfl, hk⟩
  · rw [if_pos rfl] at e
    refine ⟨N1, up2 L 152 0 (nI v).toInt64, c, ?_, h1, h2, fun _ => up2_e ⟨rfl, rfl⟩, Or.inl rfl, fun a ha => (by funext j; exact up2_o (by omega))⟩
    simp (disch := omega) only [r_L_unbook_0, r_L_unbook_1, r_L_unbook_2, r_L_unbook_3, r_L_unbook_4, r_L_unbook_7, r_L_unbook_8, r_L_unbook_9, r_L_unbook_13, r_L_unbook_14, r_L_unbook_16, r_L_unbook_17, r_L_unbook_18, r_L_unbook_19, z0, z1, z2, up2_o, up2_e, iN_ap, iN_up, i_ix, i_inb, i_lt, i_lt0, i_0lt, i_eq, i_ne0, i_00, i_11, i_01, i_10, i_b, i_rem2, n_rem, i_add, i_mul, i_sub, i_div, i_max, i_min, rdk_0, rdk_3, kp_none, kp_int, kp_ref, kp_long, kp_double, aK_v, aK_0, aK_ite, if_true, if_false, and_self, and_true, true_and, or_false, false_or, not_true_eq_false, not_false_eq_true, ite_self, ↓reduceIte, e]
  · rw [if_neg (by omega), hk] at e
    refine ⟨N1, L, bc c, ?_, h1, h2, fun z => absurd z (by dsimp only; omega), Or.inr rfl, fun _ _ => rfl⟩
    simp (disch := omega) only [r_L_unbook_0, r_L_unbook_1, r_L_unbook_2, r_L_unbook_3, r_L_unbook_4, r_L_unbook_7, r_L_unbook_8, r_L_unbook_9, r_L_unbook_13, r_L_unbook_14, r_L_unbook_16, r_L_unbook_17, r_L_unbook_18, r_L_unbook_19, z0, up2_o, up2_e, iN_ap, iN_up, i_ix, i_inb, i_lt, i_lt0, i_0lt, i_eq, i_ne0, i_00, i_11, i_01, i_10, i_b, i_rem2, n_rem, i_add, i_mul, i_sub, i_div, i_max, i_min, rdk_0, rdk_3, kp_none, kp_int, kp_ref, kp_long, kp_double, aK_v, aK_0, aK_ite, if_true, if_false, and_self, and_true, true_and, or_false, false_or, not_true_eq_false, not_false_eq_true, ite_self, ↓reduceIte, e]
    rw [aK_x (k := 3) (t := 13) (by decide +kernel) rfl]
    simp only [r_L_unbook_0, r_L_unbook_1, r_L_unbook_2, r_L_unbook_3, r_L_unbook_4, r_L_unbook_7, r_L_unbook_8, r_L_unbook_9, r_L_unbook_13, r_L_unbook_14, r_L_unbook_16, r_L_unbook_17, r_L_unbook_18, r_L_unbook_19]
  · rw [if_neg (by omega), hk] at e
    refine ⟨N1, L, bc c, ?_, h1, h2, fun z => absurd z (by dsimp only; omega), Or.inr rfl, fun _ _ => rfl⟩
    simp (disch := omega) only [r_L_unbook_0, r_L_unbook_1, r_L_unbook_2, r_L_unbook_3, r_L_unbook_4, r_L_unbook_7, r_L_unbook_8, r_L_unbook_9, r_L_unbook_13, r_L_unbook_14, r_L_unbook_16, r_L_unbook_17, r_L_unbook_18, r_L_unbook_19, z0, up2_o, up2_e, iN_ap, iN_up, i_ix, i_inb, i_lt, i_lt0, i_0lt, i_eq, i_ne0, i_00, i_11, i_01, i_10, i_b, i_rem2, n_rem, i_add, i_mul, i_sub, i_div, i_max, i_min, rdk_0, rdk_3, kp_none, kp_int, kp_ref, kp_long, kp_double, aK_v, aK_0, aK_ite, if_true, if_false, and_self, and_true, true_and, or_false, false_or, not_true_eq_false, not_false_eq_true, ite_self, ↓reduceIte, e]
    rw [aK_x (k := 3) (t := 16) (by decide +kernel) rfl]
    simp only [r_L_unbook_0, r_L_unbook_1, r_L_unbook_2, r_L_unbook_3, r_L_unbook_4, r_L_unbook_7, r_L_unbook_8, r_L_unbook_9, r_L_unbook_13, r_L_unbook_14, r_L_unbook_16, r_L_unbook_17, r_L_unbook_18, r_L_unbook_19]
theorem w_set {kd : Nat → Nat} {o : Nat × Nat × aSt} {v1 v2 : Int32} (z0 : Z.1 0 = 10) (z1 : Z.1 152 = 1) (z2 : Z.2.1 152 = 1) (h : CR Z L c N kd (ex 61 0 [some (.ref 0), some (.int v1), some (.int v2), none] [] (Z, iN N, L, c)) o) (hk : o.1 = 0 ∨ (o.1 = 1 ∧ kd 1 = 0) ∨ (o.1 = 2 ∧ kd 2 = 1)) :
    WR Z L c N (ex 192 0 [some (.ref 0), some (.int v1), some (.int v2), some (.ref 152), none] [] (Z, iN N, L, c)) o := by
  obtain ⟨k, v, S'⟩ := o
  obtain ⟨N1, e, h1, h2⟩ := h
  dsimp only at e h1 hk
  rcases hk with rfl | ⟨rfl, hk⟩ | ⟨rfl, hk⟩
  · rw [if_pos rfl] at e
    refine ⟨N1, up2 L 152 0 (nI v).toInt64, c, ?_, h1, h2, fun _ => up2_e ⟨rfl, rfl⟩, Or.inl rfl, fun a ha => (by funext j; exact up2_o (by omega))⟩
    simp (disch := omega) only [r_L_set_0, r_L_set_1, r_L_set_2, r_L_set_3, r_L_set_4, r_L_set_5, r_L_set_8, r_L_set_9, r_L_set_10, r_L_set_15, r_L_set_16, r_L_set_19, r_L_set_20, r_L_set_21, r_L_set_22, z0, z1, z2, up2_o, up2_e, iN_ap, iN_up, i_ix, i_inb, i_lt, i_lt0, i_0lt, i_eq, i_ne0, i_00, i_11, i_01, i_10, i_b, i_rem2, n_rem, i_add, i_mul, i_sub, i_div, i_max, i_min, rdk_0, rdk_3, kp_none, kp_int, kp_ref, kp_long, kp_double, aK_v, aK_0, aK_ite, if_true, if_false, and_self, and_true, true_and, or_false, false_or, not_true_eq_false, not_false_eq_true, ite_self, ↓reduceIte, e]
  · rw [if_neg (by omega), hk] at e
    refine ⟨N1, L, bc c, ?_, h1, h2, fun z => absurd z (by dsimp only; omega), Or.inr rfl, fun _ _ => rfl⟩
    simp (disch := omega) only [r_L_set_0, r_L_set_1, r_L_set_2, r_L_set_3, r_L_set_4, r_L_set_5, r_L_set_8, r_L_set_9, r_L_set_10, r_L_set_15, r_L_set_16, r_L_set_19, r_L_set_20, r_L_set_21, r_L_set_22, z0, up2_o, up2_e, iN_ap, iN_up, i_ix, i_inb, i_lt, i_lt0, i_0lt, i_eq, i_ne0, i_00, i_11, i_01, i_10, i_b, i_rem2, n_rem, i_add, i_mul, i_sub, i_div, i_max, i_min, rdk_0, rdk_3, kp_none, kp_int, kp_ref, kp_long, kp_double, aK_v, aK_0, aK_ite, if_true, if_false, and_self, and_true, true_and, or_false, false_or, not_true_eq_false, not_false_eq_true, ite_self, ↓reduceIte, e]
    rw [aK_x (k := 4) (t := 15) (by decide +kernel) rfl]
    simp only [r_L_set_0, r_L_set_1, r_L_set_2, r_L_set_3, r_L_set_4, r_L_set_5, r_L_set_8, r_L_set_9, r_L_set_10, r_L_set_15, r_L_set_16, r_L_set_19, r_L_set_20, r_L_set_21, r_L_set_22]
  · rw [if_neg (by omega), hk] at e
    refine ⟨N1, L, bc c, ?_, h1, h2, fun z => absurd z (by dsimp only; omega), Or.inr rfl, fun _ _ => rfl⟩
    simp (disch := omega) only [r_L_set_0, r_L_set_1, r_L_set_2, r_L_set_3, r_L_set_4, r_L_set_5, r_L_set_8, r_L_set_9, r_L_set_10, r_L_set_15, r_L_set_16, r_L_set_19, r_L_set_20, r_L_set_21, r_L_set_22, z0, up2_o, up2_e, iN_ap, iN_up, i_ix, i_inb, i_lt, i_lt0, i_0lt, i_eq, i_ne0, i_00, i_11, i_01, i_10, i_b, i_rem2, n_rem, i_add, i_mul, i_sub, i_div, i_max, i_min, rdk_0, rdk_3, kp_none, kp_int, kp_ref, kp_long, kp_double, aK_v, aK_0, aK_ite, if_true, if_false, and_self, and_true, true_and, or_false, false_or, not_true_eq_false, not_false_eq_true, ite_self, ↓reduceIte, e]
    rw [aK_x (k := 4) (t := 19) (by decide +kernel) rfl]
    simp only [r_L_set_0, r_L_set_1, r_L_set_2, r_L_set_3, r_L_set_4, r_L_set_5, r_L_set_8, r_L_set_9, r_L_set_10, r_L_set_15, r_L_set_16, r_L_set_19, r_L_set_20, r_L_set_21, r_L_set_22]
theorem w_pass {kd : Nat → Nat} {o : Nat × Nat × aSt} {v1 : Int32} (z0 : Z.1 0 = 10) (z1 : Z.1 152 = 1) (z2 : Z.2.1 152 = 1) (h : CR Z L c N kd (ex 62 0 [some (.ref 0), some (.int v1), none] [] (Z, iN N, L, c)) o) (hk : o.1 = 0 ∨ (o.1 = 1 ∧ kd 1 = 1) ∨ (o.1 = 2 ∧ kd 2 = 2)) :
    WR Z L c N (ex 193 0 [some (.ref 0), some (.int v1), some (.ref 152), none] [] (Z, iN N, L, c)) o := by
  obtain ⟨k, v, S'⟩ := o
  obtain ⟨N1, e, h1, h2⟩ := h
  dsimp only at e h1 hk
  rcases hk with rfl | ⟨rfl, hk⟩ | ⟨rfl, hk⟩
  · rw [if_pos rfl] at e
    refine ⟨N1, up2 L 152 0 (nI v).toInt64, c, ?_, h1, h2, fun _ => up2_e ⟨rfl, rfl⟩, Or.inl rfl, fun a ha => (by funext j; exact up2_o (by omega))⟩
    simp (disch := omega) only [r_L_pass_0, r_L_pass_1, r_L_pass_2, r_L_pass_3, r_L_pass_4, r_L_pass_7, r_L_pass_8, r_L_pass_9, r_L_pass_13, r_L_pass_14, r_L_pass_16, r_L_pass_17, r_L_pass_18, r_L_pass_19, z0, z1, z2, up2_o, up2_e, iN_ap, iN_up, i_ix, i_inb, i_lt, i_lt0, i_0lt, i_eq, i_ne0, i_00, i_11, i_01, i_10, i_b, i_rem2, n_rem, i_add, i_mul, i_sub, i_div, i_max, i_min, rdk_0, rdk_3, kp_none, kp_int, kp_ref, kp_long, kp_double, aK_v, aK_0, aK_ite, if_true, if_false, and_self, and_true, true_and, or_false, false_or, not_true_eq_false, not_false_eq_true, ite_self, ↓reduceIte, e]
  · rw [if_neg (by omega), hk] at e
    refine ⟨N1, L, bc c, ?_, h1, h2, fun z => absurd z (by dsimp only; omega), Or.inr rfl, fun _ _ => rfl⟩
    simp (disch := omega) only [r_L_pass_0, r_L_pass_1, r_L_pass_2, r_L_pass_3, r_L_pass_4, r_L_pass_7, r_L_pass_8, r_L_pass_9, r_L_pass_13, r_L_pass_14, r_L_pass_16, r_L_pass_17, r_L_pass_18, r_L_pass_19, z0, up2_o, up2_e, iN_ap, iN_up, i_ix, i_inb, i_lt, i_lt0, i_0lt, i_eq, i_ne0, i_00, i_11, i_01, i_10, i_b, i_rem2, n_rem, i_add, i_mul, i_sub, i_div, i_max, i_min, rdk_0, rdk_3, kp_none, kp_int, kp_ref, kp_long, kp_double, aK_v, aK_0, aK_ite, if_true, if_false, and_self, and_true, true_and, or_false, false_or, not_true_eq_false, not_false_eq_true, ite_self, ↓reduceIte, e]
    rw [aK_x (k := 3) (t := 13) (by decide +kernel) rfl]
    simp only [r_L_pass_0, r_L_pass_1, r_L_pass_2, r_L_pass_3, r_L_pass_4, r_L_pass_7, r_L_pass_8, r_L_pass_9, r_L_pass_13, r_L_pass_14, r_L_pass_16, r_L_pass_17, r_L_pass_18, r_L_pass_19]
  · rw [if_neg (by omega), hk] at e
    refine ⟨N1, L, bc c, ?_, h1, h2, fun z => absurd z (by dsimp only; omega), Or.inr rfl, fun _ _ => rfl⟩
    simp (disch := omega) only [r_L_pass_0, r_L_pass_1, r_L_pass_2, r_L_pass_3, r_L_pass_4, r_L_pass_7, r_L_pass_8, r_L_pass_9, r_L_pass_13, r_L_pass_14, r_L_pass_16, r_L_pass_17, r_L_pass_18, r_L_pass_19, z0, up2_o, up2_e, iN_ap, iN_up, i_ix, i_inb, i_lt, i_lt0, i_0lt, i_eq, i_ne0, i_00, i_11, i_01, i_10, i_b, i_rem2, n_rem, i_add, i_mul, i_sub, i_div, i_max, i_min, rdk_0, rdk_3, kp_none, kp_int, kp_ref, kp_long, kp_double, aK_v, aK_0, aK_ite, if_true, if_false, and_self, and_true, true_and, or_false, false_or, not_true_eq_false, not_false_eq_true, ite_self, ↓reduceIte, e]
    rw [aK_x (k := 3) (t := 16) (by decide +kernel) rfl]
    simp only [r_L_pass_0, r_L_pass_1, r_L_pass_2, r_L_pass_3, r_L_pass_4, r_L_pass_7, r_L_pass_8, r_L_pass_9, r_L_pass_13, r_L_pass_14, r_L_pass_16, r_L_pass_17, r_L_pass_18, r_L_pass_19]
theorem w_inspect {kd : Nat → Nat} {o : Nat × Nat × aSt} {v1 v2 v3 v4 : Int32} (z0 : Z.1 0 = 10) (z1 : Z.1 152 = 1) (z2 : Z.2.1 152 = 1) (h : CR Z L c N kd (ex 63 0 [some (.ref 0), some (.int v1), some (.int v2), some (.int v3), some (.int v4), none] [] (Z, iN N, L, c)) o) (hk : o.1 = 0 ∨ (o.1 = 1 ∧ kd 1 = 0) ∨ (o.1 = 2 ∧ kd 2 = 1) ∨ (o.1 = 3 ∧ kd 3 = 2)) :
    WR Z L c N (ex 194 0 [some (.ref 0), some (.int v1), some (.int v2), some (.int v3), some (.int v4), some (.ref 152), none] [] (Z, iN N, L, c)) o := by
  obtain ⟨k, v, S'⟩ := o
  obtain ⟨N1, e, h1, h2⟩ := h
  dsimp only at e h1 hk
  rcases hk with rfl | ⟨rfl, hk⟩ | ⟨rfl, hk⟩ | ⟨rfl, hk⟩
  · rw [if_pos rfl] at e
    refine ⟨N1, up2 L 152 0 (nI v).toInt64, c, ?_, h1, h2, fun _ => up2_e ⟨rfl, rfl⟩, Or.inl rfl, fun a ha => (by funext j; exact up2_o (by omega))⟩
    simp (disch := omega) only [r_L_inspect_0, r_L_inspect_2, r_L_inspect_3, r_L_inspect_4, r_L_inspect_5, r_L_inspect_6, r_L_inspect_7, r_L_inspect_9, r_L_inspect_12, r_L_inspect_13, r_L_inspect_14, r_L_inspect_19, r_L_inspect_20, r_L_inspect_23, r_L_inspect_24, r_L_inspect_27, r_L_inspect_28, r_L_inspect_29, r_L_inspect_30, z0, z1, z2, up2_o, up2_e, iN_ap, iN_up, i_ix, i_inb, i_lt, i_lt0, i_0lt, i_eq, i_ne0, i_00, i_11, i_01, i_10, i_b, i_rem2, n_rem, i_add, i_mul, i_sub, i_div, i_max, i_min, rdk_0, rdk_3, kp_none, kp_int, kp_ref, kp_long, kp_double, aK_v, aK_0, aK_ite, if_true, if_false, and_self, and_true, true_and, or_false, false_or, not_true_eq_false, not_false_eq_true, ite_self, ↓reduceIte, e]
  · rw [if_neg (by omega), hk] at e
    refine ⟨N1, L, bc c, ?_, h1, h2, fun z => absurd z (by dsimp only; omega), Or.inr rfl, fun _ _ => rfl⟩
    simp (disch := omega) only [r_L_inspect_0, r_L_inspect_2, r_L_inspect_3, r_L_inspect_4, r_L_inspect_5, r_L_inspect_6, r_L_inspect_7, r_L_inspect_9, r_L_inspect_12, r_L_inspect_13, r_L_inspect_14, r_L_inspect_19, r_L_inspect_20, r_L_inspect_23, r_L_inspect_24, r_L_inspect_27, r_L_inspect_28, r_L_inspect_29, r_L_inspect_30, z0, up2_o, up2_e, iN_ap, iN_up, i_ix, i_inb, i_lt, i_lt0, i_0lt, i_eq, i_ne0, i_00, i_11, i_01, i_10, i_b, i_rem2, n_rem, i_add, i_mul, i_sub, i_div, i_max, i_min, rdk_0, rdk_3, kp_none, kp_int, kp_ref, kp_long, kp_double, aK_v, aK_0, aK_ite, if_true, if_false, and_self, and_true, true_and, or_false, false_or, not_true_eq_false, not_false_eq_true, ite_self, ↓reduceIte, e]
    rw [aK_x (k := 6) (t := 19) (by decide +kernel) rfl]
    simp only [r_L_inspect_0, r_L_inspect_2, r_L_inspect_3, r_L_inspect_4, r_L_inspect_5, r_L_inspect_6, r_L_inspect_7, r_L_inspect_9, r_L_inspect_12, r_L_inspect_13, r_L_inspect_14, r_L_inspect_19, r_L_inspect_20, r_L_inspect_23, r_L_inspect_24, r_L_inspect_27, r_L_inspect_28, r_L_inspect_29, r_L_inspect_30]
  · rw [if_neg (by omega), hk] at e
    refine ⟨N1, L, bc c, ?_, h1, h2, fun z => absurd z (by dsimp only; omega), Or.inr rfl, fun _ _ => rfl⟩
    simp (disch := omega) only [r_L_inspect_0, r_L_inspect_2, r_L_inspect_3, r_L_inspect_4, r_L_inspect_5, r_L_inspect_6, r_L_inspect_7, r_L_inspect_9, r_L_inspect_12, r_L_inspect_13, r_L_inspect_14, r_L_inspect_19, r_L_inspect_20, r_L_inspect_23, r_L_inspect_24, r_L_inspect_27, r_L_inspect_28, r_L_inspect_29, r_L_inspect_30, z0, up2_o, up2_e, iN_ap, iN_up, i_ix, i_inb, i_lt, i_lt0, i_0lt, i_eq, i_ne0, i_00, i_11, i_01, i_10, i_b, i_rem2, n_rem, i_add, i_mul, i_sub, i_div, i_max, i_min, rdk_0, rdk_3, kp_none, kp_int, kp_ref, kp_long, kp_double, aK_v, aK_0, aK_ite, if_true, if_false, and_self, and_true, true_and, or_false, false_or, not_true_eq_false, not_false_eq_true, ite_self, ↓reduceIte, e]
    rw [aK_x (k := 6) (t := 23) (by decide +kernel) rfl]
    simp only [r_L_inspect_0, r_L_inspect_2, r_L_inspect_3, r_L_inspect_4, r_L_inspect_5, r_L_inspect_6, r_L_inspect_7, r_L_inspect_9, r_L_inspect_12, r_L_inspect_13, r_L_inspect_14, r_L_inspect_19, r_L_inspect_20, r_L_inspect_23, r_L_inspect_24, r_L_inspect_27, r_L_inspect_28, r_L_inspect_29, r_L_inspect_30]
  · rw [if_neg (by omega), hk] at e
    refine ⟨N1, L, bc c, ?_, h1, h2, fun z => absurd z (by dsimp only; omega), Or.inr rfl, fun _ _ => rfl⟩
    simp (disch := omega) only [r_L_inspect_0, r_L_inspect_2, r_L_inspect_3, r_L_inspect_4, r_L_inspect_5, r_L_inspect_6, r_L_inspect_7, r_L_inspect_9, r_L_inspect_12, r_L_inspect_13, r_L_inspect_14, r_L_inspect_19, r_L_inspect_20, r_L_inspect_23, r_L_inspect_24, r_L_inspect_27, r_L_inspect_28, r_L_inspect_29, r_L_inspect_30, z0, up2_o, up2_e, iN_ap, iN_up, i_ix, i_inb, i_lt, i_lt0, i_0lt, i_eq, i_ne0, i_00, i_11, i_01, i_10, i_b, i_rem2, n_rem, i_add, i_mul, i_sub, i_div, i_max, i_min, rdk_0, rdk_3, kp_none, kp_int, kp_ref, kp_long, kp_double, aK_v, aK_0, aK_ite, if_true, if_false, and_self, and_true, true_and, or_false, false_or, not_true_eq_false, not_false_eq_true, ite_self, ↓reduceIte, e]
    rw [aK_x (k := 6) (t := 27) (by decide +kernel) rfl]
    simp only [r_L_inspect_0, r_L_inspect_2, r_L_inspect_3, r_L_inspect_4, r_L_inspect_5, r_L_inspect_6, r_L_inspect_7, r_L_inspect_9, r_L_inspect_12, r_L_inspect_13, r_L_inspect_14, r_L_inspect_19, r_L_inspect_20, r_L_inspect_23, r_L_inspect_24, r_L_inspect_27, r_L_inspect_28, r_L_inspect_29, r_L_inspect_30]
theorem w_fix {kd : Nat → Nat} {o : Nat × Nat × aSt} {v1 v2 v3 v4 : Int32} (z0 : Z.1 0 = 10) (z1 : Z.1 152 = 1) (z2 : Z.2.1 152 = 1) (h : CR Z L c N kd (ex 64 0 [some (.ref 0), some (.int v1), some (.int v2), some (.int v3), some (.int v4), none, none, none] [] (Z, iN N, L, c)) o) (hk : o.1 = 0 ∨ (o.1 = 1 ∧ kd 1 = 0) ∨ (o.1 = 2 ∧ kd 2 = 2)) :
    WR Z L c N (ex 195 0 [some (.ref 0), some (.int v1), some (.int v2), some (.int v3), some (.int v4), some (.ref 152), none] [] (Z, iN N, L, c)) o := by
  obtain ⟨k, v, S'⟩ := o
  obtain ⟨N1, e, h1, h2⟩ := h
  dsimp only at e h1 hk
  rcases hk with rfl | ⟨rfl, hk⟩ | ⟨rfl, hk⟩
  · rw [if_pos rfl] at e
    refine ⟨N1, up2 L 152 0 (nI v).toInt64, c, ?_, h1, h2, fun _ => up2_e ⟨rfl, rfl⟩, Or.inl rfl, fun a ha => (by funext j; exact up2_o (by omega))⟩
    simp (disch := omega) only [r_L_fix_0, r_L_fix_2, r_L_fix_3, r_L_fix_4, r_L_fix_5, r_L_fix_6, r_L_fix_7, r_L_fix_9, r_L_fix_12, r_L_fix_13, r_L_fix_14, r_L_fix_19, r_L_fix_20, r_L_fix_23, r_L_fix_24, r_L_fix_25, r_L_fix_26, z0, z1, z2, up2_o, up2_e, iN_ap, iN_up, i_ix, i_inb, i_lt, i_lt0, i_0lt, i_eq, i_ne0, i_00, i_11, i_01, i_10, i_b, i_rem2, n_rem, i_add, i_mul, i_sub, i_div, i_max, i_min, rdk_0, rdk_3, kp_none, kp_int, kp_ref, kp_long, kp_double, aK_v, aK_0, aK_ite, if_true, if_false, and_self, and_true, true_and, or_false, false_or, not_true_eq_false, not_false_eq_true, ite_self, ↓reduceIte, e]
  · rw [if_neg (by omega), hk] at e
    refine ⟨N1, L, bc c, ?_, h1, h2, fun z => absurd z (by dsimp only; omega), Or.inr rfl, fun _ _ => rfl⟩
    simp (disch := omega) only [r_L_fix_0, r_L_fix_2, r_L_fix_3, r_L_fix_4, r_L_fix_5, r_L_fix_6, r_L_fix_7, r_L_fix_9, r_L_fix_12, r_L_fix_13, r_L_fix_14, r_L_fix_19, r_L_fix_20, r_L_fix_23, r_L_fix_24, r_L_fix_25, r_L_fix_26, z0, up2_o, up2_e, iN_ap, iN_up, i_ix, i_inb, i_lt, i_lt0, i_0lt, i_eq, i_ne0, i_00, i_11, i_01, i_10, i_b, i_rem2, n_rem, i_add, i_mul, i_sub, i_div, i_max, i_min, rdk_0, rdk_3, kp_none, kp_int, kp_ref, kp_long, kp_double, aK_v, aK_0, aK_ite, if_true, if_false, and_self, and_true, true_and, or_false, false_or, not_true_eq_false, not_false_eq_true, ite_self, ↓reduceIte, e]
    rw [aK_x (k := 6) (t := 19) (by decide +kernel) rfl]
    simp only [r_L_fix_0, r_L_fix_2, r_L_fix_3, r_L_fix_4, r_L_fix_5, r_L_fix_6, r_L_fix_7, r_L_fix_9, r_L_fix_12, r_L_fix_13, r_L_fix_14, r_L_fix_19, r_L_fix_20, r_L_fix_23, r_L_fix_24, r_L_fix_25, r_L_fix_26]
  · rw [if_neg (by omega), hk] at e
    refine ⟨N1, L, bc c, ?_, h1, h2, fun z => absurd z (by dsimp only; omega), Or.inr rfl, fun _ _ => rfl⟩
    simp (disch := omega) only [r_L_fix_0, r_L_fix_2, r_L_fix_3, r_L_fix_4, r_L_fix_5, r_L_fix_6, r_L_fix_7, r_L_fix_9, r_L_fix_12, r_L_fix_13, r_L_fix_14, r_L_fix_19, r_L_fix_20, r_L_fix_23, r_L_fix_24, r_L_fix_25, r_L_fix_26, z0, up2_o, up2_e, iN_ap, iN_up, i_ix, i_inb, i_lt, i_lt0, i_0lt, i_eq, i_ne0, i_00, i_11, i_01, i_10, i_b, i_rem2, n_rem, i_add, i_mul, i_sub, i_div, i_max, i_min, rdk_0, rdk_3, kp_none, kp_int, kp_ref, kp_long, kp_double, aK_v, aK_0, aK_ite, if_true, if_false, and_self, and_true, true_and, or_false, false_or, not_true_eq_false, not_false_eq_true, ite_self, ↓reduceIte, e]
    rw [aK_x (k := 6) (t := 23) (by decide +kernel) rfl]
    simp only [r_L_fix_0, r_L_fix_2, r_L_fix_3, r_L_fix_4, r_L_fix_5, r_L_fix_6, r_L_fix_7, r_L_fix_9, r_L_fix_12, r_L_fix_13, r_L_fix_14, r_L_fix_19, r_L_fix_20, r_L_fix_23, r_L_fix_24, r_L_fix_25, r_L_fix_26]
theorem w_claim {kd : Nat → Nat} {o : Nat × Nat × aSt} {v1 v2 v3 v4 v5 : Int32} (z0 : Z.1 0 = 10) (z1 : Z.1 152 = 1) (z2 : Z.2.1 152 = 1) (h : CR Z L c N kd (ex 65 0 [some (.ref 0), some (.int v1), some (.int v2), some (.int v3), some (.int v4), some (.int v5), none, none] [] (Z, iN N, L, c)) o) (hk : o.1 = 0 ∨ (o.1 = 1 ∧ kd 1 = 0) ∨ (o.1 = 2 ∧ kd 2 = 1) ∨ (o.1 = 3 ∧ kd 3 = 2)) :
    WR Z L c N (ex 196 0 [some (.ref 0), some (.int v1), some (.int v2), some (.int v3), some (.int v4), some (.int v5), some (.ref 152), none] [] (Z, iN N, L, c)) o := by
  obtain ⟨k, v, S'⟩ := o
  obtain ⟨N1, e, h1, h2⟩ := h
  dsimp only at e h1 hk
  rcases hk with rfl | ⟨rfl, hk⟩ | ⟨rfl, hk⟩ | ⟨rfl, hk⟩
  · rw [if_pos rfl] at e
    refine ⟨N1, up2 L 152 0 (nI v).toInt64, c, ?_, h1, h2, fun _ => up2_e ⟨rfl, rfl⟩, Or.inl rfl, fun a ha => (by funext j; exact up2_o (by omega))⟩
    simp (disch := omega) only [r_L_claim_0, r_L_claim_2, r_L_claim_3, r_L_claim_4, r_L_claim_5, r_L_claim_6, r_L_claim_7, r_L_claim_9, r_L_claim_11, r_L_claim_14, r_L_claim_15, r_L_claim_16, r_L_claim_21, r_L_claim_22, r_L_claim_25, r_L_claim_26, r_L_claim_29, r_L_claim_30, r_L_claim_31, r_L_claim_32, z0, z1, z2, up2_o, up2_e, iN_ap, iN_up, i_ix, i_inb, i_lt, i_lt0, i_0lt, i_eq, i_ne0, i_00, i_11, i_01, i_10, i_b, i_rem2, n_rem, i_add, i_mul, i_sub, i_div, i_max, i_min, rdk_0, rdk_3, kp_none, kp_int, kp_ref, kp_long, kp_double, aK_v, aK_0, aK_ite, if_true, if_false, and_self, and_true, true_and, or_false, false_or, not_true_eq_false, not_false_eq_true, ite_self, ↓reduceIte, e]
  · rw [if_neg (by omega), hk] at e
    refine ⟨N1, L, bc c, ?_, h1, h2, fun z => absurd z (by dsimp only; omega), Or.inr rfl, fun _ _ => rfl⟩
    simp (disch := omega) only [r_L_claim_0, r_L_claim_2, r_L_claim_3, r_L_claim_4, r_L_claim_5, r_L_claim_6, r_L_claim_7, r_L_claim_9, r_L_claim_11, r_L_claim_14, r_L_claim_15, r_L_claim_16, r_L_claim_21, r_L_claim_22, r_L_claim_25, r_L_claim_26, r_L_claim_29, r_L_claim_30, r_L_claim_31, r_L_claim_32, z0, up2_o, up2_e, iN_ap, iN_up, i_ix, i_inb, i_lt, i_lt0, i_0lt, i_eq, i_ne0, i_00, i_11, i_01, i_10, i_b, i_rem2, n_rem, i_add, i_mul, i_sub, i_div, i_max, i_min, rdk_0, rdk_3, kp_none, kp_int, kp_ref, kp_long, kp_double, aK_v, aK_0, aK_ite, if_true, if_false, and_self, and_true, true_and, or_false, false_or, not_true_eq_false, not_false_eq_true, ite_self, ↓reduceIte, e]
    rw [aK_x (k := 7) (t := 21) (by decide +kernel) rfl]
    simp only [r_L_claim_0, r_L_claim_2, r_L_claim_3, r_L_claim_4, r_L_claim_5, r_L_claim_6, r_L_claim_7, r_L_claim_9, r_L_claim_11, r_L_claim_14, r_L_claim_15, r_L_claim_16, r_L_claim_21, r_L_claim_22, r_L_claim_25, r_L_claim_26, r_L_claim_29, r_L_claim_30, r_L_claim_31, r_L_claim_32]
  · rw [if_neg (by omega), hk] at e
    refine ⟨N1, L, bc c, ?_, h1, h2, fun z => absurd z (by dsimp only; omega), Or.inr rfl, fun _ _ => rfl⟩
    simp (disch := omega) only [r_L_claim_0, r_L_claim_2, r_L_claim_3, r_L_claim_4, r_L_claim_5, r_L_claim_6, r_L_claim_7, r_L_claim_9, r_L_claim_11, r_L_claim_14, r_L_claim_15, r_L_claim_16, r_L_claim_21, r_L_claim_22, r_L_claim_25, r_L_claim_26, r_L_claim_29, r_L_claim_30, r_L_claim_31, r_L_claim_32, z0, up2_o, up2_e, iN_ap, iN_up, i_ix, i_inb, i_lt, i_lt0, i_0lt, i_eq, i_ne0, i_00, i_11, i_01, i_10, i_b, i_rem2, n_rem, i_add, i_mul, i_sub, i_div, i_max, i_min, rdk_0, rdk_3, kp_none, kp_int, kp_ref, kp_long, kp_double, aK_v, aK_0, aK_ite, if_true, if_false, and_self, and_true, true_and, or_false, false_or, not_true_eq_false, not_false_eq_true, ite_self, ↓reduceIte, e]
    rw [aK_x (k := 7) (t := 25) (by decide +kernel) rfl]
    simp only [r_L_claim_0, r_L_claim_2, r_L_claim_3, r_L_claim_4, r_L_claim_5, r_L_claim_6, r_L_claim_7, r_L_claim_9, r_L_claim_11, r_L_claim_14, r_L_claim_15, r_L_claim_16, r_L_claim_21, r_L_claim_22, r_L_claim_25, r_L_claim_26, r_L_claim_29, r_L_claim_30, r_L_claim_31, r_L_claim_32]
  · rw [if_neg (by omega), hk] at e
    refine ⟨N1, L, bc c, ?_, h1, h2, fun z => absurd z (by dsimp only; omega), Or.inr rfl, fun _ _ => rfl⟩
    simp (disch := omega) only [r_L_claim_0, r_L_claim_2, r_L_claim_3, r_L_claim_4, r_L_claim_5, r_L_claim_6, r_L_claim_7, r_L_claim_9, r_L_claim_11, r_L_claim_14, r_L_claim_15, r_L_claim_16, r_L_claim_21, r_L_claim_22, r_L_claim_25, r_L_claim_26, r_L_claim_29, r_L_claim_30, r_L_claim_31, r_L_claim_32, z0, up2_o, up2_e, iN_ap, iN_up, i_ix, i_inb, i_lt, i_lt0, i_0lt, i_eq, i_ne0, i_00, i_11, i_01, i_10, i_b, i_rem2, n_rem, i_add, i_mul, i_sub, i_div, i_max, i_min, rdk_0, rdk_3, kp_none, kp_int, kp_ref, kp_long, kp_double, aK_v, aK_0, aK_ite, if_true, if_false, and_self, and_true, true_and, or_false, false_or, not_true_eq_false, not_false_eq_true, ite_self, ↓reduceIte, e]
    rw [aK_x (k := 7) (t := 29) (by decide +kernel) rfl]
    simp only [r_L_claim_0, r_L_claim_2, r_L_claim_3, r_L_claim_4, r_L_claim_5, r_L_claim_6, r_L_claim_7, r_L_claim_9, r_L_claim_11, r_L_claim_14, r_L_claim_15, r_L_claim_16, r_L_claim_21, r_L_claim_22, r_L_claim_25, r_L_claim_26, r_L_claim_29, r_L_claim_30, r_L_claim_31, r_L_claim_32]
theorem w_release {kd : Nat → Nat} {o : Nat × Nat × aSt} {v1 v2 : Int32} (z0 : Z.1 0 = 10) (z1 : Z.1 152 = 1) (z2 : Z.2.1 152 = 1) (h : CR Z L c N kd (ex 66 0 [some (.ref 0), some (.int v1), some (.int v2), none] [] (Z, iN N, L, c)) o) (hk : o.1 = 0 ∨ (o.1 = 1 ∧ kd 1 = 0) ∨ (o.1 = 2 ∧ kd 2 = 2)) :
    WR Z L c N (ex 197 0 [some (.ref 0), some (.int v1), some (.int v2), some (.ref 152), none] [] (Z, iN N, L, c)) o := by
  obtain ⟨k, v, S'⟩ := o
  obtain ⟨N1, e, h1, h2⟩ := h
  dsimp only at e h1 hk
  rcases hk with rfl | ⟨rfl, hk⟩ | ⟨rfl, hk⟩
  · rw [if_pos rfl] at e
    refine ⟨N1, up2 L 152 0 (nI v).toInt64, c, ?_, h1, h2, fun _ => up2_e ⟨rfl, rfl⟩, Or.inl rfl, fun a ha => (by funext j; exact up2_o (by omega))⟩
    simp (disch := omega) only [r_L_release_0, r_L_release_1, r_L_release_2, r_L_release_3, r_L_release_4, r_L_release_5, r_L_release_8, r_L_release_9, r_L_release_10, r_L_release_15, r_L_release_16, r_L_release_19, r_L_release_20, r_L_release_21, r_L_release_22, z0, z1, z2, up2_o, up2_e, iN_ap, iN_up, i_ix, i_inb, i_lt, i_lt0, i_0lt, i_eq, i_ne0, i_00, i_11, i_01, i_10, i_b, i_rem2, n_rem, i_add, i_mul, i_sub, i_div, i_max, i_min, rdk_0, rdk_3, kp_none, kp_int, kp_ref, kp_long, kp_double, aK_v, aK_0, aK_ite, if_true, if_false, and_self, and_true, true_and, or_false, false_or, not_true_eq_false, not_false_eq_true, ite_self, ↓reduceIte, e]
  · rw [if_neg (by omega), hk] at e
    refine ⟨N1, L, bc c, ?_, h1, h2, fun z => absurd z (by dsimp only; omega), Or.inr rfl, fun _ _ => rfl⟩
    simp (disch := omega) only [r_L_release_0, r_L_release_1, r_L_release_2, r_L_release_3, r_L_release_4, r_L_release_5, r_L_release_8, r_L_release_9, r_L_release_10, r_L_release_15, r_L_release_16, r_L_release_19, r_L_release_20, r_L_release_21, r_L_release_22, z0, up2_o, up2_e, iN_ap, iN_up, i_ix, i_inb, i_lt, i_lt0, i_0lt, i_eq, i_ne0, i_00, i_11, i_01, i_10, i_b, i_rem2, n_rem, i_add, i_mul, i_sub, i_div, i_max, i_min, rdk_0, rdk_3, kp_none, kp_int, kp_ref, kp_long, kp_double, aK_v, aK_0, aK_ite, if_true, if_false, and_self, and_true, true_and, or_false, false_or, not_true_eq_false, not_false_eq_true, ite_self, ↓reduceIte, e]
    rw [aK_x (k := 4) (t := 15) (by decide +kernel) rfl]
    simp only [r_L_release_0, r_L_release_1, r_L_release_2, r_L_release_3, r_L_release_4, r_L_release_5, r_L_release_8, r_L_release_9, r_L_release_10, r_L_release_15, r_L_release_16, r_L_release_19, r_L_release_20, r_L_release_21, r_L_release_22]
  · rw [if_neg (by omega), hk] at e
    refine ⟨N1, L, bc c, ?_, h1, h2, fun z => absurd z (by dsimp only; omega), Or.inr rfl, fun _ _ => rfl⟩
    simp (disch := omega) only [r_L_release_0, r_L_release_1, r_L_release_2, r_L_release_3, r_L_release_4, r_L_release_5, r_L_release_8, r_L_release_9, r_L_release_10, r_L_release_15, r_L_release_16, r_L_release_19, r_L_release_20, r_L_release_21, r_L_release_22, z0, up2_o, up2_e, iN_ap, iN_up, i_ix, i_inb, i_lt, i_lt0, i_0lt, i_eq, i_ne0, i_00, i_11, i_01, i_10, i_b, i_rem2, n_rem, i_add, i_mul, i_sub, i_div, i_max, i_min, rdk_0, rdk_3, kp_none, kp_int, kp_ref, kp_long, kp_double, aK_v, aK_0, aK_ite, if_true, if_false, and_self, and_true, true_and, or_false, false_or, not_true_eq_false, not_false_eq_true, ite_self, ↓reduceIte, e]
    rw [aK_x (k := 4) (t := 19) (by decide +kernel) rfl]
    simp only [r_L_release_0, r_L_release_1, r_L_release_2, r_L_release_3, r_L_release_4, r_L_release_5, r_L_release_8, r_L_release_9, r_L_release_10, r_L_release_15, r_L_release_16, r_L_release_19, r_L_release_20, r_L_release_21, r_L_release_22]
theorem w_append {kd : Nat → Nat} {o : Nat × Nat × aSt} {v1 : Int32} (z0 : Z.1 0 = 10) (z1 : Z.1 152 = 1) (z2 : Z.2.1 152 = 1) (h : CR Z L c N kd (ex 67 0 [some (.ref 0), some (.int v1)] [] (Z, iN N, L, c)) o) (hk : o.1 = 0 ∨ (o.1 = 1 ∧ kd 1 = 1) ∨ (o.1 = 2 ∧ kd 2 = 2)) :
    WR Z L c N (ex 198 0 [some (.ref 0), some (.int v1), some (.ref 152), none] [] (Z, iN N, L, c)) o := by
  obtain ⟨k, v, S'⟩ := o
  obtain ⟨N1, e, h1, h2⟩ := h
  dsimp only at e h1 hk
  rcases hk with rfl | ⟨rfl, hk⟩ | ⟨rfl, hk⟩
  · rw [if_pos rfl] at e
    refine ⟨N1, up2 L 152 0 (nI v).toInt64, c, ?_, h1, h2, fun _ => up2_e ⟨rfl, rfl⟩, Or.inl rfl, fun a ha => (by funext j; exact up2_o (by omega))⟩
    simp (disch := omega) only [r_L_append_0, r_L_append_1, r_L_append_2, r_L_append_3, r_L_append_4, r_L_append_7, r_L_append_8, r_L_append_9, r_L_append_13, r_L_append_14, r_L_append_16, r_L_append_17, r_L_append_18, r_L_append_19, z0, z1, z2, up2_o, up2_e, iN_ap, iN_up, i_ix, i_inb, i_lt, i_lt0, i_0lt, i_eq, i_ne0, i_00, i_11, i_01, i_10, i_b, i_rem2, n_rem, i_add, i_mul, i_sub, i_div, i_max, i_min, rdk_0, rdk_3, kp_none, kp_int, kp_ref, kp_long, kp_double, aK_v, aK_0, aK_ite, if_true, if_false, and_self, and_true, true_and, or_false, false_or, not_true_eq_false, not_false_eq_true, ite_self, ↓reduceIte, e]
  · rw [if_neg (by omega), hk] at e
    refine ⟨N1, L, bc c, ?_, h1, h2, fun z => absurd z (by dsimp only; omega), Or.inr rfl, fun _ _ => rfl⟩
    simp (disch := omega) only [r_L_append_0, r_L_append_1, r_L_append_2, r_L_append_3, r_L_append_4, r_L_append_7, r_L_append_8, r_L_append_9, r_L_append_13, r_L_append_14, r_L_append_16, r_L_append_17, r_L_append_18, r_L_append_19, z0, up2_o, up2_e, iN_ap, iN_up, i_ix, i_inb, i_lt, i_lt0, i_0lt, i_eq, i_ne0, i_00, i_11, i_01, i_10, i_b, i_rem2, n_rem, i_add, i_mul, i_sub, i_div, i_max, i_min, rdk_0, rdk_3, kp_none, kp_int, kp_ref, kp_long, kp_double, aK_v, aK_0, aK_ite, if_true, if_false, and_self, and_true, true_and, or_false, false_or, not_true_eq_false, not_false_eq_true, ite_self, ↓reduceIte, e]
    rw [aK_x (k := 3) (t := 13) (by decide +kernel) rfl]
    simp only [r_L_append_0, r_L_append_1, r_L_append_2, r_L_append_3, r_L_append_4, r_L_append_7, r_L_append_8, r_L_append_9, r_L_append_13, r_L_append_14, r_L_append_16, r_L_append_17, r_L_append_18, r_L_append_19]
  · rw [if_neg (by omega), hk] at e
    refine ⟨N1, L, bc c, ?_, h1, h2, fun z => absurd z (by dsimp only; omega), Or.inr rfl, fun _ _ => rfl⟩
    simp (disch := omega) only [r_L_append_0, r_L_append_1, r_L_append_2, r_L_append_3, r_L_append_4, r_L_append_7, r_L_append_8, r_L_append_9, r_L_append_13, r_L_append_14, r_L_append_16, r_L_append_17, r_L_append_18, r_L_append_19, z0, up2_o, up2_e, iN_ap, iN_up, i_ix, i_inb, i_lt, i_lt0, i_0lt, i_eq, i_ne0, i_00, i_11, i_01, i_10, i_b, i_rem2, n_rem, i_add, i_mul, i_sub, i_div, i_max, i_min, rdk_0, rdk_3, kp_none, kp_int, kp_ref, kp_long, kp_double, aK_v, aK_0, aK_ite, if_true, if_false, and_self, and_true, true_and, or_false, false_or, not_true_eq_false, not_false_eq_true, ite_self, ↓reduceIte, e]
    rw [aK_x (k := 3) (t := 16) (by decide +kernel) rfl]
    simp only [r_L_append_0, r_L_append_1, r_L_append_2, r_L_append_3, r_L_append_4, r_L_append_7, r_L_append_8, r_L_append_9, r_L_append_13, r_L_append_14, r_L_append_16, r_L_append_17, r_L_append_18, r_L_append_19]
theorem w_addHouse {kd : Nat → Nat} {o : Nat × Nat × aSt} (z0 : Z.1 0 = 10) (z1 : Z.1 152 = 1) (z2 : Z.2.1 152 = 1) (h : CR Z L c N kd (ex 70 0 [some (.ref 0)] [] (Z, iN N, L, c)) o) (hk : o.1 = 0 ∨ (o.1 = 1 ∧ kd 1 = 1) ∨ (o.1 = 2 ∧ kd 2 = 2)) :
    WR Z L c N (ex 199 0 [some (.ref 0), some (.ref 152), none] [] (Z, iN N, L, c)) o := by
  obtain ⟨k, v, S'⟩ := o
  obtain ⟨N1, e, h1, h2⟩ := h
  dsimp only at e h1 hk
  rcases hk with rfl | ⟨rfl, hk⟩ | ⟨rfl, hk⟩
  · rw [if_pos rfl] at e
    refine ⟨N1, up2 L 152 0 (nI v).toInt64, c, ?_, h1, h2, fun _ => up2_e ⟨rfl, rfl⟩, Or.inl rfl, fun a ha => (by funext j; exact up2_o (by omega))⟩
    simp (disch := omega) only [r_L_addHouse_0, r_L_addHouse_1, r_L_addHouse_2, r_L_addHouse_3, r_L_addHouse_6, r_L_addHouse_7, r_L_addHouse_8, r_L_addHouse_12, r_L_addHouse_13, r_L_addHouse_15, r_L_addHouse_16, r_L_addHouse_17, r_L_addHouse_18, z0, z1, z2, up2_o, up2_e, iN_ap, iN_up, i_ix, i_inb, i_lt, i_lt0, i_0lt, i_eq, i_ne0, i_00, i_11, i_01, i_10, i_b, i_rem2, n_rem, i_add, i_mul, i_sub, i_div, i_max, i_min, rdk_0, rdk_3, kp_none, kp_int, kp_ref, kp_long, kp_double, aK_v, aK_0, aK_ite, if_true, if_false, and_self, and_true, true_and, or_false, false_or, not_true_eq_false, not_false_eq_true, ite_self, ↓reduceIte, e]
  · rw [if_neg (by omega), hk] at e
    refine ⟨N1, L, bc c, ?_, h1, h2, fun z => absurd z (by dsimp only; omega), Or.inr rfl, fun _ _ => rfl⟩
    simp (disch := omega) only [r_L_addHouse_0, r_L_addHouse_1, r_L_addHouse_2, r_L_addHouse_3, r_L_addHouse_6, r_L_addHouse_7, r_L_addHouse_8, r_L_addHouse_12, r_L_addHouse_13, r_L_addHouse_15, r_L_addHouse_16, r_L_addHouse_17, r_L_addHouse_18, z0, up2_o, up2_e, iN_ap, iN_up, i_ix, i_inb, i_lt, i_lt0, i_0lt, i_eq, i_ne0, i_00, i_11, i_01, i_10, i_b, i_rem2, n_rem, i_add, i_mul, i_sub, i_div, i_max, i_min, rdk_0, rdk_3, kp_none, kp_int, kp_ref, kp_long, kp_double, aK_v, aK_0, aK_ite, if_true, if_false, and_self, and_true, true_and, or_false, false_or, not_true_eq_false, not_false_eq_true, ite_self, ↓reduceIte, e]
    rw [aK_x (k := 2) (t := 12) (by decide +kernel) rfl]
    simp only [r_L_addHouse_0, r_L_addHouse_1, r_L_addHouse_2, r_L_addHouse_3, r_L_addHouse_6, r_L_addHouse_7, r_L_addHouse_8, r_L_addHouse_12, r_L_addHouse_13, r_L_addHouse_15, r_L_addHouse_16, r_L_addHouse_17, r_L_addHouse_18]
  · rw [if_neg (by omega), hk] at e
    refine ⟨N1, L, bc c, ?_, h1, h2, fun z => absurd z (by dsimp only; omega), Or.inr rfl, fun _ _ => rfl⟩
    simp (disch := omega) only [r_L_addHouse_0, r_L_addHouse_1, r_L_addHouse_2, r_L_addHouse_3, r_L_addHouse_6, r_L_addHouse_7, r_L_addHouse_8, r_L_addHouse_12, r_L_addHouse_13, r_L_addHouse_15, r_L_addHouse_16, r_L_addHouse_17, r_L_addHouse_18, z0, up2_o, up2_e, iN_ap, iN_up, i_ix, i_inb, i_lt, i_lt0, i_0lt, i_eq, i_ne0, i_00, i_11, i_01, i_10, i_b, i_rem2, n_rem, i_add, i_mul, i_sub, i_div, i_max, i_min, rdk_0, rdk_3, kp_none, kp_int, kp_ref, kp_long, kp_double, aK_v, aK_0, aK_ite, if_true, if_false, and_self, and_true, true_and, or_false, false_or, not_true_eq_false, not_false_eq_true, ite_self, ↓reduceIte, e]
    rw [aK_x (k := 2) (t := 15) (by decide +kernel) rfl]
    simp only [r_L_addHouse_0, r_L_addHouse_1, r_L_addHouse_2, r_L_addHouse_3, r_L_addHouse_6, r_L_addHouse_7, r_L_addHouse_8, r_L_addHouse_12, r_L_addHouse_13, r_L_addHouse_15, r_L_addHouse_16, r_L_addHouse_17, r_L_addHouse_18]
theorem w_setWinds {kd : Nat → Nat} {o : Nat × Nat × aSt} (z0 : Z.1 0 = 10) (z1 : Z.1 152 = 1) (z2 : Z.2.1 152 = 1) (h : CR Z L c N kd (ex 71 0 [some (.ref 0)] [] (Z, iN N, L, c)) o) (hk : o.1 = 0 ∨ (o.1 = 1 ∧ kd 1 = 1) ∨ (o.1 = 2 ∧ kd 2 = 2)) :
    WR Z L c N (ex 200 0 [some (.ref 0), some (.ref 152), none] [] (Z, iN N, L, c)) o := by
  obtain ⟨k, v, S'⟩ := o
  obtain ⟨N1, e, h1, h2⟩ := h
  dsimp only at e h1 hk
  rcases hk with rfl | ⟨rfl, hk⟩ | ⟨rfl, hk⟩
  · rw [if_pos rfl] at e
    refine ⟨N1, up2 L 152 0 (nI v).toInt64, c, ?_, h1, h2, fun _ => up2_e ⟨rfl, rfl⟩, Or.inl rfl, fun a ha => (by funext j; exact up2_o (by omega))⟩
    simp (disch := omega) only [r_L_setWinds_0, r_L_setWinds_1, r_L_setWinds_2, r_L_setWinds_3, r_L_setWinds_6, r_L_setWinds_7, r_L_setWinds_8, r_L_setWinds_12, r_L_setWinds_13, r_L_setWinds_15, r_L_setWinds_16, r_L_setWinds_17, r_L_setWinds_18, z0, z1, z2, up2_o, up2_e, iN_ap, iN_up, i_ix, i_inb, i_lt, i_lt0, i_0lt, i_eq, i_ne0, i_00, i_11, i_01, i_10, i_b, i_rem2, n_rem, i_add, i_mul, i_sub, i_div, i_max, i_min, rdk_0, rdk_3, kp_none, kp_int, kp_ref, kp_long, kp_double, aK_v, aK_0, aK_ite, if_true, if_false, and_self, and_true, true_and, or_false, false_or, not_true_eq_false, not_false_eq_true, ite_self, ↓reduceIte, e]
  · rw [if_neg (by omega), hk] at e
    refine ⟨N1, L, bc c, ?_, h1, h2, fun z => absurd z (by dsimp only; omega), Or.inr rfl, fun _ _ => rfl⟩
    simp (disch := omega) only [r_L_setWinds_0, r_L_setWinds_1, r_L_setWinds_2, r_L_setWinds_3, r_L_setWinds_6, r_L_setWinds_7, r_L_setWinds_8, r_L_setWinds_12, r_L_setWinds_13, r_L_setWinds_15, r_L_setWinds_16, r_L_setWinds_17, r_L_setWinds_18, z0, up2_o, up2_e, iN_ap, iN_up, i_ix, i_inb, i_lt, i_lt0, i_0lt, i_eq, i_ne0, i_00, i_11, i_01, i_10, i_b, i_rem2, n_rem, i_add, i_mul, i_sub, i_div, i_max, i_min, rdk_0, rdk_3, kp_none, kp_int, kp_ref, kp_long, kp_double, aK_v, aK_0, aK_ite, if_true, if_false, and_self, and_true, true_and, or_false, false_or, not_true_eq_false, not_false_eq_true, ite_self, ↓reduceIte, e]
    rw [aK_x (k := 2) (t := 12) (by decide +kernel) rfl]
    simp only [r_L_setWinds_0, r_L_setWinds_1, r_L_setWinds_2, r_L_setWinds_3, r_L_setWinds_6, r_L_setWinds_7, r_L_setWinds_8, r_L_setWinds_12, r_L_setWinds_13, r_L_setWinds_15, r_L_setWinds_16, r_L_setWinds_17, r_L_setWinds_18]
  · rw [if_neg (by omega), hk] at e
    refine ⟨N1, L, bc c, ?_, h1, h2, fun z => absurd z (by dsimp only; omega), Or.inr rfl, fun _ _ => rfl⟩
    simp (disch := omega) only [r_L_setWinds_0, r_L_setWinds_1, r_L_setWinds_2, r_L_setWinds_3, r_L_setWinds_6, r_L_setWinds_7, r_L_setWinds_8, r_L_setWinds_12, r_L_setWinds_13, r_L_setWinds_15, r_L_setWinds_16, r_L_setWinds_17, r_L_setWinds_18, z0, up2_o, up2_e, iN_ap, iN_up, i_ix, i_inb, i_lt, i_lt0, i_0lt, i_eq, i_ne0, i_00, i_11, i_01, i_10, i_b, i_rem2, n_rem, i_add, i_mul, i_sub, i_div, i_max, i_min, rdk_0, rdk_3, kp_none, kp_int, kp_ref, kp_long, kp_double, aK_v, aK_0, aK_ite, if_true, if_false, and_self, and_true, true_and, or_false, false_or, not_true_eq_false, not_false_eq_true, ite_self, ↓reduceIte, e]
    rw [aK_x (k := 2) (t := 15) (by decide +kernel) rfl]
    simp only [r_L_setWinds_0, r_L_setWinds_1, r_L_setWinds_2, r_L_setWinds_3, r_L_setWinds_6, r_L_setWinds_7, r_L_setWinds_8, r_L_setWinds_12, r_L_setWinds_13, r_L_setWinds_15, r_L_setWinds_16, r_L_setWinds_17, r_L_setWinds_18]
theorem w_undo {kd : Nat → Nat} {o : Nat × Nat × aSt} (z0 : Z.1 0 = 10) (z1 : Z.1 152 = 1) (z2 : Z.2.1 152 = 1) (h : CR Z L c N kd (ex 72 0 [some (.ref 0)] [] (Z, iN N, L, c)) o) (hk : o.1 = 0 ∨ (o.1 = 1 ∧ kd 1 = 2)) :
    WR Z L c N (ex 201 0 [some (.ref 0), some (.ref 152), none] [] (Z, iN N, L, c)) o := by
  obtain ⟨k, v, S'⟩ := o
  obtain ⟨N1, e, h1, h2⟩ := h
  dsimp only at e h1 hk
  rcases hk with rfl | ⟨rfl, hk⟩
  · rw [if_pos rfl] at e
    refine ⟨N1, up2 L 152 0 (nI v).toInt64, c, ?_, h1, h2, fun _ => up2_e ⟨rfl, rfl⟩, Or.inl rfl, fun a ha => (by funext j; exact up2_o (by omega))⟩
    simp (disch := omega) only [r_L_undo_0, r_L_undo_1, r_L_undo_2, r_L_undo_3, r_L_undo_6, r_L_undo_7, r_L_undo_8, r_L_undo_12, r_L_undo_13, r_L_undo_14, r_L_undo_15, z0, z1, z2, up2_o, up2_e, iN_ap, iN_up, i_ix, i_inb, i_lt, i_lt0, i_0lt, i_eq, i_ne0, i_00, i_11, i_01, i_10, i_b, i_rem2, n_rem, i_add, i_mul, i_sub, i_div, i_max, i_min, rdk_0, rdk_3, kp_none, kp_int, kp_ref, kp_long, kp_double, aK_v, aK_0, aK_ite, if_true, if_false, and_self, and_true, true_and, or_false, false_or, not_true_eq_false, not_false_eq_true, ite_self, ↓reduceIte, e]
  · rw [if_neg (by omega), hk] at e
    refine ⟨N1, L, bc c, ?_, h1, h2, fun z => absurd z (by dsimp only; omega), Or.inr rfl, fun _ _ => rfl⟩
    simp (disch := omega) only [r_L_undo_0, r_L_undo_1, r_L_undo_2, r_L_undo_3, r_L_undo_6, r_L_undo_7, r_L_undo_8, r_L_undo_12, r_L_undo_13, r_L_undo_14, r_L_undo_15, z0, up2_o, up2_e, iN_ap, iN_up, i_ix, i_inb, i_lt, i_lt0, i_0lt, i_eq, i_ne0, i_00, i_11, i_01, i_10, i_b, i_rem2, n_rem, i_add, i_mul, i_sub, i_div, i_max, i_min, rdk_0, rdk_3, kp_none, kp_int, kp_ref, kp_long, kp_double, aK_v, aK_0, aK_ite, if_true, if_false, and_self, and_true, true_and, or_false, false_or, not_true_eq_false, not_false_eq_true, ite_self, ↓reduceIte, e]
    rw [aK_x (k := 2) (t := 12) (by decide +kernel) rfl]
    simp only [r_L_undo_0, r_L_undo_1, r_L_undo_2, r_L_undo_3, r_L_undo_6, r_L_undo_7, r_L_undo_8, r_L_undo_12, r_L_undo_13, r_L_undo_14, r_L_undo_15]
theorem w_house {kd : Nat → Nat} {o : Nat × Nat × aSt} {v1 v2 : Int32} (z0 : Z.1 0 = 10) (z1 : Z.1 152 = 1) (z2 : Z.2.1 152 = 1) (h : CR Z L c N kd (ex 73 0 [some (.ref 0), some (.int v1), some (.int v2), none, none] [] (Z, iN N, L, c)) o) (hk : o.1 = 0 ∨ (o.1 = 1 ∧ kd 1 = 0) ∨ (o.1 = 2 ∧ kd 2 = 1)) :
    WR Z L c N (ex 202 0 [some (.ref 0), some (.int v1), some (.int v2), some (.ref 152), none] [] (Z, iN N, L, c)) o := by
  obtain ⟨k, v, S'⟩ := o
  obtain ⟨N1, e, h1, h2⟩ := h
  dsimp only at e h1 hk
  rcases hk with rfl | ⟨rfl, hk⟩ | ⟨rfl, hk⟩
  · rw [if_pos rfl] at e
    refine ⟨N1, up2 L 152 0 (nI v).toInt64, c, ?_, h1, h2, fun _ => up2_e ⟨rfl, rfl⟩, Or.inl rfl, fun a ha => (by funext j; exact up2_o (by omega))⟩
    simp (disch := omega) only [r_L_house_0, r_L_house_1, r_L_house_2, r_L_house_3, r_L_house_4, r_L_house_5, r_L_house_8, r_L_house_9, r_L_house_10, r_L_house_15, r_L_house_16, r_L_house_19, r_L_house_20, r_L_house_21, r_L_house_22, z0, z1, z2, up2_o, up2_e, iN_ap, iN_up, i_ix, i_inb, i_lt, i_lt0, i_0lt, i_eq, i_ne0, i_00, i_11, i_01, i_10, i_b, i_rem2, n_rem, i_add, i_mul, i_sub, i_div, i_max, i_min, rdk_0, rdk_3, kp_none, kp_int, kp_ref, kp_long, kp_double, aK_v, aK_0, aK_ite, if_true, if_false, and_self, and_true, true_and, or_false, false_or, not_true_eq_false, not_false_eq_true, ite_self, ↓reduceIte, e]
  · rw [if_neg (by omega), hk] at e
    refine ⟨N1, L, bc c, ?_, h1, h2, fun z => absurd z (by dsimp only; omega), Or.inr rfl, fun _ _ => rfl⟩
    simp (disch := omega) only [r_L_house_0, r_L_house_1, r_L_house_2, r_L_house_3, r_L_house_4, r_L_house_5, r_L_house_8, r_L_house_9, r_L_house_10, r_L_house_15, r_L_house_16, r_L_house_19, r_L_house_20, r_L_house_21, r_L_house_22, z0, up2_o, up2_e, iN_ap, iN_up, i_ix, i_inb, i_lt, i_lt0, i_0lt, i_eq, i_ne0, i_00, i_11, i_01, i_10, i_b, i_rem2, n_rem, i_add, i_mul, i_sub, i_div, i_max, i_min, rdk_0, rdk_3, kp_none, kp_int, kp_ref, kp_long, kp_double, aK_v, aK_0, aK_ite, if_true, if_false, and_self, and_true, true_and, or_false, false_or, not_true_eq_false, not_false_eq_true, ite_self, ↓reduceIte, e]
    rw [aK_x (k := 4) (t := 15) (by decide +kernel) rfl]
    simp only [r_L_house_0, r_L_house_1, r_L_house_2, r_L_house_3, r_L_house_4, r_L_house_5, r_L_house_8, r_L_house_9, r_L_house_10, r_L_house_15, r_L_house_16, r_L_house_19, r_L_house_20, r_L_house_21, r_L_house_22]
  · rw [if_neg (by omega), hk] at e
    refine ⟨N1, L, bc c, ?_, h1, h2, fun z => absurd z (by dsimp only; omega), Or.inr rfl, fun _ _ => rfl⟩
    simp (disch := omega) only [r_L_house_0, r_L_house_1, r_L_house_2, r_L_house_3, r_L_house_4, r_L_house_5, r_L_house_8, r_L_house_9, r_L_house_10, r_L_house_15, r_L_house_16, r_L_house_19, r_L_house_20, r_L_house_21, r_L_house_22, z0, up2_o, up2_e, iN_ap, iN_up, i_ix, i_inb, i_lt, i_lt0, i_0lt, i_eq, i_ne0, i_00, i_11, i_01, i_10, i_b, i_rem2, n_rem, i_add, i_mul, i_sub, i_div, i_max, i_min, rdk_0, rdk_3, kp_none, kp_int, kp_ref, kp_long, kp_double, aK_v, aK_0, aK_ite, if_true, if_false, and_self, and_true, true_and, or_false, false_or, not_true_eq_false, not_false_eq_true, ite_self, ↓reduceIte, e]
    rw [aK_x (k := 4) (t := 19) (by decide +kernel) rfl]
    simp only [r_L_house_0, r_L_house_1, r_L_house_2, r_L_house_3, r_L_house_4, r_L_house_5, r_L_house_8, r_L_house_9, r_L_house_10, r_L_house_15, r_L_house_16, r_L_house_19, r_L_house_20, r_L_house_21, r_L_house_22]
theorem w_module {kd : Nat → Nat} {o : Nat × Nat × aSt} {v1 v2 v3 : Int32} (z0 : Z.1 0 = 10) (z1 : Z.1 152 = 1) (z2 : Z.2.1 152 = 1) (h : CR Z L c N kd (ex 74 0 [some (.ref 0), some (.int v1), some (.int v2), some (.int v3), none] [] (Z, iN N, L, c)) o) (hk : o.1 = 0 ∨ (o.1 = 1 ∧ kd 1 = 0) ∨ (o.1 = 2 ∧ kd 2 = 1)) :
    WR Z L c N (ex 203 0 [some (.ref 0), some (.int v1), some (.int v2), some (.int v3), some (.ref 152), none] [] (Z, iN N, L, c)) o := by
  obtain ⟨k, v, S'⟩ := o
  obtain ⟨N1, e, h1, h2⟩ := h
  dsimp only at e h1 hk
  rcases hk with rfl | ⟨rfl, hk⟩ | ⟨rfl, hk⟩
  · rw [if_pos rfl] at e
    refine ⟨N1, up2 L 152 0 (nI v).toInt64, c, ?_, h1, h2, fun _ => up2_e ⟨rfl, rfl⟩, Or.inl rfl, fun a ha => (by funext j; exact up2_o (by omega))⟩
    simp (disch := omega) only [r_L_module_0, r_L_module_2, r_L_module_3, r_L_module_4, r_L_module_5, r_L_module_6, r_L_module_7, r_L_module_10, r_L_module_11, r_L_module_12, r_L_module_17, r_L_module_18, r_L_module_21, r_L_module_22, r_L_module_23, r_L_module_24, z0, z1, z2, up2_o, up2_e, iN_ap, iN_up, i_ix, i_inb, i_lt, i_lt0, i_0lt, i_eq, i_ne0, i_00, i_11, i_01, i_10, i_b, i_rem2, n_rem, i_add, i_mul, i_sub, i_div, i_max, i_min, rdk_0, rdk_3, kp_none, kp_int, kp_ref, kp_long, kp_double, aK_v, aK_0, aK_ite, if_true, if_false, and_self, and_true, true_and, or_false, false_or, not_true_eq_false, not_false_eq_true, ite_self, ↓reduceIte, e]
  · rw [if_neg (by omega), hk] at e
    refine ⟨N1, L, bc c, ?_, h1, h2, fun z => absurd z (by dsimp only; omega), Or.inr rfl, fun _ _ => rfl⟩
    simp (disch := omega) only [r_L_module_0, r_L_module_2, r_L_module_3, r_L_module_4, r_L_module_5, r_L_module_6, r_L_module_7, r_L_module_10, r_L_module_11, r_L_module_12, r_L_module_17, r_L_module_18, r_L_module_21, r_L_module_22, r_L_module_23, r_L_module_24, z0, up2_o, up2_e, iN_ap, iN_up, i_ix, i_inb, i_lt, i_lt0, i_0lt, i_eq, i_ne0, i_00, i_11, i_01, i_10, i_b, i_rem2, n_rem, i_add, i_mul, i_sub, i_div, i_max, i_min, rdk_0, rdk_3, kp_none, kp_int, kp_ref, kp_long, kp_double, aK_v, aK_0, aK_ite, if_true, if_false, and_self, and_true, true_and, or_false, false_or, not_true_eq_false, not_false_eq_true, ite_self, ↓reduceIte, e]
    rw [aK_x (k := 5) (t := 17) (by decide +kernel) rfl]
    simp only [r_L_module_0, r_L_module_2, r_L_module_3, r_L_module_4, r_L_module_5, r_L_module_6, r_L_module_7, r_L_module_10, r_L_module_11, r_L_module_12, r_L_module_17, r_L_module_18, r_L_module_21, r_L_module_22, r_L_module_23, r_L_module_24]
  · rw [if_neg (by omega), hk] at e
    refine ⟨N1, L, bc c, ?_, h1, h2, fun z => absurd z (by dsimp only; omega), Or.inr rfl, fun _ _ => rfl⟩
    simp (disch := omega) only [r_L_module_0, r_L_module_2, r_L_module_3, r_L_module_4, r_L_module_5, r_L_module_6, r_L_module_7, r_L_module_10, r_L_module_11, r_L_module_12, r_L_module_17, r_L_module_18, r_L_module_21, r_L_module_22, r_L_module_23, r_L_module_24, z0, up2_o, up2_e, iN_ap, iN_up, i_ix, i_inb, i_lt, i_lt0, i_0lt, i_eq, i_ne0, i_00, i_11, i_01, i_10, i_b, i_rem2, n_rem, i_add, i_mul, i_sub, i_div, i_max, i_min, rdk_0, rdk_3, kp_none, kp_int, kp_ref, kp_long, kp_double, aK_v, aK_0, aK_ite, if_true, if_false, and_self, and_true, true_and, or_false, false_or, not_true_eq_false, not_false_eq_true, ite_self, ↓reduceIte, e]
    rw [aK_x (k := 5) (t := 21) (by decide +kernel) rfl]
    simp only [r_L_module_0, r_L_module_2, r_L_module_3, r_L_module_4, r_L_module_5, r_L_module_6, r_L_module_7, r_L_module_10, r_L_module_11, r_L_module_12, r_L_module_17, r_L_module_18, r_L_module_21, r_L_module_22, r_L_module_23, r_L_module_24]
theorem w_share {kd : Nat → Nat} {o : Nat × Nat × aSt} {v1 v2 v3 v4 : Int32} (z0 : Z.1 0 = 10) (z1 : Z.1 152 = 1) (z2 : Z.2.1 152 = 1) (h : CR Z L c N kd (ex 75 0 [some (.ref 0), some (.int v1), some (.int v2), some (.int v3), some (.int v4), none] [] (Z, iN N, L, c)) o) (hk : o.1 = 0 ∨ (o.1 = 1 ∧ kd 1 = 0) ∨ (o.1 = 2 ∧ kd 2 = 1)) :
    WR Z L c N (ex 204 0 [some (.ref 0), some (.int v1), some (.int v2), some (.int v3), some (.int v4), some (.ref 152), none] [] (Z, iN N, L, c)) o := by
  obtain ⟨k, v, S'⟩ := o
  obtain ⟨N1, e, h1, h2⟩ := h
  dsimp only at e h1 hk
  rcases hk with rfl | ⟨rfl, hk⟩ | ⟨rfl, hk⟩
  · rw [if_pos rfl] at e
    refine ⟨N1, up2 L 152 0 (nI v).toInt64, c, ?_, h1, h2, fun _ => up2_e ⟨rfl, rfl⟩, Or.inl rfl, fun a ha => (by funext j; exact up2_o (by omega))⟩
    simp (disch := omega) only [r_L_share_0, r_L_share_2, r_L_share_3, r_L_share_4, r_L_share_5, r_L_share_6, r_L_share_7, r_L_share_9, r_L_share_12, r_L_share_13, r_L_share_14, r_L_share_19, r_L_share_20, r_L_share_23, r_L_share_24, r_L_share_25, r_L_share_26, z0, z1, z2, up2_o, up2_e, iN_ap, iN_up, i_ix, i_inb, i_lt, i_lt0, i_0lt, i_eq, i_ne0, i_00, i_11, i_01, i_10, i_b, i_rem2, n_rem, i_add, i_mul, i_sub, i_div, i_max, i_min, rdk_0, rdk_3, kp_none, kp_int, kp_ref, kp_long, kp_double, aK_v, aK_0, aK_ite, if_true, if_false, and_self, and_true, true_and, or_false, false_or, not_true_eq_false, not_false_eq_true, ite_self, ↓reduceIte, e]
  · rw [if_neg (by omega), hk] at e
    refine ⟨N1, L, bc c, ?_, h1, h2, fun z => absurd z (by dsimp only; omega), Or.inr rfl, fun _ _ => rfl⟩
    simp (disch := omega) only [r_L_share_0, r_L_share_2, r_L_share_3, r_L_share_4, r_L_share_5, r_L_share_6, r_L_share_7, r_L_share_9, r_L_share_12, r_L_share_13, r_L_share_14, r_L_share_19, r_L_share_20, r_L_share_23, r_L_share_24, r_L_share_25, r_L_share_26, z0, up2_o, up2_e, iN_ap, iN_up, i_ix, i_inb, i_lt, i_lt0, i_0lt, i_eq, i_ne0, i_00, i_11, i_01, i_10, i_b, i_rem2, n_rem, i_add, i_mul, i_sub, i_div, i_max, i_min, rdk_0, rdk_3, kp_none, kp_int, kp_ref, kp_long, kp_double, aK_v, aK_0, aK_ite, if_true, if_false, and_self, and_true, true_and, or_false, false_or, not_true_eq_false, not_false_eq_true, ite_self, ↓reduceIte, e]
    rw [aK_x (k := 6) (t := 19) (by decide +kernel) rfl]
    simp only [r_L_share_0, r_L_share_2, r_L_share_3, r_L_share_4, r_L_share_5, r_L_share_6, r_L_share_7, r_L_share_9, r_L_share_12, r_L_share_13, r_L_share_14, r_L_share_19, r_L_share_20, r_L_share_23, r_L_share_24, r_L_share_25, r_L_share_26]
  · rw [if_neg (by omega), hk] at e
    refine ⟨N1, L, bc c, ?_, h1, h2, fun z => absurd z (by dsimp only; omega), Or.inr rfl, fun _ _ => rfl⟩
    simp (disch := omega) only [r_L_share_0, r_L_share_2, r_L_share_3, r_L_share_4, r_L_share_5, r_L_share_6, r_L_share_7, r_L_share_9, r_L_share_12, r_L_share_13, r_L_share_14, r_L_share_19, r_L_share_20, r_L_share_23, r_L_share_24, r_L_share_25, r_L_share_26, z0, up2_o, up2_e, iN_ap, iN_up, i_ix, i_inb, i_lt, i_lt0, i_0lt, i_eq, i_ne0, i_00, i_11, i_01, i_10, i_b, i_rem2, n_rem, i_add, i_mul, i_sub, i_div, i_max, i_min, rdk_0, rdk_3, kp_none, kp_int, kp_ref, kp_long, kp_double, aK_v, aK_0, aK_ite, if_true, if_false, and_self, and_true, true_and, or_false, false_or, not_true_eq_false, not_false_eq_true, ite_self, ↓reduceIte, e]
    rw [aK_x (k := 6) (t := 23) (by decide +kernel) rfl]
    simp only [r_L_share_0, r_L_share_2, r_L_share_3, r_L_share_4, r_L_share_5, r_L_share_6, r_L_share_7, r_L_share_9, r_L_share_12, r_L_share_13, r_L_share_14, r_L_share_19, r_L_share_20, r_L_share_23, r_L_share_24, r_L_share_25, r_L_share_26]
theorem w_trade {kd : Nat → Nat} {o : Nat × Nat × aSt} {v1 v2 : Int32} (z0 : Z.1 0 = 10) (z1 : Z.1 152 = 1) (z2 : Z.2.1 152 = 1) (h : CR Z L c N kd (ex 76 0 [some (.ref 0), some (.int v1), some (.int v2)] [] (Z, iN N, L, c)) o) (hk : o.1 = 0 ∨ (o.1 = 1 ∧ kd 1 = 0) ∨ (o.1 = 2 ∧ kd 2 = 1)) :
    WR Z L c N (ex 205 0 [some (.ref 0), some (.int v1), some (.int v2), some (.ref 152), none] [] (Z, iN N, L, c)) o := by
  obtain ⟨k, v, S'⟩ := o
  obtain ⟨N1, e, h1, h2⟩ := h
  dsimp only at e h1 hk
  rcases hk with rfl | ⟨rfl, hk⟩ | ⟨rfl, hk⟩
  · rw [if_pos rfl] at e
    refine ⟨N1, up2 L 152 0 (nI v).toInt64, c, ?_, h1, h2, fun _ => up2_e ⟨rfl, rfl⟩, Or.inl rfl, fun a ha => (by funext j; exact up2_o (by omega))⟩
    simp (disch := omega) only [r_L_trade_0, r_L_trade_1, r_L_trade_2, r_L_trade_3, r_L_trade_4, r_L_trade_5, r_L_trade_8, r_L_trade_9, r_L_trade_10, r_L_trade_15, r_L_trade_16, r_L_trade_19, r_L_trade_20, r_L_trade_21, r_L_trade_22, z0, z1, z2, up2_o, up2_e, iN_ap, iN_up, i_ix, i_inb, i_lt, i_lt0, i_0lt, i_eq, i_ne0, i_00, i_11, i_01, i_10, i_b, i_rem2, n_rem, i_add, i_mul, i_sub, i_div, i_max, i_min, rdk_0, rdk_3, kp_none, kp_int, kp_ref, kp_long, kp_double, aK_v, aK_0, aK_ite, if_true, if_false, and_self, and_true, true_and, or_false, false_or, not_true_eq_false, not_false_eq_true, ite_self, ↓reduceIte, e]
  · rw [if_neg (by omega), hk] at e
    refine ⟨N1, L, bc c, ?_, h1, h2, fun z => absurd z (by dsimp only; omega), Or.inr rfl, fun _ _ => rfl⟩
    simp (disch := omega) only [r_L_trade_0, r_L_trade_1, r_L_trade_2, r_L_trade_3, r_L_trade_4, r_L_trade_5, r_L_trade_8, r_L_trade_9, r_L_trade_10, r_L_trade_15, r_L_trade_16, r_L_trade_19, r_L_trade_20, r_L_trade_21, r_L_trade_22, z0, up2_o, up2_e, iN_ap, iN_up, i_ix, i_inb, i_lt, i_lt0, i_0lt, i_eq, i_ne0, i_00, i_11, i_01, i_10, i_b, i_rem2, n_rem, i_add, i_mul, i_sub, i_div, i_max, i_min, rdk_0, rdk_3, kp_none, kp_int, kp_ref, kp_long, kp_double, aK_v, aK_0, aK_ite, if_true, if_false, and_self, and_true, true_and, or_false, false_or, not_true_eq_false, not_false_eq_true, ite_self, ↓reduceIte, e]
    rw [aK_x (k := 4) (t := 15) (by decide +kernel) rfl]
    simp only [r_L_trade_0, r_L_trade_1, r_L_trade_2, r_L_trade_3, r_L_trade_4, r_L_trade_5, r_L_trade_8, r_L_trade_9, r_L_trade_10, r_L_trade_15, r_L_trade_16, r_L_trade_19, r_L_trade_20, r_L_trade_21, r_L_trade_22]
  · rw [if_neg (by omega), hk] at e
    refine ⟨N1, L, bc c, ?_, h1, h2, fun z => absurd z (by dsimp only; omega), Or.inr rfl, fun _ _ => rfl⟩
    simp (disch := omega) only [r_L_trade_0, r_L_trade_1, r_L_trade_2, r_L_trade_3, r_L_trade_4, r_L_trade_5, r_L_trade_8, r_L_trade_9, r_L_trade_10, r_L_trade_15, r_L_trade_16, r_L_trade_19, r_L_trade_20, r_L_trade_21, r_L_trade_22, z0, up2_o, up2_e, iN_ap, iN_up, i_ix, i_inb, i_lt, i_lt0, i_0lt, i_eq, i_ne0, i_00, i_11, i_01, i_10, i_b, i_rem2, n_rem, i_add, i_mul, i_sub, i_div, i_max, i_min, rdk_0, rdk_3, kp_none, kp_int, kp_ref, kp_long, kp_double, aK_v, aK_0, aK_ite, if_true, if_false, and_self, and_true, true_and, or_false, false_or, not_true_eq_false, not_false_eq_true, ite_self, ↓reduceIte, e]
    rw [aK_x (k := 4) (t := 19) (by decide +kernel) rfl]
    simp only [r_L_trade_0, r_L_trade_1, r_L_trade_2, r_L_trade_3, r_L_trade_4, r_L_trade_5, r_L_trade_8, r_L_trade_9, r_L_trade_10, r_L_trade_15, r_L_trade_16, r_L_trade_19, r_L_trade_20, r_L_trade_21, r_L_trade_22]
theorem w_day {kd : Nat → Nat} {o : Nat × Nat × aSt} {v1 v2 : Int32} (z0 : Z.1 0 = 10) (z1 : Z.1 152 = 1) (z2 : Z.2.1 152 = 1) (h : CR Z L c N kd (ex 77 0 [some (.ref 0), some (.int v1), some (.int v2)] [] (Z, iN N, L, c)) o) (hk : o.1 = 0 ∨ (o.1 = 1 ∧ kd 1 = 1)) :
    WR Z L c N (ex 206 0 [some (.ref 0), some (.int v1), some (.int v2), some (.ref 152), none] [] (Z, iN N, L, c)) o := by
  obtain ⟨k, v, S'⟩ := o
  obtain ⟨N1, e, h1, h2⟩ := h
  dsimp only at e h1 hk
  rcases hk with rfl | ⟨rfl, hk⟩
  · rw [if_pos rfl] at e
    refine ⟨N1, up2 L 152 0 (nI v).toInt64, c, ?_, h1, h2, fun _ => up2_e ⟨rfl, rfl⟩, Or.inl rfl, fun a ha => (by funext j; exact up2_o (by omega))⟩
    simp (disch := omega) only [r_L_day_0, r_L_day_1, r_L_day_2, r_L_day_3, r_L_day_4, r_L_day_5, r_L_day_8, r_L_day_9, r_L_day_10, r_L_day_15, r_L_day_16, r_L_day_17, r_L_day_18, z0, z1, z2, up2_o, up2_e, iN_ap, iN_up, i_ix, i_inb, i_lt, i_lt0, i_0lt, i_eq, i_ne0, i_00, i_11, i_01, i_10, i_b, i_rem2, n_rem, i_add, i_mul, i_sub, i_div, i_max, i_min, rdk_0, rdk_3, kp_none, kp_int, kp_ref, kp_long, kp_double, aK_v, aK_0, aK_ite, if_true, if_false, and_self, and_true, true_and, or_false, false_or, not_true_eq_false, not_false_eq_true, ite_self, ↓reduceIte, e]
  · rw [if_neg (by omega), hk] at e
    refine ⟨N1, L, bc c, ?_, h1, h2, fun z => absurd z (by dsimp only; omega), Or.inr rfl, fun _ _ => rfl⟩
    simp (disch := omega) only [r_L_day_0, r_L_day_1, r_L_day_2, r_L_day_3, r_L_day_4, r_L_day_5, r_L_day_8, r_L_day_9, r_L_day_10, r_L_day_15, r_L_day_16, r_L_day_17, r_L_day_18, z0, up2_o, up2_e, iN_ap, iN_up, i_ix, i_inb, i_lt, i_lt0, i_0lt, i_eq, i_ne0, i_00, i_11, i_01, i_10, i_b, i_rem2, n_rem, i_add, i_mul, i_sub, i_div, i_max, i_min, rdk_0, rdk_3, kp_none, kp_int, kp_ref, kp_long, kp_double, aK_v, aK_0, aK_ite, if_true, if_false, and_self, and_true, true_and, or_false, false_or, not_true_eq_false, not_false_eq_true, ite_self, ↓reduceIte, e]
    rw [aK_x (k := 4) (t := 15) (by decide +kernel) rfl]
    simp only [r_L_day_0, r_L_day_1, r_L_day_2, r_L_day_3, r_L_day_4, r_L_day_5, r_L_day_8, r_L_day_9, r_L_day_10, r_L_day_15, r_L_day_16, r_L_day_17, r_L_day_18]
theorem w_count {kd : Nat → Nat} {o : Nat × Nat × aSt} {v1 : Int32} (z0 : Z.1 0 = 10) (z1 : Z.1 152 = 1) (z2 : Z.2.1 152 = 1) (h : CR Z L c N kd (ex 78 0 [some (.ref 0), some (.int v1)] [] (Z, iN N, L, c)) o) (hk : o.1 = 0 ∨ (o.1 = 1 ∧ kd 1 = 1)) :
    WR Z L c N (ex 207 0 [some (.ref 0), some (.int v1), some (.ref 152), none] [] (Z, iN N, L, c)) o := by
  obtain ⟨k, v, S'⟩ := o
  obtain ⟨N1, e, h1, h2⟩ := h
  dsimp only at e h1 hk
  rcases hk with rfl | ⟨rfl, hk⟩
  · rw [if_pos rfl] at e
    refine ⟨N1, up2 L 152 0 (nI v).toInt64, c, ?_, h1, h2, fun _ => up2_e ⟨rfl, rfl⟩, Or.inl rfl, fun a ha => (by funext j; exact up2_o (by omega))⟩
    simp (disch := omega) only [r_L_count_0, r_L_count_1, r_L_count_2, r_L_count_3, r_L_count_4, r_L_count_7, r_L_count_8, r_L_count_9, r_L_count_13, r_L_count_14, r_L_count_15, r_L_count_16, z0, z1, z2, up2_o, up2_e, iN_ap, iN_up, i_ix, i_inb, i_lt, i_lt0, i_0lt, i_eq, i_ne0, i_00, i_11, i_01, i_10, i_b, i_rem2, n_rem, i_add, i_mul, i_sub, i_div, i_max, i_min, rdk_0, rdk_3, kp_none, kp_int, kp_ref, kp_long, kp_double, aK_v, aK_0, aK_ite, if_true, if_false, and_self, and_true, true_and, or_false, false_or, not_true_eq_false, not_false_eq_true, ite_self, ↓reduceIte, e]
  · rw [if_neg (by omega), hk] at e
    refine ⟨N1, L, bc c, ?_, h1, h2, fun z => absurd z (by dsimp only; omega), Or.inr rfl, fun _ _ => rfl⟩
    simp (disch := omega) only [r_L_count_0, r_L_count_1, r_L_count_2, r_L_count_3, r_L_count_4, r_L_count_7, r_L_count_8, r_L_count_9, r_L_count_13, r_L_count_14, r_L_count_15, r_L_count_16, z0, up2_o, up2_e, iN_ap, iN_up, i_ix, i_inb, i_lt, i_lt0, i_0lt, i_eq, i_ne0, i_00, i_11, i_01, i_10, i_b, i_rem2, n_rem, i_add, i_mul, i_sub, i_div, i_max, i_min, rdk_0, rdk_3, kp_none, kp_int, kp_ref, kp_long, kp_double, aK_v, aK_0, aK_ite, if_true, if_false, and_self, and_true, true_and, or_false, false_or, not_true_eq_false, not_false_eq_true, ite_self, ↓reduceIte, e]
    rw [aK_x (k := 3) (t := 13) (by decide +kernel) rfl]
    simp only [r_L_count_0, r_L_count_1, r_L_count_2, r_L_count_3, r_L_count_4, r_L_count_7, r_L_count_8, r_L_count_9, r_L_count_13, r_L_count_14, r_L_count_15, r_L_count_16]
theorem w_setting {kd : Nat → Nat} {o : Nat × Nat × aSt} {v1 : Int32} (z0 : Z.1 0 = 10) (z1 : Z.1 152 = 1) (z2 : Z.2.1 152 = 1) (h : CR Z L c N kd (ex 79 0 [some (.ref 0), some (.int v1)] [] (Z, iN N, L, c)) o) (hk : o.1 = 0 ∨ (o.1 = 1 ∧ kd 1 = 0)) :
    WR Z L c N (ex 208 0 [some (.ref 0), some (.int v1), some (.ref 152), none] [] (Z, iN N, L, c)) o := by
  obtain ⟨k, v, S'⟩ := o
  obtain ⟨N1, e, h1, h2⟩ := h
  dsimp only at e h1 hk
  rcases hk with rfl | ⟨rfl, hk⟩
  · rw [if_pos rfl] at e
    refine ⟨N1, up2 L 152 0 (nI v).toInt64, c, ?_, h1, h2, fun _ => up2_e ⟨rfl, rfl⟩, Or.inl rfl, fun a ha => (by funext j; exact up2_o (by omega))⟩
    simp (disch := omega) only [r_L_setting_0, r_L_setting_1, r_L_setting_2, r_L_setting_3, r_L_setting_4, r_L_setting_7, r_L_setting_8, r_L_setting_9, r_L_setting_13, r_L_setting_14, r_L_setting_15, r_L_setting_16, z0, z1, z2, up2_o, up2_e, iN_ap, iN_up, i_ix, i_inb, i_lt, i_lt0, i_0lt, i_eq, i_ne0, i_00, i_11, i_01, i_10, i_b, i_rem2, n_rem, i_add, i_mul, i_sub, i_div, i_max, i_min, rdk_0, rdk_3, kp_none, kp_int, kp_ref, kp_long, kp_double, aK_v, aK_0, aK_ite, if_true, if_false, and_self, and_true, true_and, or_false, false_or, not_true_eq_false, not_false_eq_true, ite_self, ↓reduceIte, e]
  · rw [if_neg (by omega), hk] at e
    refine ⟨N1, L, bc c, ?_, h1, h2, fun z => absurd z (by dsimp only; omega), Or.inr rfl, fun _ _ => rfl⟩
    simp (disch := omega) only [r_L_setting_0, r_L_setting_1, r_L_setting_2, r_L_setting_3, r_L_setting_4, r_L_setting_7, r_L_setting_8, r_L_setting_9, r_L_setting_13, r_L_setting_14, r_L_setting_15, r_L_setting_16, z0, up2_o, up2_e, iN_ap, iN_up, i_ix, i_inb, i_lt, i_lt0, i_0lt, i_eq, i_ne0, i_00, i_11, i_01, i_10, i_b, i_rem2, n_rem, i_add, i_mul, i_sub, i_div, i_max, i_min, rdk_0, rdk_3, kp_none, kp_int, kp_ref, kp_long, kp_double, aK_v, aK_0, aK_ite, if_true, if_false, and_self, and_true, true_and, or_false, false_or, not_true_eq_false, not_false_eq_true, ite_self, ↓reduceIte, e]
    rw [aK_x (k := 3) (t := 13) (by decide +kernel) rfl]
    simp only [r_L_setting_0, r_L_setting_1, r_L_setting_2, r_L_setting_3, r_L_setting_4, r_L_setting_7, r_L_setting_8, r_L_setting_9, r_L_setting_13, r_L_setting_14, r_L_setting_15, r_L_setting_16]
theorem w_bestDay {kd : Nat → Nat} {o : Nat × Nat × aSt} {v1 : Int32} (z0 : Z.1 0 = 10) (z1 : Z.1 152 = 1) (z2 : Z.2.1 152 = 1) (h : CR Z L c N kd (ex 81 0 [some (.ref 0), some (.int v1), none, none, none] [] (Z, iN N, L, c)) o) (hk : o.1 = 0 ∨ (o.1 = 1 ∧ kd 1 = 0)) :
    WR Z L c N (ex 209 0 [some (.ref 0), some (.int v1), some (.ref 152), none] [] (Z, iN N, L, c)) o := by
  obtain ⟨k, v, S'⟩ := o
  obtain ⟨N1, e, h1, h2⟩ := h
  dsimp only at e h1 hk
  rcases hk with rfl | ⟨rfl, hk⟩
  · rw [if_pos rfl] at e
    refine ⟨N1, up2 L 152 0 (nI v).toInt64, c, ?_, h1, h2, fun _ => up2_e ⟨rfl, rfl⟩, Or.inl rfl, fun a ha => (by funext j; exact up2_o (by omega))⟩
    simp (disch := omega) only [r_L_bestDay_0, r_L_bestDay_1, r_L_bestDay_2, r_L_bestDay_3, r_L_bestDay_4, r_L_bestDay_7, r_L_bestDay_8, r_L_bestDay_9, r_L_bestDay_13, r_L_bestDay_14, r_L_bestDay_15, r_L_bestDay_16, z0, z1, z2, up2_o, up2_e, iN_ap, iN_up, i_ix, i_inb, i_lt, i_lt0, i_0lt, i_eq, i_ne0, i_00, i_11, i_01, i_10, i_b, i_rem2, n_rem, i_add, i_mul, i_sub, i_div, i_max, i_min, rdk_0, rdk_3, kp_none, kp_int, kp_ref, kp_long, kp_double, aK_v, aK_0, aK_ite, if_true, if_false, and_self, and_true, true_and, or_false, false_or, not_true_eq_false, not_false_eq_true, ite_self, ↓reduceIte, e]
  · rw [if_neg (by omega), hk] at e
    refine ⟨N1, L, bc c, ?_, h1, h2, fun z => absurd z (by dsimp only; omega), Or.inr rfl, fun _ _ => rfl⟩
    simp (disch := omega) only [r_L_bestDay_0, r_L_bestDay_1, r_L_bestDay_2, r_L_bestDay_3, r_L_bestDay_4, r_L_bestDay_7, r_L_bestDay_8, r_L_bestDay_9, r_L_bestDay_13, r_L_bestDay_14, r_L_bestDay_15, r_L_bestDay_16, z0, up2_o, up2_e, iN_ap, iN_up, i_ix, i_inb, i_lt, i_lt0, i_0lt, i_eq, i_ne0, i_00, i_11, i_01, i_10, i_b, i_rem2, n_rem, i_add, i_mul, i_sub, i_div, i_max, i_min, rdk_0, rdk_3, kp_none, kp_int, kp_ref, kp_long, kp_double, aK_v, aK_0, aK_ite, if_true, if_false, and_self, and_true, true_and, or_false, false_or, not_true_eq_false, not_false_eq_true, ite_self, ↓reduceIte, e]
    rw [aK_x (k := 3) (t := 13) (by decide +kernel) rfl]
    simp only [r_L_bestDay_0, r_L_bestDay_1, r_L_bestDay_2, r_L_bestDay_3, r_L_bestDay_4, r_L_bestDay_7, r_L_bestDay_8, r_L_bestDay_9, r_L_bestDay_13, r_L_bestDay_14, r_L_bestDay_15, r_L_bestDay_16]
theorem w_ifPassed {kd : Nat → Nat} {o : Nat × Nat × aSt} {v1 v2 : Int32} (z0 : Z.1 0 = 10) (z1 : Z.1 152 = 1) (z2 : Z.2.1 152 = 1) (h : CR Z L c N kd (ex 82 0 [some (.ref 0), some (.int v1), some (.int v2)] [] (Z, iN N, L, c)) o) (hk : o.1 = 0 ∨ (o.1 = 1 ∧ kd 1 = 0) ∨ (o.1 = 2 ∧ kd 2 = 1)) :
    WR Z L c N (ex 210 0 [some (.ref 0), some (.int v1), some (.int v2), some (.ref 152), none] [] (Z, iN N, L, c)) o := by
  obtain ⟨k, v, S'⟩ := o
  obtain ⟨N1, e, h1, h2⟩ := h
  dsimp only at e h1 hk
  rcases hk with rfl | ⟨rfl, hk⟩ | ⟨rfl, hk⟩
  · rw [if_pos rfl] at e
    refine ⟨N1, up2 L 152 0 (nI v).toInt64, c, ?_, h1, h2, fun _ => up2_e ⟨rfl, rfl⟩, Or.inl rfl, fun a ha => (by funext j; exact up2_o (by omega))⟩
    simp (disch := omega) only [r_L_ifPassed_0, r_L_ifPassed_1, r_L_ifPassed_2, r_L_ifPassed_3, r_L_ifPassed_4, r_L_ifPassed_5, r_L_ifPassed_8, r_L_ifPassed_9, r_L_ifPassed_10, r_L_ifPassed_15, r_L_ifPassed_16, r_L_ifPassed_19, r_L_ifPassed_20, r_L_ifPassed_21, r_L_ifPassed_22, z0, z1, z2, up2_o, up2_e, iN_ap, iN_up, i_ix, i_inb, i_lt, i_lt0, i_0lt, i_eq, i_ne0, i_00, i_11, i_01, i_10, i_b, i_rem2, n_rem, i_add, i_mul, i_sub, i_div, i_max, i_min, rdk_0, rdk_3, kp_none, kp_int, kp_ref, kp_long, kp_double, aK_v, aK_0, aK_ite, if_true, if_false, and_self, and_true, true_and, or_false, false_or, not_true_eq_false, not_false_eq_true, ite_self, ↓reduceIte, e]
  · rw [if_neg (by omega), hk] at e
    refine ⟨N1, L, bc c, ?_, h1, h2, fun z => absurd z (by dsimp only; omega), Or.inr rfl, fun _ _ => rfl⟩
    simp (disch := omega) only [r_L_ifPassed_0, r_L_ifPassed_1, r_L_ifPassed_2, r_L_ifPassed_3, r_L_ifPassed_4, r_L_ifPassed_5, r_L_ifPassed_8, r_L_ifPassed_9, r_L_ifPassed_10, r_L_ifPassed_15, r_L_ifPassed_16, r_L_ifPassed_19, r_L_ifPassed_20, r_L_ifPassed_21, r_L_ifPassed_22, z0, up2_o, up2_e, iN_ap, iN_up, i_ix, i_inb, i_lt, i_lt0, i_0lt, i_eq, i_ne0, i_00, i_11, i_01, i_10, i_b, i_rem2, n_rem, i_add, i_mul, i_sub, i_div, i_max, i_min, rdk_0, rdk_3, kp_none, kp_int, kp_ref, kp_long, kp_double, aK_v, aK_0, aK_ite, if_true, if_false, and_self, and_true, true_and, or_false, false_or, not_true_eq_false, not_false_eq_true, ite_self, ↓reduceIte, e]
    rw [aK_x (k := 4) (t := 15) (by decide +kernel) rfl]
    simp only [r_L_ifPassed_0, r_L_ifPassed_1, r_L_ifPassed_2, r_L_ifPassed_3, r_L_ifPassed_4, r_L_ifPassed_5, r_L_ifPassed_8, r_L_ifPassed_9, r_L_ifPassed_10, r_L_ifPassed_15, r_L_ifPassed_16, r_L_ifPassed_19, r_L_ifPassed_20, r_L_ifPassed_21, r_L_ifPassed_22]
  · rw [if_neg (by omega), hk] at e
    refine ⟨N1, L, bc c, ?_, h1, h2, fun z => absurd z (by dsimp only; omega), Or.inr rfl, fun _ _ => rfl⟩
    simp (disch := omega) only [r_L_ifPassed_0, r_L_ifPassed_1, r_L_ifPassed_2, r_L_ifPassed_3, r_L_ifPassed_4, r_L_ifPassed_5, r_L_ifPassed_8, r_L_ifPassed_9, r_L_ifPassed_10, r_L_ifPassed_15, r_L_ifPassed_16, r_L_ifPassed_19, r_L_ifPassed_20, r_L_ifPassed_21, r_L_ifPassed_22, z0, up2_o, up2_e, iN_ap, iN_up, i_ix, i_inb, i_lt, i_lt0, i_0lt, i_eq, i_ne0, i_00, i_11, i_01, i_10, i_b, i_rem2, n_rem, i_add, i_mul, i_sub, i_div, i_max, i_min, rdk_0, rdk_3, kp_none, kp_int, kp_ref, kp_long, kp_double, aK_v, aK_0, aK_ite, if_true, if_false, and_self, and_true, true_and, or_false, false_or, not_true_eq_false, not_false_eq_true, ite_self, ↓reduceIte, e]
    rw [aK_x (k := 4) (t := 19) (by decide +kernel) rfl]
    simp only [r_L_ifPassed_0, r_L_ifPassed_1, r_L_ifPassed_2, r_L_ifPassed_3, r_L_ifPassed_4, r_L_ifPassed_5, r_L_ifPassed_8, r_L_ifPassed_9, r_L_ifPassed_10, r_L_ifPassed_15, r_L_ifPassed_16, r_L_ifPassed_19, r_L_ifPassed_20, r_L_ifPassed_21, r_L_ifPassed_22]
end Wr
theorem bd_book {S : aSt} {x1 x2 : Nat} : (oBook S x1 x2).1 ≤ 3 := by
  unfold oBook
  repeat' split
  all_goals first | exact Nat.zero_le _ | (show 1 ≤ 3; omega) | (show 2 ≤ 3; omega) | (show 3 ≤ 3; omega)
theorem bd_unbook {S : aSt} {x1 : Nat} : (oUnb S x1).1 ≤ 2 := by
  unfold oUnb
  repeat' split
  all_goals first | exact Nat.zero_le _ | (show 1 ≤ 2; omega) | (show 2 ≤ 2; omega) | (show 3 ≤ 2; omega)
theorem bd_set {S : aSt} {x1 x2 : Nat} : (oSet S x1 x2).1 ≤ 2 := by
  unfold oSet
  repeat' split
  all_goals first | exact Nat.zero_le _ | (show 1 ≤ 2; omega) | (show 2 ≤ 2; omega) | (show 3 ≤ 2; omega)
theorem bd_pass {S : aSt} {x1 : Nat} : (oPass S x1).1 ≤ 2 := by
  unfold oPass
  repeat' split
  all_goals first | exact Nat.zero_le _ | (show 1 ≤ 2; omega) | (show 2 ≤ 2; omega) | (show 3 ≤ 2; omega)
theorem bd_inspect {S : aSt} {x1 x2 x3 x4 : Nat} : (oIns S x1 x2 x3 x4).1 ≤ 3 := by
  unfold oIns
  repeat' split
  all_goals first | exact Nat.zero_le _ | (show 1 ≤ 3; omega) | (show 2 ≤ 3; omega) | (show 3 ≤ 3; omega)
theorem bd_fix {S : aSt} {x1 x2 x3 x4 : Nat} : (oFix S x1 x2 x3 x4).1 ≤ 2 := by
  unfold oFix
  repeat' split
  all_goals first | exact Nat.zero_le _ | (show 1 ≤ 2; omega) | (show 2 ≤ 2; omega) | (show 3 ≤ 2; omega)
theorem bd_claim {S : aSt} {x1 x2 x3 x4 x5 : Nat} : (oClm S x1 x2 x3 x4 x5).1 ≤ 3 := by
  unfold oClm
  repeat' split
  all_goals first | exact Nat.zero_le _ | (show 1 ≤ 3; omega) | (show 2 ≤ 3; omega) | (show 3 ≤ 3; omega)
theorem bd_release {S : aSt} {x1 x2 : Nat} : (oRel S x1 x2).1 ≤ 2 := by
  unfold oRel
  repeat' split
  all_goals first | exact Nat.zero_le _ | (show 1 ≤ 2; omega) | (show 2 ≤ 2; omega) | (show 3 ≤ 2; omega)
theorem bd_append {S : aSt} {x1 : Nat} : (oApp S x1).1 ≤ 2 := by
  unfold oApp
  repeat' split
  all_goals first | exact Nat.zero_le _ | (show 1 ≤ 2; omega) | (show 2 ≤ 2; omega) | (show 3 ≤ 2; omega)
theorem bd_addHouse {S : aSt} : (oAdd S ).1 ≤ 2 := by
  unfold oAdd
  repeat' split
  all_goals first | exact Nat.zero_le _ | (show 1 ≤ 2; omega) | (show 2 ≤ 2; omega) | (show 3 ≤ 2; omega)
theorem bd_setWinds {S : aSt} : (oWnd S ).1 ≤ 2 := by
  unfold oWnd
  repeat' split
  all_goals first | exact Nat.zero_le _ | (show 1 ≤ 2; omega) | (show 2 ≤ 2; omega) | (show 3 ≤ 2; omega)
theorem bd_undo {S : aSt} : (oUndo S ).1 ≤ 1 := by
  unfold oUndo
  repeat' split
  all_goals first | exact Nat.zero_le _ | (show 1 ≤ 1; omega) | (show 2 ≤ 1; omega) | (show 3 ≤ 1; omega)
theorem bd_house {S : aSt} {x1 x2 : Nat} : (oHou S x1 x2).1 ≤ 2 := by
  unfold oHou
  repeat' split
  all_goals first | exact Nat.zero_le _ | (show 1 ≤ 2; omega) | (show 2 ≤ 2; omega) | (show 3 ≤ 2; omega)
theorem bd_module {S : aSt} {x1 x2 x3 : Nat} : (oMod S x1 x2 x3).1 ≤ 2 := by
  unfold oMod
  repeat' split
  all_goals first | exact Nat.zero_le _ | (show 1 ≤ 2; omega) | (show 2 ≤ 2; omega) | (show 3 ≤ 2; omega)
theorem bd_share {S : aSt} {x1 x2 x3 x4 : Nat} : (oShr S x1 x2 x3 x4).1 ≤ 2 := by
  unfold oShr
  repeat' split
  all_goals first | exact Nat.zero_le _ | (show 1 ≤ 2; omega) | (show 2 ≤ 2; omega) | (show 3 ≤ 2; omega)
theorem bd_trade {S : aSt} {x1 x2 : Nat} : (oTrd S x1 x2).1 ≤ 2 := by
  unfold oTrd
  repeat' split
  all_goals first | exact Nat.zero_le _ | (show 1 ≤ 2; omega) | (show 2 ≤ 2; omega) | (show 3 ≤ 2; omega)
theorem bd_day {S : aSt} {x1 x2 : Nat} : (oDay S x1 x2).1 ≤ 1 := by
  unfold oDay
  repeat' split
  all_goals first | exact Nat.zero_le _ | (show 1 ≤ 1; omega) | (show 2 ≤ 1; omega) | (show 3 ≤ 1; omega)
theorem bd_count {S : aSt} {x1 : Nat} : (oCnt S x1).1 ≤ 1 := by
  unfold oCnt
  repeat' split
  all_goals first | exact Nat.zero_le _ | (show 1 ≤ 1; omega) | (show 2 ≤ 1; omega) | (show 3 ≤ 1; omega)
theorem bd_setting {S : aSt} {x1 : Nat} : (oStg S x1).1 ≤ 1 := by
  unfold oStg
  repeat' split
  all_goals first | exact Nat.zero_le _ | (show 1 ≤ 1; omega) | (show 2 ≤ 1; omega) | (show 3 ≤ 1; omega)
theorem bd_bestDay {S : aSt} {x1 : Nat} : (oBst S x1).1 ≤ 1 := by
  unfold oBst
  repeat' split
  all_goals first | exact Nat.zero_le _ | (show 1 ≤ 1; omega) | (show 2 ≤ 1; omega) | (show 3 ≤ 1; omega)
theorem bd_ifPassed {S : aSt} {x1 x2 : Nat} : (oIfp S x1 x2).1 ≤ 2 := by
  unfold oIfp
  repeat' split
  all_goals first | exact Nat.zero_le _ | (show 1 ≤ 2; omega) | (show 2 ≤ 2; omega) | (show 3 ≤ 2; omega)
theorem g3_house {S : aSt} {x1 x2 : Nat} : (oHou S x1 x2).2.2 = S := by
  unfold oHou
  repeat' split
  all_goals rfl
theorem g3_module {S : aSt} {x1 x2 x3 : Nat} : (oMod S x1 x2 x3).2.2 = S := by
  unfold oMod
  repeat' split
  all_goals rfl
theorem g3_share {S : aSt} {x1 x2 x3 x4 : Nat} : (oShr S x1 x2 x3 x4).2.2 = S := by
  unfold oShr
  repeat' split
  all_goals rfl
theorem g3_trade {S : aSt} {x1 x2 : Nat} : (oTrd S x1 x2).2.2 = S := by
  unfold oTrd
  repeat' split
  all_goals rfl
theorem g3_day {S : aSt} {x1 x2 : Nat} : (oDay S x1 x2).2.2 = S := by
  unfold oDay
  repeat' split
  all_goals rfl
theorem g3_count {S : aSt} {x1 : Nat} : (oCnt S x1).2.2 = S := by
  unfold oCnt
  repeat' split
  all_goals rfl
theorem g3_setting {S : aSt} {x1 : Nat} : (oStg S x1).2.2 = S := by
  unfold oStg
  repeat' split
  all_goals rfl
theorem g3_bestDay {S : aSt} {x1 : Nat} : (oBst S x1).2.2 = S := by
  unfold oBst
  repeat' split
  all_goals rfl
theorem g3_ifPassed {S : aSt} {x1 x2 : Nat} : (oIfp S x1 x2).2.2 = S := by
  unfold oIfp
  repeat' split
  all_goals rfl
