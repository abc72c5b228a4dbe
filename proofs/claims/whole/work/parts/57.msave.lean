/-! the reference: the whole of what it holds; saved states -/
def MS (z : Nat → Nat) (R : aY) (q : List Nat) (g : Nat) : Prop := ∃ B o, MZ z R B o ∧ BK q B o ∧ o ≤ g
def MV (N : Nat → Nat → Nat) (R : aY) (q : List Nat) (sv : List (aY × List Nat)) (tx : List Nat) (g : Nat) : Prop :=
  MS (N 145) R q g ∧ N 144 9 = sv.length ∧ (∀ k s, sv[k]? = some s → MS (fun i => N 147 (667 * k + i)) s.1 s.2 g) ∧ N 144 10 = tx.length ∧ AtL (N 148) tx
def push (sv : List (aY × List Nat)) (s : aY × List Nat) : List (aY × List Nat) := (if sv.length = 6 then sv.drop 1 else sv) ++ [s]
theorem push_len {sv : List (aY × List Nat)} {s : aY × List Nat} (h : sv.length ≤ 6) : (push sv s).length = (if sv.length = 6 then 5 else sv.length) + 1 ∧ (push sv s).length ≤ 6 := by
  unfold push
  split
  · rename_i e
    rw [List.length_append, List.length_drop, e]
    exact ⟨rfl, by simp⟩
  · rw [List.length_append]
    exact ⟨rfl, by simp; omega⟩
theorem push_get {sv : List (aY × List Nat)} {s s' : aY × List Nat} (h : sv.length ≤ 6) {k : Nat} (hk : (push sv s)[k]? = some s') : (k = (if sv.length = 6 then 5 else sv.length) ∧ s' = s) ∨ (k < (if sv.length = 6 then 5 else sv.length) ∧ sv[if sv.length = 6 then k + 1 else k]? = some s') := by
  unfold push at hk
  by_cases e : sv.length = 6
  · rw [if_pos e] at hk ⊢
    rw [if_pos e]
    have hl : (sv.drop 1).length = 5 := by rw [List.length_drop, e]
    rcases Nat.lt_trichotomy k 5 with z | z | z
    · rw [List.getElem?_append_left (by omega), List.getElem?_drop, Nat.add_comm] at hk
      exact Or.inr ⟨z, hk⟩
    · rw [List.getElem?_append_right (by omega), hl, z] at hk
      exact Or.inl ⟨z, (Option.some.inj hk).symm⟩
    · rw [List.getElem?_eq_none (by simp; omega)] at hk
      cases hk
  · rw [if_neg e] at hk ⊢
    rw [if_neg e]
    rcases Nat.lt_trichotomy k sv.length with z | z | z
    · rw [List.getElem?_append_left z] at hk
      exact Or.inr ⟨z, hk⟩
    · rw [List.getElem?_append_right (by omega), z, Nat.sub_self] at hk
      exact Or.inl ⟨z, (Option.some.inj hk).symm⟩
    · rw [List.getElem?_eq_none (by simp; omega)] at hk
      cases hk
theorem MS_congr {z z' : Nat → Nat} {R : aY} {q : List Nat} {g : Nat} (h : MS z R q g) (he : ∀ i, i < 667 → z' i = z i) : MS z' R q g := by
  obtain ⟨B, o, h1, h2⟩ := h
  exact ⟨B, o, MZ_congr h1 he, h2⟩
theorem MS_le {z : Nat → Nat} {R : aY} {q : List Nat} {g g' : Nat} (h : MS z R q g) (hg : g ≤ g') : MS z R q g' := by
  obtain ⟨B, o, h1, h2, h3⟩ := h
  exact ⟨B, o, h1, h2, by omega⟩
theorem MV_up {N N' : Nat → Nat → Nat} {R R' : aY} {q q' : List Nat} {sv : List (aY × List Nat)} {tx : List Nat} {g g' : Nat} (h : MV N R q sv tx g) (hs : MS (N' 145) R' q' g') (hg : g ≤ g') (h9 : N' 144 9 = N 144 9) (h10 : N' 144 10 = N 144 10) (h147 : N' 147 = N 147) (h148 : N' 148 = N 148) : MV N' R' q' sv tx g' := by
  obtain ⟨a, b, c, d, e⟩ := h
  exact ⟨hs, by rw [h9]; exact b, fun k s hk => by rw [h147]; exact MS_le (c k s hk) hg, by rw [h10]; exact d, by rw [h148]; exact e⟩
theorem MV_thr {N : Nat → Nat → Nat} {R : aY} {q : List Nat} {sv : List (aY × List Nat)} {tx : List Nat} {g j v : Nat} (h : MV N R q sv tx g) (hj : j ≠ 9 ∧ j ≠ 10) : MV (up2 N 144 j v) R q sv tx g := by
  have e : ∀ a, a ≠ 144 → up2 N 144 j v a = N a := fun a ha => by
    funext i
    exact up2_o (by omega)
  exact MV_up h (by rw [e 145 (by omega)]; exact h.1) (Nat.le_refl _) (up2_o (by omega)) (up2_o (by omega)) (e _ (by omega)) (e _ (by omega))
section Ms
variable {Z : aZ} {N : Nat → Nat → Nat} {L : Nat → Nat → Int64} {c : Nat × Nat}
theorem s_mSave_sh (hM : MAt Z) : ∀ (n k : Nat) (N : Nat → Nat → Nat), k + n = 3335 →
    ∃ N', ex 111 11 [some (.ref 144), some (.int (nI k))] [] (Z, iN N, L, c) = ex 111 40 [some (.ref 144), some (.int (nI 3335))] [] (Z, iN N', L, c) ∧ (∀ j, k ≤ j → j < 3335 → N' 147 j = N 147 (667 + j)) ∧ (∀ j, j < k → N' 147 j = N 147 j) ∧ ∀ a, a ≠ 147 → N' a = N a
  | 0, k, N, h => by
    have e : k = 3335 := by omega
    subst e
    refine ⟨N, ?_, fun j h1 h2 => by omega, fun _ _ => rfl, fun _ _ => rfl⟩
    rw [r_X8_save_11]
    simp (disch := omega) only [r_X8_save_12, r_X8_save_15, r_X8_save_18, r_X8_save_19, r_X8_save_22, r_X8_save_23, r_X8_save_24, r_X8_save_27, r_X8_save_30, r_X8_save_31, r_X8_save_32, r_X8_save_33, r_X8_save_34, r_X8_save_37, up2_o, up2_e, iN_ap, iN_up, i_ix, i_inb, i_lt, i_lt0, i_0lt, i_eq, i_ne0, i_00, i_11, i_01, i_10, i_b, i_rem2, n_rem, i_add, i_mul, i_sub, i_div, i_max, i_min, rdk_0, rdk_3, kp_none, kp_int, kp_ref, kp_long, kp_double, aK_v, aK_0, aK_ite, if_true, if_false, and_self, and_true, true_and, or_false, false_or, not_true_eq_false, not_false_eq_true, ite_self, ↓reduceIte, Nat.lt_irrefl]
  | n + 1, k, N, h => by
    have e : k < 3335 := by omega
    obtain ⟨N', h1, h2, h3, h4⟩ := s_mSave_sh hM n (k + 1) (up2 N 147 k (N 147 (667 + k))) (by omega)
    refine ⟨N', ?_, fun j a b => ?_, fun j a => ?_, fun a ha => ?_⟩
    · rw [r_X8_save_11]
      simp (disch := omega) only [r_X8_save_12, r_X8_save_15, r_X8_save_18, r_X8_save_19, r_X8_save_22, r_X8_save_23, r_X8_save_24, r_X8_save_27, r_X8_save_30, r_X8_save_31, r_X8_save_32, r_X8_save_33, r_X8_save_34, r_X8_save_37, hM.1.1, @id (Z.2.2.1 144 0 = .ref 145) hM.1.2.1, @id (Z.2.2.1 144 1 = .ref 146) hM.1.2.2.1, @id (Z.2.2.1 144 2 = .ref 147) hM.1.2.2.2.1, @id (Z.2.2.1 144 3 = .ref 148) hM.1.2.2.2.2.1, @id (Z.2.2.1 144 4 = .ref 149) hM.1.2.2.2.2.2.1, @id (Z.2.2.1 144 5 = .ref 150) hM.1.2.2.2.2.2.2.1, @id (Z.2.2.1 144 6 = .ref 151) hM.1.2.2.2.2.2.2.2, @id (Z.1 145 = 0) hM.2.1.1, @id (Z.1 146 = 0) hM.2.1.2.1, @id (Z.1 147 = 0) hM.2.1.2.2.1, @id (Z.1 148 = 0) hM.2.1.2.2.2.1, @id (Z.1 149 = 0) hM.2.1.2.2.2.2.1, @id (Z.1 150 = 0) hM.2.1.2.2.2.2.2.1, @id (Z.1 151 = 0) hM.2.1.2.2.2.2.2.2, @id (Z.2.1 145 = 667) hM.2.2.1, @id (Z.2.1 146 = 667) hM.2.2.2.1, @id (Z.2.1 147 = 4002) hM.2.2.2.2.1, @id (Z.2.1 148 = 60) hM.2.2.2.2.2.1, @id (Z.2.1 149 = 32) hM.2.2.2.2.2.2.1, @id (Z.2.1 150 = 32) hM.2.2.2.2.2.2.2.1, @id (Z.2.1 151 = 36) hM.2.2.2.2.2.2.2.2, up2_o, up2_e, iN_ap, iN_up, i_ix, i_inb, i_lt, i_lt0, i_0lt, i_eq, i_ne0, i_00, i_11, i_01, i_10, i_b, i_rem2, n_rem, i_add, i_mul, i_sub, i_div, i_max, i_min, rdk_0, rdk_3, kp_none, kp_int, kp_ref, kp_long, kp_double, aK_v, aK_0, aK_ite, if_true, if_false, and_self, and_true, true_and, or_false, false_or, not_true_eq_false, not_false_eq_true, ite_self, ↓reduceIte, e, h1]
    · by_cases z : j = k
      · rw [z, h3 k (by omega), up2_e ⟨rfl, rfl⟩]
      · rw [h2 j (by omega) b, up2_o (by omega)]
    · rw [h3 j (by omega), up2_o (by omega)]
    · rw [h4 a ha]
      funext j
      exact up2_o (by omega)
theorem s_mSave_cp {s : Nat} (hM : MAt Z) (hs : s ≤ 5) : ∀ (n k : Nat) (N : Nat → Nat → Nat), k + n = 667 → N 144 9 = s →
    ∃ N', ex 111 52 [some (.ref 144), some (.int (nI k))] [] (Z, iN N, L, c) = ex 111 86 [some (.ref 144), some (.int (nI 667))] [] (Z, iN N', L, c) ∧ (∀ j, k ≤ j → j < 667 → N' 147 (667 * s + j) = N 145 j) ∧ (∀ j, j < 667 * s + k → N' 147 j = N 147 j) ∧ ∀ a, a ≠ 147 → N' a = N a
  | 0, k, N, h, h9 => by
    have e : k = 667 := by omega
    subst e
    refine ⟨N, ?_, fun j h1 h2 => by omega, fun _ _ => rfl, fun _ _ => rfl⟩
    rw [r_X8_save_52]
    simp (disch := omega) only [r_X8_save_53, r_X8_save_56, r_X8_save_59, r_X8_save_60, r_X8_save_63, r_X8_save_66, r_X8_save_67, r_X8_save_70, r_X8_save_71, r_X8_save_72, r_X8_save_73, r_X8_save_74, r_X8_save_77, r_X8_save_78, r_X8_save_79, r_X8_save_80, r_X8_save_83, up2_o, up2_e, iN_ap, iN_up, i_ix, i_inb, i_lt, i_lt0, i_0lt, i_eq, i_ne0, i_00, i_11, i_01, i_10, i_b, i_rem2, n_rem, i_add, i_mul, i_sub, i_div, i_max, i_min, rdk_0, rdk_3, kp_none, kp_int, kp_ref, kp_long, kp_double, aK_v, aK_0, aK_ite, if_true, if_false, and_self, and_true, true_and, or_false, false_or, not_true_eq_false, not_false_eq_true, ite_self, ↓reduceIte, Nat.lt_irrefl]
  | n + 1, k, N, h, h9 => by
    have e : k < 667 := by omega
    obtain ⟨N', h1, h2, h3, h4⟩ := s_mSave_cp hM hs n (k + 1) (up2 N 147 (667 * s + k) (N 145 k)) (by omega) (by rw [up2_o (by omega)]; exact h9)
    refine ⟨N', ?_, fun j a b => ?_, fun j a => ?_, fun a ha => ?_⟩
    · rw [r_X8_save_52]
      simp (disch := omega) only [r_X8_save_53, r_X8_save_56, r_X8_save_59, r_X8_save_60, r_X8_save_63, r_X8_save_66, r_X8_save_67, r_X8_save_70, r_X8_save_71, r_X8_save_72, r_X8_save_73, r_X8_save_74, r_X8_save_77, r_X8_save_78, r_X8_save_79, r_X8_save_80, r_X8_save_83, hM.1.1, @id (Z.2.2.1 144 0 = .ref 145) hM.1.2.1, @id (Z.2.2.1 144 1 = .ref 146) hM.1.2.2.1, @id (Z.2.2.1 144 2 = .ref 147) hM.1.2.2.2.1, @id (Z.2.2.1 144 3 = .ref 148) hM.1.2.2.2.2.1, @id (Z.2.2.1 144 4 = .ref 149) hM.1.2.2.2.2.2.1, @id (Z.2.2.1 144 5 = .ref 150) hM.1.2.2.2.2.2.2.1, @id (Z.2.2.1 144 6 = .ref 151) hM.1.2.2.2.2.2.2.2, @id (Z.1 145 = 0) hM.2.1.1, @id (Z.1 146 = 0) hM.2.1.2.1, @id (Z.1 147 = 0) hM.2.1.2.2.1, @id (Z.1 148 = 0) hM.2.1.2.2.2.1, @id (Z.1 149 = 0) hM.2.1.2.2.2.2.1, @id (Z.1 150 = 0) hM.2.1.2.2.2.2.2.1, @id (Z.1 151 = 0) hM.2.1.2.2.2.2.2.2, @id (Z.2.1 145 = 667) hM.2.2.1, @id (Z.2.1 146 = 667) hM.2.2.2.1, @id (Z.2.1 147 = 4002) hM.2.2.2.2.1, @id (Z.2.1 148 = 60) hM.2.2.2.2.2.1, @id (Z.2.1 149 = 32) hM.2.2.2.2.2.2.1, @id (Z.2.1 150 = 32) hM.2.2.2.2.2.2.2.1, @id (Z.2.1 151 = 36) hM.2.2.2.2.2.2.2.2, up2_o, up2_e, iN_ap, iN_up, i_ix, i_inb, i_lt, i_lt0, i_0lt, i_eq, i_ne0, i_00, i_11, i_01, i_10, i_b, i_rem2, n_rem, i_add, i_mul, i_sub, i_div, i_max, i_min, rdk_0, rdk_3, kp_none, kp_int, kp_ref, kp_long, kp_double, aK_v, aK_0, aK_ite, if_true, if_false, and_self, and_true, true_and, or_false, false_or, not_true_eq_false, not_false_eq_true, ite_self, ↓reduceIte, e, h9, h1]
    · by_cases z : j = k
      · rw [z, h3 _ (by omega), up2_e ⟨rfl, rfl⟩]
      · rw [h2 j (by omega) b, up2_o (by omega)]
    · rw [h3 j (by omega), up2_o (by omega)]
    · rw [h4 a ha]
      funext j
      exact up2_o (by omega)
theorem s_mSave {R : aY} {q : List Nat} {sv : List (aY × List Nat)} {tx : List Nat} {g : Nat} (hM : MAt Z) (h : MV N R q sv tx g) (h6 : sv.length ≤ 6) :
    ∃ N', ex 111 0 [some (.ref 144), none] [] (Z, iN N, L, c) = some (.inl none, (Z, iN N', L, c)) ∧ MV N' R q (push sv (R, q)) tx g ∧ (∀ j, j ≠ 9 → N' 144 j = N 144 j) ∧ ∀ a, a ≠ 144 → a ≠ 147 → N' a = N a := by
  obtain ⟨a, b, c1, d, e⟩ := id h
  have hpl := push_len (s := (R, q)) h6
  by_cases q6 : sv.length = 6
  · obtain ⟨N1, s1, s2, s3, s4⟩ := s_mSave_sh (L := L) (c := c) hM 3335 0 N rfl
    have h9 : N1 144 9 = 6 := by rw [s4 144 (by omega), b, q6]
    obtain ⟨N2, p1, p2, p3, p4⟩ := s_mSave_cp (L := L) (c := c) hM (show 5 ≤ 5 by omega) 667 0 (up2 N1 144 9 5) rfl (up2_e ⟨rfl, rfl⟩)
    have o1 : ∀ a, a ≠ 144 → up2 N1 144 9 5 a = N1 a := fun a ha => by
      funext i
      exact up2_o (by omega)
    have h29 : N2 144 9 = 5 := by rw [p4 144 (by omega)]; exact up2_e ⟨rfl, rfl⟩
    refine ⟨up2 N2 144 9 6, ?_, ⟨?_, ?_, fun k s' hk => ?_, ?_, ?_⟩, fun j hj => ?_, fun a h1 h2 => ?_⟩
    · simp (disch := omega) only [r_X8_save_0, r_X8_save_1, r_X8_save_4, r_X8_save_6, r_X8_save_9, r_X8_save_10, hM.1.1, @id (Z.2.2.1 144 0 = .ref 145) hM.1.2.1, @id (Z.2.2.1 144 1 = .ref 146) hM.1.2.2.1, @id (Z.2.2.1 144 2 = .ref 147) hM.1.2.2.2.1, @id (Z.2.2.1 144 3 = .ref 148) hM.1.2.2.2.2.1, @id (Z.2.2.1 144 4 = .ref 149) hM.1.2.2.2.2.2.1, @id (Z.2.2.1 144 5 = .ref 150) hM.1.2.2.2.2.2.2.1, @id (Z.2.2.1 144 6 = .ref 151) hM.1.2.2.2.2.2.2.2, @id (Z.1 145 = 0) hM.2.1.1, @id (Z.1 146 = 0) hM.2.1.2.1, @id (Z.1 147 = 0) hM.2.1.2.2.1, @id (Z.1 148 = 0) hM.2.1.2.2.2.1, @id (Z.1 149 = 0) hM.2.1.2.2.2.2.1, @id (Z.1 150 = 0) hM.2.1.2.2.2.2.2.1, @id (Z.1 151 = 0) hM.2.1.2.2.2.2.2.2, @id (Z.2.1 145 = 667) hM.2.2.1, @id (Z.2.1 146 = 667) hM.2.2.2.1, @id (Z.2.1 147 = 4002) hM.2.2.2.2.1, @id (Z.2.1 148 = 60) hM.2.2.2.2.2.1, @id (Z.2.1 149 = 32) hM.2.2.2.2.2.2.1, @id (Z.2.1 150 = 32) hM.2.2.2.2.2.2.2.1, @id (Z.2.1 151 = 36) hM.2.2.2.2.2.2.2.2, up2_o, up2_e, iN_ap, iN_up, i_ix, i_inb, i_lt, i_lt0, i_0lt, i_eq, i_ne0, i_00, i_11, i_01, i_10, i_b, i_rem2, n_rem, i_add, i_mul, i_sub, i_div, i_max, i_min, rdk_0, rdk_3, kp_none, kp_int, kp_ref, kp_long, kp_double, aK_v, aK_0, aK_ite, if_true, if_false, and_self, and_true, true_and, or_false, false_or, not_true_eq_false, not_false_eq_true, ite_self, ↓reduceIte, b, q6, s1]
      simp (disch := omega) only [r_X8_save_40, r_X8_save_41, r_X8_save_42, r_X8_save_45, r_X8_save_46, r_X8_save_47, r_X8_save_50, r_X8_save_51, hM.1.1, @id (Z.2.2.1 144 0 = .ref 145) hM.1.2.1, @id (Z.2.2.1 144 1 = .ref 146) hM.1.2.2.1, @id (Z.2.2.1 144 2 = .ref 147) hM.1.2.2.2.1, @id (Z.2.2.1 144 3 = .ref 148) hM.1.2.2.2.2.1, @id (Z.2.2.1 144 4 = .ref 149) hM.1.2.2.2.2.2.1, @id (Z.2.2.1 144 5 = .ref 150) hM.1.2.2.2.2.2.2.1, @id (Z.2.2.1 144 6 = .ref 151) hM.1.2.2.2.2.2.2.2, @id (Z.1 145 = 0) hM.2.1.1, @id (Z.1 146 = 0) hM.2.1.2.1, @id (Z.1 147 = 0) hM.2.1.2.2.1, @id (Z.1 148 = 0) hM.2.1.2.2.2.1, @id (Z.1 149 = 0) hM.2.1.2.2.2.2.1, @id (Z.1 150 = 0) hM.2.1.2.2.2.2.2.1, @id (Z.1 151 = 0) hM.2.1.2.2.2.2.2.2, @id (Z.2.1 145 = 667) hM.2.2.1, @id (Z.2.1 146 = 667) hM.2.2.2.1, @id (Z.2.1 147 = 4002) hM.2.2.2.2.1, @id (Z.2.1 148 = 60) hM.2.2.2.2.2.1, @id (Z.2.1 149 = 32) hM.2.2.2.2.2.2.1, @id (Z.2.1 150 = 32) hM.2.2.2.2.2.2.2.1, @id (Z.2.1 151 = 36) hM.2.2.2.2.2.2.2.2, up2_o, up2_e, iN_ap, iN_up, i_ix, i_inb, i_lt, i_lt0, i_0lt, i_eq, i_ne0, i_00, i_11, i_01, i_10, i_b, i_rem2, n_rem, i_add, i_mul, i_sub, i_div, i_max, i_min, rdk_0, rdk_3, kp_none, kp_int, kp_ref, kp_long, kp_double, aK_v, aK_0, aK_ite, if_true, if_false, and_self, and_true, true_and, or_false, false_or, not_true_eq_false, not_false_eq_true, ite_self, ↓reduceIte, h9, Nat.reduceSub, p1]
      simp (disch := omega) only [r_X8_save_86, r_X8_save_87, r_X8_save_88, r_X8_save_91, r_X8_save_92, r_X8_save_93, r_X8_save_96, hM.1.1, @id (Z.2.2.1 144 0 = .ref 145) hM.1.2.1, @id (Z.2.2.1 144 1 = .ref 146) hM.1.2.2.1, @id (Z.2.2.1 144 2 = .ref 147) hM.1.2.2.2.1, @id (Z.2.2.1 144 3 = .ref 148) hM.1.2.2.2.2.1, @id (Z.2.2.1 144 4 = .ref 149) hM.1.2.2.2.2.2.1, @id (Z.2.2.1 144 5 = .ref 150) hM.1.2.2.2.2.2.2.1, @id (Z.2.2.1 144 6 = .ref 151) hM.1.2.2.2.2.2.2.2, @id (Z.1 145 = 0) hM.2.1.1, @id (Z.1 146 = 0) hM.2.1.2.1, @id (Z.1 147 = 0) hM.2.1.2.2.1, @id (Z.1 148 = 0) hM.2.1.2.2.2.1, @id (Z.1 149 = 0) hM.2.1.2.2.2.2.1, @id (Z.1 150 = 0) hM.2.1.2.2.2.2.2.1, @id (Z.1 151 = 0) hM.2.1.2.2.2.2.2.2, @id (Z.2.1 145 = 667) hM.2.2.1, @id (Z.2.1 146 = 667) hM.2.2.2.1, @id (Z.2.1 147 = 4002) hM.2.2.2.2.1, @id (Z.2.1 148 = 60) hM.2.2.2.2.2.1, @id (Z.2.1 149 = 32) hM.2.2.2.2.2.2.1, @id (Z.2.1 150 = 32) hM.2.2.2.2.2.2.2.1, @id (Z.2.1 151 = 36) hM.2.2.2.2.2.2.2.2, up2_o, up2_e, iN_ap, iN_up, i_ix, i_inb, i_lt, i_lt0, i_0lt, i_eq, i_ne0, i_00, i_11, i_01, i_10, i_b, i_rem2, n_rem, i_add, i_mul, i_sub, i_div, i_max, i_min, rdk_0, rdk_3, kp_none, kp_int, kp_ref, kp_long, kp_double, aK_v, aK_0, aK_ite, if_true, if_false, and_self, and_true, true_and, or_false, false_or, not_true_eq_false, not_false_eq_true, ite_self, ↓reduceIte, h29]
    · refine MS_congr a (fun i hi => ?_)
      rw [up2_o (by omega), p4 145 (by omega), o1 145 (by omega), s4 145 (by omega)]
    · rw [up2_e ⟨rfl, rfl⟩, hpl.1, if_pos q6]
    · rcases push_get h6 hk with ⟨k1, k2⟩ | ⟨k1, k2⟩
      · rw [if_pos q6] at k1
        rw [k2, k1]
        refine MS_congr a (fun i hi => ?_)
        rw [up2_o (by omega), p2 i (by omega) hi, o1 145 (by omega), s4 145 (by omega)]
      · rw [if_pos q6] at k1 k2
        refine MS_congr (c1 (k + 1) s' k2) (fun i hi => ?_)
        rw [up2_o (by omega), p3 _ (by omega), o1 147 (by omega), s2 _ (by omega) (by omega)]
        congr 1
        omega
    · rw [up2_o (by omega), p4 144 (by omega), up2_o (by omega), s4 144 (by omega)]
      exact d
    · have : up2 N2 144 9 6 148 = N 148 := by
        funext i
        rw [up2_o (by omega), p4 148 (by omega), o1 148 (by omega), s4 148 (by omega)]
      rw [this]
      exact e
    · rw [up2_o (by omega), p4 144 (by omega), up2_o (by omega), s4 144 (by omega)]
    · funext i
      rw [up2_o (by omega), p4 a h2, o1 a h1, s4 a h2]
  · have h9 : N 144 9 ≤ 5 := by omega
    obtain ⟨N2, p1, p2, p3, p4⟩ := s_mSave_cp (L := L) (c := c) hM h9 667 0 N rfl rfl
    have q7 : ¬ N 144 9 = 6 := by omega
    have h29 : N2 144 9 = N 144 9 := by rw [p4 144 (by omega)]
    refine ⟨up2 N2 144 9 (N 144 9 + 1), ?_, ⟨?_, ?_, fun k s' hk => ?_, ?_, ?_⟩, fun j hj => ?_, fun a h1 h2 => ?_⟩
    · simp (disch := omega) only [r_X8_save_0, r_X8_save_1, r_X8_save_4, r_X8_save_6, r_X8_save_50, r_X8_save_51, hM.1.1, @id (Z.2.2.1 144 0 = .ref 145) hM.1.2.1, @id (Z.2.2.1 144 1 = .ref 146) hM.1.2.2.1, @id (Z.2.2.1 144 2 = .ref 147) hM.1.2.2.2.1, @id (Z.2.2.1 144 3 = .ref 148) hM.1.2.2.2.2.1, @id (Z.2.2.1 144 4 = .ref 149) hM.1.2.2.2.2.2.1, @id (Z.2.2.1 144 5 = .ref 150) hM.1.2.2.2.2.2.2.1, @id (Z.2.2.1 144 6 = .ref 151) hM.1.2.2.2.2.2.2.2, @id (Z.1 145 = 0) hM.2.1.1, @id (Z.1 146 = 0) hM.2.1.2.1, @id (Z.1 147 = 0) hM.2.1.2.2.1, @id (Z.1 148 = 0) hM.2.1.2.2.2.1, @id (Z.1 149 = 0) hM.2.1.2.2.2.2.1, @id (Z.1 150 = 0) hM.2.1.2.2.2.2.2.1, @id (Z.1 151 = 0) hM.2.1.2.2.2.2.2.2, @id (Z.2.1 145 = 667) hM.2.2.1, @id (Z.2.1 146 = 667) hM.2.2.2.1, @id (Z.2.1 147 = 4002) hM.2.2.2.2.1, @id (Z.2.1 148 = 60) hM.2.2.2.2.2.1, @id (Z.2.1 149 = 32) hM.2.2.2.2.2.2.1, @id (Z.2.1 150 = 32) hM.2.2.2.2.2.2.2.1, @id (Z.2.1 151 = 36) hM.2.2.2.2.2.2.2.2, up2_o, up2_e, iN_ap, iN_up, i_ix, i_inb, i_lt, i_lt0, i_0lt, i_eq, i_ne0, i_00, i_11, i_01, i_10, i_b, i_rem2, n_rem, i_add, i_mul, i_sub, i_div, i_max, i_min, rdk_0, rdk_3, kp_none, kp_int, kp_ref, kp_long, kp_double, aK_v, aK_0, aK_ite, if_true, if_false, and_self, and_true, true_and, or_false, false_or, not_true_eq_false, not_false_eq_true, ite_self, ↓reduceIte, i_eq, q7, p1]
      simp (disch := omega) only [r_X8_save_86, r_X8_save_87, r_X8_save_88, r_X8_save_91, r_X8_save_92, r_X8_save_93, r_X8_save_96, hM.1.1, @id (Z.2.2.1 144 0 = .ref 145) hM.1.2.1, @id (Z.2.2.1 144 1 = .ref 146) hM.1.2.2.1, @id (Z.2.2.1 144 2 = .ref 147) hM.1.2.2.2.1, @id (Z.2.2.1 144 3 = .ref 148) hM.1.2.2.2.2.1, @id (Z.2.2.1 144 4 = .ref 149) hM.1.2.2.2.2.2.1, @id (Z.2.2.1 144 5 = .ref 150) hM.1.2.2.2.2.2.2.1, @id (Z.2.2.1 144 6 = .ref 151) hM.1.2.2.2.2.2.2.2, @id (Z.1 145 = 0) hM.2.1.1, @id (Z.1 146 = 0) hM.2.1.2.1, @id (Z.1 147 = 0) hM.2.1.2.2.1, @id (Z.1 148 = 0) hM.2.1.2.2.2.1, @id (Z.1 149 = 0) hM.2.1.2.2.2.2.1, @id (Z.1 150 = 0) hM.2.1.2.2.2.2.2.1, @id (Z.1 151 = 0) hM.2.1.2.2.2.2.2.2, @id (Z.2.1 145 = 667) hM.2.2.1, @id (Z.2.1 146 = 667) hM.2.2.2.1, @id (Z.2.1 147 = 4002) hM.2.2.2.2.1, @id (Z.2.1 148 = 60) hM.2.2.2.2.2.1, @id (Z.2.1 149 = 32) hM.2.2.2.2.2.2.1, @id (Z.2.1 150 = 32) hM.2.2.2.2.2.2.2.1, @id (Z.2.1 151 = 36) hM.2.2.2.2.2.2.2.2, up2_o, up2_e, iN_ap, iN_up, i_ix, i_inb, i_lt, i_lt0, i_0lt, i_eq, i_ne0, i_00, i_11, i_01, i_10, i_b, i_rem2, n_rem, i_add, i_mul, i_sub, i_div, i_max, i_min, rdk_0, rdk_3, kp_none, kp_int, kp_ref, kp_long, kp_double, aK_v, aK_0, aK_ite, if_true, if_false, and_self, and_true, true_and, or_false, false_or, not_true_eq_false, not_false_eq_true, ite_self, ↓reduceIte, h29]
    · refine MS_congr a (fun i hi => ?_)
      rw [up2_o (by omega), p4 145 (by omega)]
    · rw [up2_e ⟨rfl, rfl⟩, hpl.1, if_neg q6, b]
    · rcases push_get h6 hk with ⟨k1, k2⟩ | ⟨k1, k2⟩
      · rw [if_neg q6] at k1
        rw [k2, k1, ← b]
        refine MS_congr a (fun i hi => ?_)
        rw [up2_o (by omega), p2 i (by omega) hi]
      · rw [if_neg q6] at k1 k2
        refine MS_congr (c1 k s' k2) (fun i hi => ?_)
        rw [up2_o (by omega), p3 _ (by omega)]
    · rw [up2_o (by omega), p4 144 (by omega)]
      exact d
    · have : up2 N2 144 9 (N 144 9 + 1) 148 = N 148 := by
        funext i
        rw [up2_o (by omega), p4 148 (by omega)]
      rw [this]
      exact e
    · rw [up2_o (by omega), p4 144 (by omega)]
    · funext i
      rw [up2_o (by omega), p4 a h2]
theorem s_mUndo_cp {s : Nat} (hM : MAt Z) (hs : s ≤ 5) : ∀ (n k : Nat) (N : Nat → Nat → Nat), k + n = 667 → N 144 9 = s →
    ∃ N', ex 153 30 [some (.ref 144), some (.int (nI k))] [] (Z, iN N, L, c) = ex 153 64 [some (.ref 144), some (.int (nI 667))] [] (Z, iN N', L, c) ∧ (∀ j, k ≤ j → j < 667 → N' 145 j = N 147 (667 * s + j)) ∧ (∀ j, j < k → N' 145 j = N 145 j) ∧ ∀ a, a ≠ 145 → N' a = N a
  | 0, k, N, h, h9 => by
    have e : k = 667 := by omega
    subst e
    refine ⟨N, ?_, fun j h1 h2 => by omega, fun _ _ => rfl, fun _ _ => rfl⟩
    rw [r_X8_undo_30]
    simp (disch := omega) only [r_X8_undo_31, r_X8_undo_34, r_X8_undo_37, r_X8_undo_38, r_X8_undo_41, r_X8_undo_42, r_X8_undo_43, r_X8_undo_46, r_X8_undo_49, r_X8_undo_50, r_X8_undo_53, r_X8_undo_54, r_X8_undo_55, r_X8_undo_56, r_X8_undo_57, r_X8_undo_58, r_X8_undo_61, up2_o, up2_e, iN_ap, iN_up, i_ix, i_inb, i_lt, i_lt0, i_0lt, i_eq, i_ne0, i_00, i_11, i_01, i_10, i_b, i_rem2, n_rem, i_add, i_mul, i_sub, i_div, i_max, i_min, rdk_0, rdk_3, kp_none, kp_int, kp_ref, kp_long, kp_double, aK_v, aK_0, aK_ite, if_true, if_false, and_self, and_true, true_and, or_false, false_or, not_true_eq_false, not_false_eq_true, ite_self, ↓reduceIte, Nat.lt_irrefl]
  | n + 1, k, N, h, h9 => by
    have e : k < 667 := by omega
    obtain ⟨N', h1, h2, h3, h4⟩ := s_mUndo_cp hM hs n (k + 1) (up2 N 145 k (N 147 (667 * s + k))) (by omega) (by rw [up2_o (by omega)]; exact h9)
    refine ⟨N', ?_, fun j a b => ?_, fun j a => ?_, fun a ha => ?_⟩
    · rw [r_X8_undo_30]
      simp (disch := omega) only [r_X8_undo_31, r_X8_undo_34, r_X8_undo_37, r_X8_undo_38, r_X8_undo_41, r_X8_undo_42, r_X8_undo_43, r_X8_undo_46, r_X8_undo_49, r_X8_undo_50, r_X8_undo_53, r_X8_undo_54, r_X8_undo_55, r_X8_undo_56, r_X8_undo_57, r_X8_undo_58, r_X8_undo_61, hM.1.1, @id (Z.2.2.1 144 0 = .ref 145) hM.1.2.1, @id (Z.2.2.1 144 1 = .ref 146) hM.1.2.2.1, @id (Z.2.2.1 144 2 = .ref 147) hM.1.2.2.2.1, @id (Z.2.2.1 144 3 = .ref 148) hM.1.2.2.2.2.1, @id (Z.2.2.1 144 4 = .ref 149) hM.1.2.2.2.2.2.1, @id (Z.2.2.1 144 5 = .ref 150) hM.1.2.2.2.2.2.2.1, @id (Z.2.2.1 144 6 = .ref 151) hM.1.2.2.2.2.2.2.2, @id (Z.1 145 = 0) hM.2.1.1, @id (Z.1 146 = 0) hM.2.1.2.1, @id (Z.1 147 = 0) hM.2.1.2.2.1, @id (Z.1 148 = 0) hM.2.1.2.2.2.1, @id (Z.1 149 = 0) hM.2.1.2.2.2.2.1, @id (Z.1 150 = 0) hM.2.1.2.2.2.2.2.1, @id (Z.1 151 = 0) hM.2.1.2.2.2.2.2.2, @id (Z.2.1 145 = 667) hM.2.2.1, @id (Z.2.1 146 = 667) hM.2.2.2.1, @id (Z.2.1 147 = 4002) hM.2.2.2.2.1, @id (Z.2.1 148 = 60) hM.2.2.2.2.2.1, @id (Z.2.1 149 = 32) hM.2.2.2.2.2.2.1, @id (Z.2.1 150 = 32) hM.2.2.2.2.2.2.2.1, @id (Z.2.1 151 = 36) hM.2.2.2.2.2.2.2.2, up2_o, up2_e, iN_ap, iN_up, i_ix, i_inb, i_lt, i_lt0, i_0lt, i_eq, i_ne0, i_00, i_11, i_01, i_10, i_b, i_rem2, n_rem, i_add, i_mul, i_sub, i_div, i_max, i_min, rdk_0, rdk_3, kp_none, kp_int, kp_ref, kp_long, kp_double, aK_v, aK_0, aK_ite, if_true, if_false, and_self, and_true, true_and, or_false, false_or, not_true_eq_false, not_false_eq_true, ite_self, ↓reduceIte, e, h9, h1]
    · by_cases z : j = k
      · rw [z, h3 _ (by omega), up2_e ⟨rfl, rfl⟩]
      · rw [h2 j (by omega) b, up2_o (by omega)]
    · rw [h3 j (by omega), up2_o (by omega)]
    · rw [h4 a ha]
      funext j
      exact up2_o (by omega)
end Ms
