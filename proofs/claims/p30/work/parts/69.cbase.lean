/-! the class: its objects, what they hold -/
def ZC (Z : aZ) : Prop := (Z.1 0 = 10 ∧ Z.2.2.1 0 0 = .ref 1 ∧ Z.2.2.1 0 1 = .ref 17 ∧ Z.2.2.1 0 2 = .ref 33 ∧ Z.2.2.1 0 3 = .ref 131 ∧ Z.2.2.1 0 4 = .ref 136 ∧ Z.2.2.1 0 5 = .ref 138 ∧ Z.2.2.1 0 6 = .ref 141) ∧ YAt Z 1 ∧ YAt Z 17 ∧ VAt Z 33 ∧ SAt Z 131 ∧ TAt Z 136 ∧ RAt Z 138 4 6 ∧ RAt Z 141 8 60 ∧ (Z.1 100001 = 3 ∧ Z.1 100002 = 3 ∧ Z.2.1 100001 = 5 ∧ Z.2.1 100002 = 5)
def VS (N : Nat → Nat → Nat) (sv : List (aY × List Nat)) : Prop := N 33 1 < 6 ∧ N 33 2 = sv.length ∧ ∀ k s, sv[k]? = some s → CY N (35 + 16 * ((N 33 1 + k) % 6)) s.1 s.2
def CI (N : Nat → Nat → Nat) (S : aSt) : Prop := CY N 1 S.1.1 S.1.2 ∧ VS N S.2.1 ∧ (N 136 1 = S.2.2.length ∧ AtL (N 137) S.2.2) ∧ SH N 131 ∧ (∀ i, i < 5 → N 100001 i = stLo i ∧ N 100002 i = stHi i)
def bc (c : Nat × Nat) : Nat × Nat := (c.1 + 1, c.2 + 6)
theorem bmp_e {Z : aZ} {I : Nat → Nat → Int32} {L : Nat → Nat → Int64} {c : Nat × Nat} : bmp (Z, I, L, c) = (Z, I, L, bc c) := rfl
theorem CY_congr {N N' : Nat → Nat → Nat} {y : Nat} {R : aY} {q : List Nat} (h : CY N y R q) (he : ∀ a, y ≤ a → a ≤ y + 15 → N' a = N a) : CY N' y R q := by
  refine ⟨?_, QH_congr h.2 (by rw [he y (by omega) (by omega)]) (fun i => by rw [he (y + 15) (by omega) (by omega)])⟩
  rw [← h.1]
  exact rg_congr (fun k i hk _ => by rw [he (y + k) (by omega) (by omega)])
theorem yW_Len {k i : Nat} (hk : k < 15) (hi : i < yW k) : i < yLen k := by
  rcases (show k = 0 ∨ k = 1 ∨ k = 2 ∨ k = 3 ∨ k = 4 ∨ k = 5 ∨ k = 6 ∨ k = 7 ∨ k = 8 ∨ k = 9 ∨ k = 10 ∨ k = 11 ∨ k = 12 ∨ k = 13 ∨ k = 14 by omega) with rfl | rfl | rfl | rfl | rfl | rfl | rfl | rfl | rfl | rfl | rfl | rfl | rfl | rfl | rfl
  all_goals first | exact hi | (exact Nat.lt_succ_of_lt hi)
theorem CY_cp {N : Nat → Nat → Nat} {o y : Nat} {R : aY} {q : List Nat} (h : CY N o R q) (hq : q.length ≤ 36) : CY (yC N o y 16) y R q := by
  have hy : ∀ k i, k < 16 → i < yLen k → yC N o y 16 (y + k) i = N (o + k) i := fun k i h1 h2 => by
    unfold yC
    rw [if_pos ⟨by omega, by omega, by rw [show y + k - y = k by omega]; exact h2⟩, show y + k - y = k by omega]
  refine ⟨?_, ?_, fun i hi => ?_⟩
  · rw [← h.1]
    funext k i
    show (if i < yW k then yC N o y 16 (y + k) i else 0) = if i < yW k then N (o + k) i else 0
    by_cases e : i < yW k
    · rw [if_pos e, if_pos e]
      have hk : k < 15 := by
        rcases Nat.lt_or_ge k 15 with z | z
        · exact z
        · rw [yW_hi z] at e
          omega
      exact hy k i (by omega) (yW_Len hk e)
    · rw [if_neg e, if_neg e]
  · have := hy 0 3 (by omega) (by decide)
    exact this.trans h.2.1
  · rw [hy 15 i (by omega) (show i < 36 by omega)]
    exact h.2.2 i hi
section Ca
variable {Z : aZ} {N : Nat → Nat → Nat} {L : Nat → Nat → Int64} {c : Nat × Nat}
theorem q_save {S : aSt} (hC : ZC Z) (hI : CI N S) (h6 : S.2.1.length ≤ 6) (hq : S.1.2.length ≤ 36) :
    ∃ N', ex 14 0 [some (.ref 33), some (.ref 1)] [] (Z, iN N, L, c) = some (.inl none, (Z, iN N', L, c)) ∧ VS N' (push S.2.1 S.1) ∧ ∀ a, (a < 33 ∨ 131 ≤ a) → N' a = N a := by
  obtain ⟨⟨R, q⟩, sv, tx⟩ := S
  obtain ⟨i1, ⟨v1, v2, v3⟩, -⟩ := hI
  dsimp only at i1 v1 v2 v3 h6 hq
  obtain ⟨k, hk⟩ : ∃ k, (N 33 1 + N 33 2) % 6 = k := ⟨_, rfl⟩
  have hs := s_save (L := L) (c := c) hC.2.1 hC.2.2.2.1 (by omega) v1 (by omega) hk
  have hcp := CY_cp (y := 35 + 16 * k) i1 hq
  have hpl := (push_len (s := (R, q)) h6).1
  have ho : ∀ a, (a < 35 + 16 * k ∨ 35 + 16 * k + 15 < a) → yC N 1 (35 + 16 * k) 16 a = N a := fun a ha => by
    funext j
    exact yC_o ha
  refine ⟨_, hs, ?_, fun a ha => ?_⟩
  · by_cases q6 : N 33 2 < 6
    · rw [if_pos q6]
      have e1 : up2 (yC N 1 (33 + 2 + 16 * k) 16) 33 2 (N 33 2 + 1) 33 1 = N 33 1 := by
        rw [up2_o (by omega), ho 33 (by omega)]
      refine ⟨by rw [e1]; exact v1, ?_, fun j s hj => ?_⟩
      · rw [up2_e ⟨rfl, rfl⟩, hpl, if_neg (by omega), v2]
      · rw [e1]
        rcases push_get h6 hj with ⟨k1, k2⟩ | ⟨k1, k2⟩
        · rw [if_neg (by omega)] at k1
          rw [k2, k1, ← v2, hk]
          refine CY_congr hcp (fun a h1 h2 => ?_)
          funext i
          exact up2_o (by omega)
        · rw [if_neg (by omega)] at k1 k2
          refine CY_congr (v3 j s k2) (fun a h1 h2 => ?_)
          funext i
          rw [up2_o (by omega), ho a (by omega)]
    · rw [if_neg q6]
      have e1 : up2 (yC N 1 (33 + 2 + 16 * k) 16) 33 1 ((N 33 1 + 1) % 6) 33 1 = (N 33 1 + 1) % 6 := up2_e ⟨rfl, rfl⟩
      refine ⟨by rw [e1]; omega, ?_, fun j s hj => ?_⟩
      · rw [up2_o (by omega), ho 33 (by omega), hpl, if_pos (by omega), v2]
        omega
      · rw [e1]
        rcases push_get h6 hj with ⟨k1, k2⟩ | ⟨k1, k2⟩
        · rw [if_pos (by omega)] at k1
          rw [k2, k1, show ((N 33 1 + 1) % 6 + 5) % 6 = k by omega]
          refine CY_congr hcp (fun a h1 h2 => ?_)
          funext i
          exact up2_o (by omega)
        · rw [if_pos (by omega)] at k1 k2
          rw [show ((N 33 1 + 1) % 6 + j) % 6 = (N 33 1 + (j + 1)) % 6 by omega]
          refine CY_congr (v3 (j + 1) s k2) (fun a h1 h2 => ?_)
          funext i
          rw [up2_o (by omega), ho a (by omega)]
  · split
    · funext i
      rw [up2_o (by omega), ho a (by omega)]
    · funext i
      rw [up2_o (by omega), ho a (by omega)]
theorem q_reqHouse {S : aSt} {h : Nat} (hC : ZC Z) (hI : CI N S) (hw : WF S.1.1 S.1.2) (hh : h < 4294967296) :
    ex 86 0 [some (.ref 0), some (.int (nI h))] [] (Z, iN N, L, c) = if h < S.1.1 0 1 then some (.inl none, (Z, iN N, L, c)) else some (.inr 0, (Z, iN N, L, bc c)) := by
  have e : N 1 1 = S.1.1 0 1 := CY_at0 hI.1 (by omega)
  have h0 := hw.1.1.1
  by_cases q : h < S.1.1 0 1
  · rw [if_pos q]
    simp (disch := omega) only [r_X7_requireHouse_0, r_X7_requireHouse_1, r_X7_requireHouse_4, r_X7_requireHouse_5, r_X7_requireHouse_6, r_X7_requireHouse_9, r_X7_requireHouse_12, r_X7_requireHouse_15, r_X7_requireHouse_26, @id (Z.1 0 = 10) hC.1.1, @id (Z.2.2.1 0 0 = .ref 1) hC.1.2.1, @id (Z.2.2.1 0 1 = .ref 17) hC.1.2.2.1, @id (Z.2.2.1 0 2 = .ref 33) hC.1.2.2.2.1, @id (Z.2.2.1 0 3 = .ref 131) hC.1.2.2.2.2.1, @id (Z.2.2.1 0 4 = .ref 136) hC.1.2.2.2.2.2.1, @id (Z.2.2.1 0 5 = .ref 138) hC.1.2.2.2.2.2.2.1, @id (Z.2.2.1 0 6 = .ref 141) hC.1.2.2.2.2.2.2.2, @id (Z.1 1 = 9) hC.2.1.1, @id (Z.1 17 = 9) hC.2.2.1.1, @id (Z.1 33 = 6) hC.2.2.2.1.1, @id (Z.1 131 = 7) hC.2.2.2.2.1.1, @id (Z.1 136 = 5) hC.2.2.2.2.2.1.1, @id (Z.1 138 = 4) hC.2.2.2.2.2.2.1.1, @id (Z.1 141 = 8) hC.2.2.2.2.2.2.2.1.1, up2_o, up2_e, iN_ap, iN_up, i_ix, i_inb, i_lt, i_lt0, i_0lt, i_eq, i_ne0, i_00, i_11, i_01, i_10, i_b, i_rem2, n_rem, i_add, i_mul, i_sub, i_div, i_max, i_min, rdk_0, rdk_3, kp_none, kp_int, kp_ref, kp_long, kp_double, aK_v, aK_0, aK_ite, if_true, if_false, and_self, and_true, true_and, or_false, false_or, not_true_eq_false, not_false_eq_true, ite_self, ↓reduceIte, e, q]
  · rw [if_neg q]
    by_cases q2 : h < 2147483648
    · simp (disch := omega) only [r_X7_requireHouse_0, r_X7_requireHouse_1, r_X7_requireHouse_4, r_X7_requireHouse_5, r_X7_requireHouse_6, r_X7_requireHouse_9, r_X7_requireHouse_12, r_X7_requireHouse_15, r_X7_requireHouse_26, @id (Z.1 0 = 10) hC.1.1, @id (Z.2.2.1 0 0 = .ref 1) hC.1.2.1, @id (Z.2.2.1 0 1 = .ref 17) hC.1.2.2.1, @id (Z.2.2.1 0 2 = .ref 33) hC.1.2.2.2.1, @id (Z.2.2.1 0 3 = .ref 131) hC.1.2.2.2.2.1, @id (Z.2.2.1 0 4 = .ref 136) hC.1.2.2.2.2.2.1, @id (Z.2.2.1 0 5 = .ref 138) hC.1.2.2.2.2.2.2.1, @id (Z.2.2.1 0 6 = .ref 141) hC.1.2.2.2.2.2.2.2, @id (Z.1 1 = 9) hC.2.1.1, @id (Z.1 17 = 9) hC.2.2.1.1, @id (Z.1 33 = 6) hC.2.2.2.1.1, @id (Z.1 131 = 7) hC.2.2.2.2.1.1, @id (Z.1 136 = 5) hC.2.2.2.2.2.1.1, @id (Z.1 138 = 4) hC.2.2.2.2.2.2.1.1, @id (Z.1 141 = 8) hC.2.2.2.2.2.2.2.1.1, up2_o, up2_e, iN_ap, iN_up, i_ix, i_inb, i_lt, i_lt0, i_0lt, i_eq, i_ne0, i_00, i_11, i_01, i_10, i_b, i_rem2, n_rem, i_add, i_mul, i_sub, i_div, i_max, i_min, rdk_0, rdk_3, kp_none, kp_int, kp_ref, kp_long, kp_double, aK_v, aK_0, aK_ite, if_true, if_false, and_self, and_true, true_and, or_false, false_or, not_true_eq_false, not_false_eq_true, ite_self, ↓reduceIte, e, q, bmp_e]
    · have q3 : nI h < 0 := by
        rw [← nI_0, i_ltU hh (by omega)]
        omega
      simp (disch := omega) only [r_X7_requireHouse_0, r_X7_requireHouse_1, r_X7_requireHouse_4, r_X7_requireHouse_5, r_X7_requireHouse_6, r_X7_requireHouse_9, r_X7_requireHouse_12, r_X7_requireHouse_15, r_X7_requireHouse_26, @id (Z.1 0 = 10) hC.1.1, @id (Z.2.2.1 0 0 = .ref 1) hC.1.2.1, @id (Z.2.2.1 0 1 = .ref 17) hC.1.2.2.1, @id (Z.2.2.1 0 2 = .ref 33) hC.1.2.2.2.1, @id (Z.2.2.1 0 3 = .ref 131) hC.1.2.2.2.2.1, @id (Z.2.2.1 0 4 = .ref 136) hC.1.2.2.2.2.2.1, @id (Z.2.2.1 0 5 = .ref 138) hC.1.2.2.2.2.2.2.1, @id (Z.2.2.1 0 6 = .ref 141) hC.1.2.2.2.2.2.2.2, @id (Z.1 1 = 9) hC.2.1.1, @id (Z.1 17 = 9) hC.2.2.1.1, @id (Z.1 33 = 6) hC.2.2.2.1.1, @id (Z.1 131 = 7) hC.2.2.2.2.1.1, @id (Z.1 136 = 5) hC.2.2.2.2.2.1.1, @id (Z.1 138 = 4) hC.2.2.2.2.2.2.1.1, @id (Z.1 141 = 8) hC.2.2.2.2.2.2.2.1.1, up2_o, up2_e, iN_ap, iN_up, i_ix, i_inb, i_lt, i_lt0, i_0lt, i_eq, i_ne0, i_00, i_11, i_01, i_10, i_b, i_rem2, n_rem, i_add, i_mul, i_sub, i_div, i_max, i_min, rdk_0, rdk_3, kp_none, kp_int, kp_ref, kp_long, kp_double, aK_v, aK_0, aK_ite, if_true, if_false, and_self, and_true, true_and, or_false, false_or, not_true_eq_false, not_false_eq_true, ite_self, ↓reduceIte, q3, bmp_e]
theorem q_reqModule {S : aSt} {h k : Nat} (hC : ZC Z) (hI : CI N S) (hw : WF S.1.1 S.1.2) (hh : h < 4294967296) (hk : k < 4294967296) :
    ex 87 0 [some (.ref 0), some (.int (nI h)), some (.int (nI k))] [] (Z, iN N, L, c) = if h < S.1.1 0 1 ∧ k < S.1.1 3 h then some (.inl none, (Z, iN N, L, c)) else some (.inr 0, (Z, iN N, L, bc c)) := by
  have kh := q_reqHouse (L := L) (c := c) hC hI hw hh
  have h0 := hw.1.1.1
  by_cases q : h < S.1.1 0 1
  · have hh1 := hw.2.1 h (by omega)
    have e : N (1 + 3) h = S.1.1 3 h := CY_at hI.1 3 (n := 6) rfl (by omega)
    rw [if_pos q] at kh
    by_cases q2 : k < S.1.1 3 h
    · rw [if_pos ⟨q, q2⟩]
      simp (disch := omega) only [r_X7_requireModule_0, r_X7_requireModule_1, r_X7_requireModule_2, r_X7_requireModule_5, r_X7_requireModule_6, r_X7_requireModule_9, r_X7_requireModule_10, r_X7_requireModule_11, r_X7_requireModule_14, r_X7_requireModule_17, r_X7_requireModule_18, r_X7_requireModule_19, r_X7_requireModule_22, r_X7_requireModule_33, @id (Z.1 0 = 10) hC.1.1, @id (Z.2.2.1 0 0 = .ref 1) hC.1.2.1, @id (Z.2.2.1 0 1 = .ref 17) hC.1.2.2.1, @id (Z.2.2.1 0 2 = .ref 33) hC.1.2.2.2.1, @id (Z.2.2.1 0 3 = .ref 131) hC.1.2.2.2.2.1, @id (Z.2.2.1 0 4 = .ref 136) hC.1.2.2.2.2.2.1, @id (Z.2.2.1 0 5 = .ref 138) hC.1.2.2.2.2.2.2.1, @id (Z.2.2.1 0 6 = .ref 141) hC.1.2.2.2.2.2.2.2, @id (Z.1 1 = 9) hC.2.1.1, @id (Z.1 17 = 9) hC.2.2.1.1, @id (Z.1 33 = 6) hC.2.2.2.1.1, @id (Z.1 131 = 7) hC.2.2.2.2.1.1, @id (Z.1 136 = 5) hC.2.2.2.2.2.1.1, @id (Z.1 138 = 4) hC.2.2.2.2.2.2.1.1, @id (Z.1 141 = 8) hC.2.2.2.2.2.2.2.1.1, hC.2.1.1, @id (Z.1 (1 + 3) = 0) (yK hC.2.1 3 rfl), @id (Z.2.1 (1 + 3) = 6) (yL hC.2.1 3 rfl), @id (Z.2.2.1 1 6 = .ref (1 + 3)) (yR hC.2.1 3 rfl), up2_o, up2_e, iN_ap, iN_up, i_ix, i_inb, i_lt, i_lt0, i_0lt, i_eq, i_ne0, i_00, i_11, i_01, i_10, i_b, i_rem2, n_rem, i_add, i_mul, i_sub, i_div, i_max, i_min, rdk_0, rdk_3, kp_none, kp_int, kp_ref, kp_long, kp_double, aK_v, aK_0, aK_ite, if_true, if_false, and_self, and_true, true_and, or_false, false_or, not_true_eq_false, not_false_eq_true, ite_self, ↓reduceIte, kh, e, q2]
    · rw [if_neg (fun z => q2 z.2)]
      by_cases q4 : k < 2147483648
      · simp (disch := omega) only [r_X7_requireModule_0, r_X7_requireModule_1, r_X7_requireModule_2, r_X7_requireModule_5, r_X7_requireModule_6, r_X7_requireModule_9, r_X7_requireModule_10, r_X7_requireModule_11, r_X7_requireModule_14, r_X7_requireModule_17, r_X7_requireModule_18, r_X7_requireModule_19, r_X7_requireModule_22, r_X7_requireModule_33, @id (Z.1 0 = 10) hC.1.1, @id (Z.2.2.1 0 0 = .ref 1) hC.1.2.1, @id (Z.2.2.1 0 1 = .ref 17) hC.1.2.2.1, @id (Z.2.2.1 0 2 = .ref 33) hC.1.2.2.2.1, @id (Z.2.2.1 0 3 = .ref 131) hC.1.2.2.2.2.1, @id (Z.2.2.1 0 4 = .ref 136) hC.1.2.2.2.2.2.1, @id (Z.2.2.1 0 5 = .ref 138) hC.1.2.2.2.2.2.2.1, @id (Z.2.2.1 0 6 = .ref 141) hC.1.2.2.2.2.2.2.2, @id (Z.1 1 = 9) hC.2.1.1, @id (Z.1 17 = 9) hC.2.2.1.1, @id (Z.1 33 = 6) hC.2.2.2.1.1, @id (Z.1 131 = 7) hC.2.2.2.2.1.1, @id (Z.1 136 = 5) hC.2.2.2.2.2.1.1, @id (Z.1 138 = 4) hC.2.2.2.2.2.2.1.1, @id (Z.1 141 = 8) hC.2.2.2.2.2.2.2.1.1, hC.2.1.1, @id (Z.1 (1 + 3) = 0) (yK hC.2.1 3 rfl), @id (Z.2.1 (1 + 3) = 6) (yL hC.2.1 3 rfl), @id (Z.2.2.1 1 6 = .ref (1 + 3)) (yR hC.2.1 3 rfl), up2_o, up2_e, iN_ap, iN_up, i_ix, i_inb, i_lt, i_lt0, i_0lt, i_eq, i_ne0, i_00, i_11, i_01, i_10, i_b, i_rem2, n_rem, i_add, i_mul, i_sub, i_div, i_max, i_min, rdk_0, rdk_3, kp_none, kp_int, kp_ref, kp_long, kp_double, aK_v, aK_0, aK_ite, if_true, if_false, and_self, and_true, true_and, or_false, false_or, not_true_eq_false, not_false_eq_true, ite_self, ↓reduceIte, kh, e, q2, bmp_e]
      · have q3 : nI k < 0 := by
          rw [← nI_0, i_ltU hk (by omega)]
          omega
        simp (disch := omega) only [r_X7_requireModule_0, r_X7_requireModule_1, r_X7_requireModule_2, r_X7_requireModule_5, r_X7_requireModule_6, r_X7_requireModule_9, r_X7_requireModule_10, r_X7_requireModule_11, r_X7_requireModule_14, r_X7_requireModule_17, r_X7_requireModule_18, r_X7_requireModule_19, r_X7_requireModule_22, r_X7_requireModule_33, @id (Z.1 0 = 10) hC.1.1, @id (Z.2.2.1 0 0 = .ref 1) hC.1.2.1, @id (Z.2.2.1 0 1 = .ref 17) hC.1.2.2.1, @id (Z.2.2.1 0 2 = .ref 33) hC.1.2.2.2.1, @id (Z.2.2.1 0 3 = .ref 131) hC.1.2.2.2.2.1, @id (Z.2.2.1 0 4 = .ref 136) hC.1.2.2.2.2.2.1, @id (Z.2.2.1 0 5 = .ref 138) hC.1.2.2.2.2.2.2.1, @id (Z.2.2.1 0 6 = .ref 141) hC.1.2.2.2.2.2.2.2, @id (Z.1 1 = 9) hC.2.1.1, @id (Z.1 17 = 9) hC.2.2.1.1, @id (Z.1 33 = 6) hC.2.2.2.1.1, @id (Z.1 131 = 7) hC.2.2.2.2.1.1, @id (Z.1 136 = 5) hC.2.2.2.2.2.1.1, @id (Z.1 138 = 4) hC.2.2.2.2.2.2.1.1, @id (Z.1 141 = 8) hC.2.2.2.2.2.2.2.1.1, up2_o, up2_e, iN_ap, iN_up, i_ix, i_inb, i_lt, i_lt0, i_0lt, i_eq, i_ne0, i_00, i_11, i_01, i_10, i_b, i_rem2, n_rem, i_add, i_mul, i_sub, i_div, i_max, i_min, rdk_0, rdk_3, kp_none, kp_int, kp_ref, kp_long, kp_double, aK_v, aK_0, aK_ite, if_true, if_false, and_self, and_true, true_and, or_false, false_or, not_true_eq_false, not_false_eq_true, ite_self, ↓reduceIte, kh, q3, bmp_e]
  · rw [if_neg q] at kh
    rw [if_neg (fun z => q z.1)]
    simp (disch := omega) only [r_X7_requireModule_0, r_X7_requireModule_1, r_X7_requireModule_2, r_X7_requireModule_5, r_X7_requireModule_6, r_X7_requireModule_9, r_X7_requireModule_10, r_X7_requireModule_11, r_X7_requireModule_14, r_X7_requireModule_17, r_X7_requireModule_18, r_X7_requireModule_19, r_X7_requireModule_22, r_X7_requireModule_33, @id (Z.1 0 = 10) hC.1.1, @id (Z.2.2.1 0 0 = .ref 1) hC.1.2.1, @id (Z.2.2.1 0 1 = .ref 17) hC.1.2.2.1, @id (Z.2.2.1 0 2 = .ref 33) hC.1.2.2.2.1, @id (Z.2.2.1 0 3 = .ref 131) hC.1.2.2.2.2.1, @id (Z.2.2.1 0 4 = .ref 136) hC.1.2.2.2.2.2.1, @id (Z.2.2.1 0 5 = .ref 138) hC.1.2.2.2.2.2.2.1, @id (Z.2.2.1 0 6 = .ref 141) hC.1.2.2.2.2.2.2.2, @id (Z.1 1 = 9) hC.2.1.1, @id (Z.1 17 = 9) hC.2.2.1.1, @id (Z.1 33 = 6) hC.2.2.2.1.1, @id (Z.1 131 = 7) hC.2.2.2.2.1.1, @id (Z.1 136 = 5) hC.2.2.2.2.2.1.1, @id (Z.1 138 = 4) hC.2.2.2.2.2.2.1.1, @id (Z.1 141 = 8) hC.2.2.2.2.2.2.2.1.1, up2_o, up2_e, iN_ap, iN_up, i_ix, i_inb, i_lt, i_lt0, i_0lt, i_eq, i_ne0, i_00, i_11, i_01, i_10, i_b, i_rem2, n_rem, i_add, i_mul, i_sub, i_div, i_max, i_min, rdk_0, rdk_3, kp_none, kp_int, kp_ref, kp_long, kp_double, aK_v, aK_0, aK_ite, if_true, if_false, and_self, and_true, true_and, or_false, false_or, not_true_eq_false, not_false_eq_true, ite_self, ↓reduceIte, kh, aT_X7_requireModule]
theorem q_reqTrade {t : Nat} {I : Nat → Nat → Int32} (ht : t < 4294967296) : ex 89 0 [some (.int (nI t))] [] (Z, I, L, c) = if t < 4 then some (.inl none, (Z, I, L, c)) else some (.inr 0, (Z, I, L, bc c)) := by
  by_cases q : t < 4
  · rw [if_pos q]
    simp (disch := omega) only [r_X7_requireTrade_0, r_X7_requireTrade_1, r_X7_requireTrade_4, r_X7_requireTrade_5, r_X7_requireTrade_6, r_X7_requireTrade_9, r_X7_requireTrade_20, up2_o, up2_e, iN_ap, iN_up, i_ix, i_inb, i_lt, i_lt0, i_0lt, i_eq, i_ne0, i_00, i_11, i_01, i_10, i_b, i_rem2, n_rem, i_add, i_mul, i_sub, i_div, i_max, i_min, rdk_0, rdk_3, kp_none, kp_int, kp_ref, kp_long, kp_double, aK_v, aK_0, aK_ite, if_true, if_false, and_self, and_true, true_and, or_false, false_or, not_true_eq_false, not_false_eq_true, ite_self, ↓reduceIte, q]
  · rw [if_neg q]
    by_cases q2 : t < 2147483648
    · simp (disch := omega) only [r_X7_requireTrade_0, r_X7_requireTrade_1, r_X7_requireTrade_4, r_X7_requireTrade_5, r_X7_requireTrade_6, r_X7_requireTrade_9, r_X7_requireTrade_20, up2_o, up2_e, iN_ap, iN_up, i_ix, i_inb, i_lt, i_lt0, i_0lt, i_eq, i_ne0, i_00, i_11, i_01, i_10, i_b, i_rem2, n_rem, i_add, i_mul, i_sub, i_div, i_max, i_min, rdk_0, rdk_3, kp_none, kp_int, kp_ref, kp_long, kp_double, aK_v, aK_0, aK_ite, if_true, if_false, and_self, and_true, true_and, or_false, false_or, not_true_eq_false, not_false_eq_true, ite_self, ↓reduceIte, q, bmp_e]
    · have q3 : nI t < 0 := by
        rw [← nI_0, i_ltU ht (by omega)]
        omega
      simp (disch := omega) only [r_X7_requireTrade_0, r_X7_requireTrade_1, r_X7_requireTrade_4, r_X7_requireTrade_5, r_X7_requireTrade_6, r_X7_requireTrade_9, r_X7_requireTrade_20, up2_o, up2_e, iN_ap, iN_up, i_ix, i_inb, i_lt, i_lt0, i_0lt, i_eq, i_ne0, i_00, i_11, i_01, i_10, i_b, i_rem2, n_rem, i_add, i_mul, i_sub, i_div, i_max, i_min, rdk_0, rdk_3, kp_none, kp_int, kp_ref, kp_long, kp_double, aK_v, aK_0, aK_ite, if_true, if_false, and_self, and_true, true_and, or_false, false_or, not_true_eq_false, not_false_eq_true, ite_self, ↓reduceIte, q3, bmp_e]
theorem q_reqSetting {t : Nat} {I : Nat → Nat → Int32} (ht : t < 4294967296) : ex 90 0 [some (.int (nI t))] [] (Z, I, L, c) = if t < 5 then some (.inl none, (Z, I, L, c)) else some (.inr 0, (Z, I, L, bc c)) := by
  by_cases q : t < 5
  · rw [if_pos q]
    simp (disch := omega) only [r_X7_requireSetting_0, r_X7_requireSetting_1, r_X7_requireSetting_4, r_X7_requireSetting_5, r_X7_requireSetting_6, r_X7_requireSetting_9, r_X7_requireSetting_20, up2_o, up2_e, iN_ap, iN_up, i_ix, i_inb, i_lt, i_lt0, i_0lt, i_eq, i_ne0, i_00, i_11, i_01, i_10, i_b, i_rem2, n_rem, i_add, i_mul, i_sub, i_div, i_max, i_min, rdk_0, rdk_3, kp_none, kp_int, kp_ref, kp_long, kp_double, aK_v, aK_0, aK_ite, if_true, if_false, and_self, and_true, true_and, or_false, false_or, not_true_eq_false, not_false_eq_true, ite_self, ↓reduceIte, q]
  · rw [if_neg q]
    by_cases q2 : t < 2147483648
    · simp (disch := omega) only [r_X7_requireSetting_0, r_X7_requireSetting_1, r_X7_requireSetting_4, r_X7_requireSetting_5, r_X7_requireSetting_6, r_X7_requireSetting_9, r_X7_requireSetting_20, up2_o, up2_e, iN_ap, iN_up, i_ix, i_inb, i_lt, i_lt0, i_0lt, i_eq, i_ne0, i_00, i_11, i_01, i_10, i_b, i_rem2, n_rem, i_add, i_mul, i_sub, i_div, i_max, i_min, rdk_0, rdk_3, kp_none, kp_int, kp_ref, kp_long, kp_double, aK_v, aK_0, aK_ite, if_true, if_false, and_self, and_true, true_and, or_false, false_or, not_true_eq_false, not_false_eq_true, ite_self, ↓reduceIte, q, bmp_e]
    · have q3 : nI t < 0 := by
        rw [← nI_0, i_ltU ht (by omega)]
        omega
      simp (disch := omega) only [r_X7_requireSetting_0, r_X7_requireSetting_1, r_X7_requireSetting_4, r_X7_requireSetting_5, r_X7_requireSetting_6, r_X7_requireSetting_9, r_X7_requireSetting_20, up2_o, up2_e, iN_ap, iN_up, i_ix, i_inb, i_lt, i_lt0, i_0lt, i_eq, i_ne0, i_00, i_11, i_01, i_10, i_b, i_rem2, n_rem, i_add, i_mul, i_sub, i_div, i_max, i_min, rdk_0, rdk_3, kp_none, kp_int, kp_ref, kp_long, kp_double, aK_v, aK_0, aK_ite, if_true, if_false, and_self, and_true, true_and, or_false, false_or, not_true_eq_false, not_false_eq_true, ite_self, ↓reduceIte, q3, bmp_e]
theorem q_reqWhat {t n : Nat} {I : Nat → Nat → Int32} (ht : t < 4294967296) (hn : n < 2147483648) : ex 92 0 [some (.int (nI t)), some (.int (nI n))] [] (Z, I, L, c) = if t < n then some (.inl none, (Z, I, L, c)) else some (.inr 1, (Z, I, L, bc c)) := by
  by_cases q : t < n
  · rw [if_pos q]
    simp (disch := omega) only [r_X7_requireWhat_0, r_X7_requireWhat_1, r_X7_requireWhat_4, r_X7_requireWhat_5, r_X7_requireWhat_6, r_X7_requireWhat_9, r_X7_requireWhat_20, up2_o, up2_e, iN_ap, iN_up, i_ix, i_inb, i_lt, i_lt0, i_0lt, i_eq, i_ne0, i_00, i_11, i_01, i_10, i_b, i_rem2, n_rem, i_add, i_mul, i_sub, i_div, i_max, i_min, rdk_0, rdk_3, kp_none, kp_int, kp_ref, kp_long, kp_double, aK_v, aK_0, aK_ite, if_true, if_false, and_self, and_true, true_and, or_false, false_or, not_true_eq_false, not_false_eq_true, ite_self, ↓reduceIte, q]
  · rw [if_neg q]
    by_cases q2 : t < 2147483648
    · simp (disch := omega) only [r_X7_requireWhat_0, r_X7_requireWhat_1, r_X7_requireWhat_4, r_X7_requireWhat_5, r_X7_requireWhat_6, r_X7_requireWhat_9, r_X7_requireWhat_20, up2_o, up2_e, iN_ap, iN_up, i_ix, i_inb, i_lt, i_lt0, i_0lt, i_eq, i_ne0, i_00, i_11, i_01, i_10, i_b, i_rem2, n_rem, i_add, i_mul, i_sub, i_div, i_max, i_min, rdk_0, rdk_3, kp_none, kp_int, kp_ref, kp_long, kp_double, aK_v, aK_0, aK_ite, if_true, if_false, and_self, and_true, true_and, or_false, false_or, not_true_eq_false, not_false_eq_true, ite_self, ↓reduceIte, q, bmp_e]
    · have q3 : nI t < 0 := by
        rw [← nI_0, i_ltU ht (by omega)]
        omega
      simp (disch := omega) only [r_X7_requireWhat_0, r_X7_requireWhat_1, r_X7_requireWhat_4, r_X7_requireWhat_5, r_X7_requireWhat_6, r_X7_requireWhat_9, r_X7_requireWhat_20, up2_o, up2_e, iN_ap, iN_up, i_ix, i_inb, i_lt, i_lt0, i_0lt, i_eq, i_ne0, i_00, i_11, i_01, i_10, i_b, i_rem2, n_rem, i_add, i_mul, i_sub, i_div, i_max, i_min, rdk_0, rdk_3, kp_none, kp_int, kp_ref, kp_long, kp_double, aK_v, aK_0, aK_ite, if_true, if_false, and_self, and_true, true_and, or_false, false_or, not_true_eq_false, not_false_eq_true, ite_self, ↓reduceIte, q3, bmp_e]
theorem q_reqDays {t : Nat} {I : Nat → Nat → Int32} (ht : t < 4294967296) : ex 91 0 [some (.int (nI t))] [] (Z, I, L, c) = if t < 1 ∨ 60 < t then some (.inr 1, (Z, I, L, bc c)) else some (.inl none, (Z, I, L, c)) := by
  have e1 : (nI t < nI 1) = (t < 1 ∨ 2147483648 ≤ t) := i_ltU ht (by omega)
  have e2 : (nI 60 < nI t) = (60 < t ∧ t < 2147483648) := i_gtU ht (by omega)
  by_cases q : t < 1 ∨ 2147483648 ≤ t
  · rw [if_pos (by omega)]
    simp only [r_X7_requirePassedDays_0, r_X7_requirePassedDays_1, r_X7_requirePassedDays_2, r_X7_requirePassedDays_5, r_X7_requirePassedDays_6, r_X7_requirePassedDays_8, r_X7_requirePassedDays_11, r_X7_requirePassedDays_22, e1, q, if_true, bmp_e]
  · by_cases q2 : 60 < t ∧ t < 2147483648
    · rw [if_pos (by omega)]
      simp only [r_X7_requirePassedDays_0, r_X7_requirePassedDays_1, r_X7_requirePassedDays_2, r_X7_requirePassedDays_5, r_X7_requirePassedDays_6, r_X7_requirePassedDays_8, r_X7_requirePassedDays_11, r_X7_requirePassedDays_22, e1, e2, q, q2, if_true, if_false, and_self, bmp_e]
    · rw [if_neg (by omega)]
      simp only [r_X7_requirePassedDays_0, r_X7_requirePassedDays_1, r_X7_requirePassedDays_2, r_X7_requirePassedDays_5, r_X7_requirePassedDays_6, r_X7_requirePassedDays_8, r_X7_requirePassedDays_11, r_X7_requirePassedDays_22, e1, e2, q, q2, if_true, if_false]
theorem q_reqSet {S : aSt} {h k : Nat} (hC : ZC Z) (hI : CI N S) (hw : WF S.1.1 S.1.2) (hh : h < 6) (hk : k < 6) :
    ex 88 0 [some (.ref 0), some (.int (nI h)), some (.int (nI k))] [] (Z, iN N, L, c) = if k < S.1.1 5 h then some (.inl none, (Z, iN N, L, c)) else some (.inr 2, (Z, iN N, L, bc c)) := by
  have hh1 := hw.2.1 h hh
  have e : N (1 + 5) h = S.1.1 5 h := CY_at hI.1 5 (n := 6) rfl hh
  by_cases q : k < S.1.1 5 h
  · rw [if_pos q]
    simp (disch := omega) only [r_X7_requireSet_0, r_X7_requireSet_1, r_X7_requireSet_2, r_X7_requireSet_5, r_X7_requireSet_8, r_X7_requireSet_9, r_X7_requireSet_10, r_X7_requireSet_13, r_X7_requireSet_24, @id (Z.1 0 = 10) hC.1.1, @id (Z.2.2.1 0 0 = .ref 1) hC.1.2.1, @id (Z.2.2.1 0 1 = .ref 17) hC.1.2.2.1, @id (Z.2.2.1 0 2 = .ref 33) hC.1.2.2.2.1, @id (Z.2.2.1 0 3 = .ref 131) hC.1.2.2.2.2.1, @id (Z.2.2.1 0 4 = .ref 136) hC.1.2.2.2.2.2.1, @id (Z.2.2.1 0 5 = .ref 138) hC.1.2.2.2.2.2.2.1, @id (Z.2.2.1 0 6 = .ref 141) hC.1.2.2.2.2.2.2.2, @id (Z.1 1 = 9) hC.2.1.1, @id (Z.1 17 = 9) hC.2.2.1.1, @id (Z.1 33 = 6) hC.2.2.2.1.1, @id (Z.1 131 = 7) hC.2.2.2.2.1.1, @id (Z.1 136 = 5) hC.2.2.2.2.2.1.1, @id (Z.1 138 = 4) hC.2.2.2.2.2.2.1.1, @id (Z.1 141 = 8) hC.2.2.2.2.2.2.2.1.1, hC.2.1.1, @id (Z.1 (1 + 5) = 0) (yK hC.2.1 5 rfl), @id (Z.2.1 (1 + 5) = 6) (yL hC.2.1 5 rfl), @id (Z.2.2.1 1 8 = .ref (1 + 5)) (yR hC.2.1 5 rfl), up2_o, up2_e, iN_ap, iN_up, i_ix, i_inb, i_lt, i_lt0, i_0lt, i_eq, i_ne0, i_00, i_11, i_01, i_10, i_b, i_rem2, n_rem, i_add, i_mul, i_sub, i_div, i_max, i_min, rdk_0, rdk_3, kp_none, kp_int, kp_ref, kp_long, kp_double, aK_v, aK_0, aK_ite, if_true, if_false, and_self, and_true, true_and, or_false, false_or, not_true_eq_false, not_false_eq_true, ite_self, ↓reduceIte, e, q]
  · rw [if_neg q]
    simp (disch := omega) only [r_X7_requireSet_0, r_X7_requireSet_1, r_X7_requireSet_2, r_X7_requireSet_5, r_X7_requireSet_8, r_X7_requireSet_9, r_X7_requireSet_10, r_X7_requireSet_13, r_X7_requireSet_24, @id (Z.1 0 = 10) hC.1.1, @id (Z.2.2.1 0 0 = .ref 1) hC.1.2.1, @id (Z.2.2.1 0 1 = .ref 17) hC.1.2.2.1, @id (Z.2.2.1 0 2 = .ref 33) hC.1.2.2.2.1, @id (Z.2.2.1 0 3 = .ref 131) hC.1.2.2.2.2.1, @id (Z.2.2.1 0 4 = .ref 136) hC.1.2.2.2.2.2.1, @id (Z.2.2.1 0 5 = .ref 138) hC.1.2.2.2.2.2.2.1, @id (Z.2.2.1 0 6 = .ref 141) hC.1.2.2.2.2.2.2.2, @id (Z.1 1 = 9) hC.2.1.1, @id (Z.1 17 = 9) hC.2.2.1.1, @id (Z.1 33 = 6) hC.2.2.2.1.1, @id (Z.1 131 = 7) hC.2.2.2.2.1.1, @id (Z.1 136 = 5) hC.2.2.2.2.2.1.1, @id (Z.1 138 = 4) hC.2.2.2.2.2.2.1.1, @id (Z.1 141 = 8) hC.2.2.2.2.2.2.2.1.1, hC.2.1.1, @id (Z.1 (1 + 5) = 0) (yK hC.2.1 5 rfl), @id (Z.2.1 (1 + 5) = 6) (yL hC.2.1 5 rfl), @id (Z.2.2.1 1 8 = .ref (1 + 5)) (yR hC.2.1 5 rfl), up2_o, up2_e, iN_ap, iN_up, i_ix, i_inb, i_lt, i_lt0, i_0lt, i_eq, i_ne0, i_00, i_11, i_01, i_10, i_b, i_rem2, n_rem, i_add, i_mul, i_sub, i_div, i_max, i_min, rdk_0, rdk_3, kp_none, kp_int, kp_ref, kp_long, kp_double, aK_v, aK_0, aK_ite, if_true, if_false, and_self, and_true, true_and, or_false, false_or, not_true_eq_false, not_false_eq_true, ite_self, ↓reduceIte, e, q, bmp_e]
end Ca
