/-! the class: its reader of winds -/
theorem HC_new {N N' : Nat → Nat → Nat} {r aw aw' w p : Nat} {l : List (Nat × Nat)} (h : HC N r (aw, l)) (h2 : N' r 2 = l.length + 1) (h3 : N' r 3 = aw') (e1 : ∀ i, N' (r + 1) i = if i = l.length then w else N (r + 1) i) (e2 : ∀ i, N' (r + 2) i = if i = l.length then p else N (r + 2) i) : HC N' r (aw', (w, p) :: l) := by
  obtain ⟨a, b, c⟩ := h
  refine ⟨h2, h3, ?_⟩
  dsimp only at c ⊢
  rw [List.reverse_cons]
  refine At3_app.mpr ⟨At3_congr c (fun i hi => ?_) (fun i hi => ?_), ?_, ?_⟩
  · rw [List.length_reverse] at hi
    rw [e1, if_neg (by omega)]
  · rw [List.length_reverse] at hi
    rw [e2, if_neg (by omega)]
  · rw [List.length_reverse, e1, if_pos rfl]
  · rw [List.length_reverse, e2, if_pos rfl]
section Ce
variable {Z : aZ} {N : Nat → Nat → Nat} {L : Nat → Nat → Int64} {c : Nat × Nat}
theorem s_wEnd {r : Nat} (hr : RAt Z r 8 60) (h3 : N r 3 ≤ 2) (h2 : N r 2 ≤ 60) (h4 : N r 3 = 2 → 1 ≤ N r 2) (hb : N r 3 = 2 → N (r + 2) (N r 2 - 1) < 1000) :
    ex 28 0 [some (.ref r)] [] (Z, iN N, L, c) = some (.inl (some (.int (nI (if N r 3 = 1 ∨ N r 3 = 2 ∧ 2 ≤ N (r + 2) (N r 2 - 1) then 1 else 0)))), (Z, iN N, L, c)) := by
  have r0 := hr.1
  rcases (show N r 3 = 0 ∨ N r 3 = 1 ∨ N r 3 = 2 by omega) with e | e | e
  · rw [if_neg (by omega)]
    simp (disch := omega) only [r_X5_isAtEnd_0, r_X5_isAtEnd_1, r_X5_isAtEnd_4, r_X5_isAtEnd_5, r_X5_isAtEnd_8, r_X5_isAtEnd_9, r_X5_isAtEnd_12, r_X5_isAtEnd_13, r_X5_isAtEnd_16, r_X5_isAtEnd_17, r_X5_isAtEnd_20, r_X5_isAtEnd_21, r_X5_isAtEnd_24, r_X5_isAtEnd_25, r_X5_isAtEnd_28, r_X5_isAtEnd_29, r0, up2_o, up2_e, iN_ap, iN_up, i_ix, i_inb, i_lt, i_lt0, i_0lt, i_eq, i_ne0, i_00, i_11, i_01, i_10, i_b, i_rem2, n_rem, i_add, i_mul, i_sub, i_div, i_max, i_min, rdk_0, rdk_3, kp_none, kp_int, kp_ref, kp_long, kp_double, aK_v, aK_0, aK_ite, if_true, if_false, and_self, and_true, true_and, or_false, false_or, not_true_eq_false, not_false_eq_true, ite_self, ↓reduceIte, e, i_eq, if_true, if_false]
    rfl
  · rw [if_pos (by omega)]
    simp (disch := omega) only [r_X5_isAtEnd_0, r_X5_isAtEnd_1, r_X5_isAtEnd_4, r_X5_isAtEnd_5, r_X5_isAtEnd_8, r_X5_isAtEnd_9, r_X5_isAtEnd_12, r_X5_isAtEnd_13, r_X5_isAtEnd_16, r_X5_isAtEnd_17, r_X5_isAtEnd_20, r_X5_isAtEnd_21, r_X5_isAtEnd_24, r_X5_isAtEnd_25, r_X5_isAtEnd_28, r_X5_isAtEnd_29, r0, up2_o, up2_e, iN_ap, iN_up, i_ix, i_inb, i_lt, i_lt0, i_0lt, i_eq, i_ne0, i_00, i_11, i_01, i_10, i_b, i_rem2, n_rem, i_add, i_mul, i_sub, i_div, i_max, i_min, rdk_0, rdk_3, kp_none, kp_int, kp_ref, kp_long, kp_double, aK_v, aK_0, aK_ite, if_true, if_false, and_self, and_true, true_and, or_false, false_or, not_true_eq_false, not_false_eq_true, ite_self, ↓reduceIte, e, i_eq, if_true, if_false]
  · have hl := s_wLastTimes (N := N) (L := L) (c := c) hr h2
    have hb2 := hb e
    have h42 := h4 e
    clear hb h4
    rw [if_neg (by omega)] at hl
    by_cases q : N (r + 2) (N r 2 - 1) < 2
    · rw [if_neg (by omega)]
      simp (disch := omega) only [r_X5_isAtEnd_0, r_X5_isAtEnd_1, r_X5_isAtEnd_4, r_X5_isAtEnd_5, r_X5_isAtEnd_8, r_X5_isAtEnd_9, r_X5_isAtEnd_12, r_X5_isAtEnd_13, r_X5_isAtEnd_16, r_X5_isAtEnd_17, r_X5_isAtEnd_20, r_X5_isAtEnd_21, r_X5_isAtEnd_24, r_X5_isAtEnd_25, r_X5_isAtEnd_28, r_X5_isAtEnd_29, r0, up2_o, up2_e, iN_ap, iN_up, i_ix, i_inb, i_lt, i_lt0, i_0lt, i_eq, i_ne0, i_00, i_11, i_01, i_10, i_b, i_rem2, n_rem, i_add, i_mul, i_sub, i_div, i_max, i_min, rdk_0, rdk_3, kp_none, kp_int, kp_ref, kp_long, kp_double, aK_v, aK_0, aK_ite, if_true, if_false, and_self, and_true, true_and, or_false, false_or, not_true_eq_false, not_false_eq_true, ite_self, ↓reduceIte, e, i_eq, if_true, if_false, hl, q]
      rfl
    · rw [if_pos (by omega)]
      simp (disch := omega) only [r_X5_isAtEnd_0, r_X5_isAtEnd_1, r_X5_isAtEnd_4, r_X5_isAtEnd_5, r_X5_isAtEnd_8, r_X5_isAtEnd_9, r_X5_isAtEnd_12, r_X5_isAtEnd_13, r_X5_isAtEnd_16, r_X5_isAtEnd_17, r_X5_isAtEnd_20, r_X5_isAtEnd_21, r_X5_isAtEnd_24, r_X5_isAtEnd_25, r_X5_isAtEnd_28, r_X5_isAtEnd_29, r0, up2_o, up2_e, iN_ap, iN_up, i_ix, i_inb, i_lt, i_lt0, i_0lt, i_eq, i_ne0, i_00, i_11, i_01, i_10, i_b, i_rem2, n_rem, i_add, i_mul, i_sub, i_div, i_max, i_min, rdk_0, rdk_3, kp_none, kp_int, kp_ref, kp_long, kp_double, aK_v, aK_0, aK_ite, if_true, if_false, and_self, and_true, true_and, or_false, false_or, not_true_eq_false, not_false_eq_true, ite_self, ↓reduceIte, e, i_eq, if_true, if_false, hl, q]
theorem q_wAcc {x r k : Nat} {s : aP2} (hr : RAt Z r 8 60) (hx : x < 1000) (hm : HC N r s) (hb : WB s k) (hk : k ≤ 60) :
    ∃ N', ex 27 0 [some (.ref r), some (.int (nI x))] [] (Z, iN N, L, c) = some (.inl (some (.int (nI (if (wS x s).isSome = true then 1 else 0)))), (Z, iN N', L, c)) ∧ (∀ s', wS x s = some s' → HC N' r s') ∧ RF r N N' := by
  obtain ⟨aw, l⟩ := s
  obtain ⟨b1, b3, b4, b5⟩ := hb
  obtain ⟨m1, m2, m3⟩ := id hm
  dsimp only at b1 b3 b4 b5 m1 m2 m3
  have r0 := hr.1
  have hdg := fun h => s_isDigit (x := x) (h := h) (by omega)
  rcases (show aw = 0 ∨ aw = 1 ∨ aw = 2 by omega) with rfl | rfl | rfl
  · clear b5
    replace b4 := (b4 rfl).1
    by_cases q0 : 48 ≤ x ∧ x ≤ 57
    · rw [if_pos q0] at hdg
      by_cases q : l.length < 60
      · have hs : wS x (0, l) = some (1, (x - 48, 1) :: l) := by
          show (if (48 ≤ x ∧ x ≤ 57) ∧ l.length < 60 then some ((1 : Nat), (x - 48, 1) :: l) else none) = _
          exact if_pos ⟨q0, q⟩
        rw [hs]
        obtain ⟨-, r1, r2, r3, r4, r5, r6⟩ := hr
        have q1 := q0.1
        refine ⟨up2 (up2 (up2 (up2 N (r + 1) l.length (x - 48)) (r + 2) l.length 1) r 2 (l.length + 1)) r 3 1, ?_, fun s' hs' => ?_, fun a ha => ?_⟩
        · simp (disch := omega) only [r_X5_accepts_0, r_X5_accepts_1, r_X5_accepts_4_0, r_X5_accepts_4_1, r_X5_accepts_4_2, r_X5_accepts_32, r_X5_accepts_33, r_X5_accepts_34, r_X5_accepts_37, r_X5_accepts_38, r_X5_accepts_39, r_X5_accepts_41, r_X5_accepts_44, r_X5_accepts_45, r_X5_accepts_48, r_X5_accepts_51, r_X5_accepts_52, r_X5_accepts_53, r_X5_accepts_56, r_X5_accepts_57, r_X5_accepts_58, r_X5_accepts_60, r_X5_accepts_63, r_X5_accepts_64, r_X5_accepts_67, r_X5_accepts_70, r_X5_accepts_71, r_X5_accepts_72, r_X5_accepts_75, r_X5_acceptsWind_0, r_X5_acceptsWind_1, r_X5_acceptsWind_4, r_X5_acceptsWind_7, r_X5_acceptsWind_8, r_X5_acceptsWind_11, r_X5_acceptsWind_13, r_X5_acceptsWind_16, r_X5_acceptsWind_17, r_X5_acceptsWind_18, r_X5_acceptsWind_19, r_X5_acceptsWind_22, r_X5_acceptsWind_23, r_X5_acceptsWind_26, r_X5_acceptsWind_27, r_X5_acceptsWind_29, r_X5_acceptsWind_30, r_X5_acceptsWind_31, r_X5_acceptsWind_32, r_X5_acceptsWind_35, r_X5_acceptsWind_36, r_X5_acceptsWind_39, r_X5_acceptsWind_40, r_X5_acceptsWind_41, r_X5_acceptsWind_42, r_X5_acceptsWind_43, r_X5_acceptsWind_46, r_X5_acceptsWind_47, r_X5_acceptsWind_48, r_X5_acceptsWind_51, r_X5_acceptsWind_52, r_X5_acceptsWind_53, r_X5_acceptsWind_56, r_X5_acceptsWind_57, r0, r1, r2, r3, r4, r5, r6, up2_o, up2_e, iN_ap, iN_up, i_ix, i_inb, i_lt, i_lt0, i_0lt, i_eq, i_ne0, i_00, i_11, i_01, i_10, i_b, i_rem2, n_rem, i_add, i_mul, i_sub, i_div, i_max, i_min, rdk_0, rdk_3, kp_none, kp_int, kp_ref, kp_long, kp_double, aK_v, aK_0, aK_ite, if_true, if_false, and_self, and_true, true_and, or_false, false_or, not_true_eq_false, not_false_eq_true, ite_self, ↓reduceIte, m2, m1, hdg, q]
          rfl
        · cases hs'
          refine HC_new hm ?_ (up2_e ⟨rfl, rfl⟩) (fun i => ?_) (fun i => ?_)
          · rw [up2_o (by omega), up2_e ⟨rfl, rfl⟩]
          · rw [up2_o (by omega), up2_o (by omega), up2_o (by omega)]
            show (if r + 1 = r + 1 ∧ i = l.length then _ else _) = _
            by_cases z : i = l.length
            · rw [if_pos ⟨rfl, z⟩, if_pos z]
            · rw [if_neg (fun w => z w.2), if_neg z]
          · rw [up2_o (by omega), up2_o (by omega)]
            show (if r + 2 = r + 2 ∧ i = l.length then _ else _) = _
            by_cases z : i = l.length
            · rw [if_pos ⟨rfl, z⟩, if_pos z]
            · rw [if_neg (fun w => z w.2), if_neg z, up2_o (by omega)]
        · funext j
          rw [up2_o (by omega), up2_o (by omega), up2_o (by omega), up2_o (by omega)]
      · exfalso
        omega
    · rw [if_neg q0] at hdg
      have hs : wS x (0, l) = none := by
        show (if (48 ≤ x ∧ x ≤ 57) ∧ l.length < 60 then some ((1 : Nat), (x - 48, 1) :: l) else none) = _
        exact if_neg (fun w => q0 w.1)
      rw [hs]
      refine ⟨N, ?_, fun s' hs' => (by simp at hs'), fun a ha => rfl⟩
      simp (disch := omega) only [r_X5_accepts_0, r_X5_accepts_1, r_X5_accepts_4_0, r_X5_accepts_4_1, r_X5_accepts_4_2, r_X5_accepts_32, r_X5_accepts_33, r_X5_accepts_34, r_X5_accepts_37, r_X5_accepts_38, r_X5_accepts_39, r_X5_accepts_41, r_X5_accepts_44, r_X5_accepts_45, r_X5_accepts_48, r_X5_accepts_51, r_X5_accepts_52, r_X5_accepts_53, r_X5_accepts_56, r_X5_accepts_57, r_X5_accepts_58, r_X5_accepts_60, r_X5_accepts_63, r_X5_accepts_64, r_X5_accepts_67, r_X5_accepts_70, r_X5_accepts_71, r_X5_accepts_72, r_X5_accepts_75, r_X5_acceptsWind_0, r_X5_acceptsWind_1, r_X5_acceptsWind_4, r_X5_acceptsWind_7, r_X5_acceptsWind_8, r_X5_acceptsWind_11, r_X5_acceptsWind_13, r_X5_acceptsWind_16, r_X5_acceptsWind_17, r_X5_acceptsWind_18, r_X5_acceptsWind_19, r_X5_acceptsWind_22, r_X5_acceptsWind_23, r_X5_acceptsWind_26, r_X5_acceptsWind_27, r_X5_acceptsWind_29, r_X5_acceptsWind_30, r_X5_acceptsWind_31, r_X5_acceptsWind_32, r_X5_acceptsWind_35, r_X5_acceptsWind_36, r_X5_acceptsWind_39, r_X5_acceptsWind_40, r_X5_acceptsWind_41, r_X5_acceptsWind_42, r_X5_acceptsWind_43, r_X5_acceptsWind_46, r_X5_acceptsWind_47, r_X5_acceptsWind_48, r_X5_acceptsWind_51, r_X5_acceptsWind_52, r_X5_acceptsWind_53, r_X5_acceptsWind_56, r_X5_acceptsWind_57, r0, up2_o, up2_e, iN_ap, iN_up, i_ix, i_inb, i_lt, i_lt0, i_0lt, i_eq, i_ne0, i_00, i_11, i_01, i_10, i_b, i_rem2, n_rem, i_add, i_mul, i_sub, i_div, i_max, i_min, rdk_0, rdk_3, kp_none, kp_int, kp_ref, kp_long, kp_double, aK_v, aK_0, aK_ite, if_true, if_false, and_self, and_true, true_and, or_false, false_or, not_true_eq_false, not_false_eq_true, ite_self, ↓reduceIte, m2, m1, hdg]
      rfl
  · obtain ⟨bk, e, l', hl, k1, k2⟩ := b5 (by omega)
    replace k2 := k2 rfl
    clear b5 b4
    subst hl
    obtain ⟨w, p⟩ := e
    dsimp only at k2
    subst k2
    obtain ⟨l1, l2, l3⟩ := HC_last hm
    have bl : l'.length ≤ 59 := by simp at bk; omega
    have hsd : wS x (1, (w, 1) :: l') = if x = 44 then (if (1 : Nat) = 1 ∨ 2 ≤ 1 then some (0, (w, 1) :: l') else none) else (if x = 42 then some (2, (w, 0) :: l') else none) := rfl
    rw [if_pos (Or.inl rfl)] at hsd
    by_cases q44 : x = 44
    · subst q44
      rw [if_pos rfl] at hsd
      rw [hsd]
      have he := s_wEnd (N := N) (L := L) (c := c) hr (by omega) (by omega) (by omega) (by omega)
      rw [if_pos (Or.inl m2)] at he
      refine ⟨up2 N r 3 0, ?_, fun s' hs' => (by cases hs'; exact HC_aw hm), fun a ha => (by funext j; exact up2_o (by omega))⟩
      simp (disch := omega) only [r_X5_accepts_0, r_X5_accepts_1, r_X5_accepts_4_0, r_X5_accepts_4_1, r_X5_accepts_4_2, r_X5_accepts_32, r_X5_accepts_33, r_X5_accepts_34, r_X5_accepts_37, r_X5_accepts_38, r_X5_accepts_39, r_X5_accepts_41, r_X5_accepts_44, r_X5_accepts_45, r_X5_accepts_48, r_X5_accepts_51, r_X5_accepts_52, r_X5_accepts_53, r_X5_accepts_56, r_X5_accepts_57, r_X5_accepts_58, r_X5_accepts_60, r_X5_accepts_63, r_X5_accepts_64, r_X5_accepts_67, r_X5_accepts_70, r_X5_accepts_71, r_X5_accepts_72, r_X5_accepts_75, r_X5_acceptsComma_0, r_X5_acceptsComma_1, r_X5_acceptsComma_4, r_X5_acceptsComma_7, r_X5_acceptsComma_8, r_X5_acceptsComma_9, r_X5_acceptsComma_10, r_X5_acceptsComma_11, r_X5_acceptsComma_14, r_X5_acceptsComma_15, r0, up2_o, up2_e, iN_ap, iN_up, i_ix, i_inb, i_lt, i_lt0, i_0lt, i_eq, i_ne0, i_00, i_11, i_01, i_10, i_b, i_rem2, n_rem, i_add, i_mul, i_sub, i_div, i_max, i_min, rdk_0, rdk_3, kp_none, kp_int, kp_ref, kp_long, kp_double, aK_v, aK_0, aK_ite, if_true, if_false, and_self, and_true, true_and, or_false, false_or, not_true_eq_false, not_false_eq_true, ite_self, ↓reduceIte, m2, he]
      rfl
    · rw [if_neg q44] at hsd
      by_cases q42 : x = 42
      · subst q42
        rw [if_pos rfl] at hsd
        rw [hsd]
        obtain ⟨-, r1, r2, r3, r4, r5, r6⟩ := hr
        have q6 : ¬ l'.length + 1 < 1 := by omega
        refine ⟨up2 (up2 N (r + 2) l'.length 0) r 3 2, ?_, fun s' hs' => (by cases hs'; exact HC_put hm), fun a ha => (by funext j; rw [up2_o (by omega), up2_o (by omega)])⟩
        simp (disch := omega) only [r_X5_accepts_0, r_X5_accepts_1, r_X5_accepts_4_0, r_X5_accepts_4_1, r_X5_accepts_4_2, r_X5_accepts_32, r_X5_accepts_33, r_X5_accepts_34, r_X5_accepts_37, r_X5_accepts_38, r_X5_accepts_39, r_X5_accepts_41, r_X5_accepts_44, r_X5_accepts_45, r_X5_accepts_48, r_X5_accepts_51, r_X5_accepts_52, r_X5_accepts_53, r_X5_accepts_56, r_X5_accepts_57, r_X5_accepts_58, r_X5_accepts_60, r_X5_accepts_63, r_X5_accepts_64, r_X5_accepts_67, r_X5_accepts_70, r_X5_accepts_71, r_X5_accepts_72, r_X5_accepts_75, r_X5_acceptsStar_0, r_X5_acceptsStar_1, r_X5_acceptsStar_3, r_X5_acceptsStar_6, r_X5_acceptsStar_7, r_X5_acceptsStar_10, r_X5_acceptsStar_11, r_X5_acceptsStar_14, r_X5_acceptsStar_15, r_X5_acceptsStar_16, r_X5_acceptsStar_17, r_X5_acceptsStar_20, r_X5_acceptsStar_21, r_X5_acceptsStar_24, r_X5_acceptsStar_25, r_X5_acceptsStar_26, r_X5_acceptsStar_27, r_X5_acceptsStar_28, r_X5_acceptsStar_29, r_X5_acceptsStar_30, r_X5_acceptsStar_33, r_X5_acceptsStar_34, r0, r2, r4, r6, up2_o, up2_e, iN_ap, iN_up, i_ix, i_inb, i_lt, i_lt0, i_0lt, i_eq, i_ne0, i_00, i_11, i_01, i_10, i_b, i_rem2, n_rem, i_add, i_mul, i_sub, i_div, i_max, i_min, rdk_0, rdk_3, kp_none, kp_int, kp_ref, kp_long, kp_double, aK_v, aK_0, aK_ite, if_true, if_false, and_self, and_true, true_and, or_false, false_or, not_true_eq_false, not_false_eq_true, ite_self, ↓reduceIte, m2, i_eq, q44, l3, q6, Nat.add_sub_cancel]
        rfl
      · rw [if_neg q42] at hsd
        rw [hsd]
        refine ⟨N, ?_, fun s' hs' => (by simp at hs'), fun a ha => rfl⟩
        simp (disch := omega) only [r_X5_accepts_0, r_X5_accepts_1, r_X5_accepts_4_0, r_X5_accepts_4_1, r_X5_accepts_4_2, r_X5_accepts_32, r_X5_accepts_33, r_X5_accepts_34, r_X5_accepts_37, r_X5_accepts_38, r_X5_accepts_39, r_X5_accepts_41, r_X5_accepts_44, r_X5_accepts_45, r_X5_accepts_48, r_X5_accepts_51, r_X5_accepts_52, r_X5_accepts_53, r_X5_accepts_56, r_X5_accepts_57, r_X5_accepts_58, r_X5_accepts_60, r_X5_accepts_63, r_X5_accepts_64, r_X5_accepts_67, r_X5_accepts_70, r_X5_accepts_71, r_X5_accepts_72, r_X5_accepts_75, r_X5_acceptsStar_0, r_X5_acceptsStar_1, r_X5_acceptsStar_3, r_X5_acceptsStar_6, r_X5_acceptsStar_7, r_X5_acceptsStar_10, r_X5_acceptsStar_11, r_X5_acceptsStar_14, r_X5_acceptsStar_15, r_X5_acceptsStar_16, r_X5_acceptsStar_17, r_X5_acceptsStar_20, r_X5_acceptsStar_21, r_X5_acceptsStar_24, r_X5_acceptsStar_25, r_X5_acceptsStar_26, r_X5_acceptsStar_27, r_X5_acceptsStar_28, r_X5_acceptsStar_29, r_X5_acceptsStar_30, r_X5_acceptsStar_33, r_X5_acceptsStar_34, r0, up2_o, up2_e, iN_ap, iN_up, i_ix, i_inb, i_lt, i_lt0, i_0lt, i_eq, i_ne0, i_00, i_11, i_01, i_10, i_b, i_rem2, n_rem, i_add, i_mul, i_sub, i_div, i_max, i_min, rdk_0, rdk_3, kp_none, kp_int, kp_ref, kp_long, kp_double, aK_v, aK_0, aK_ite, if_true, if_false, and_self, and_true, true_and, or_false, false_or, not_true_eq_false, not_false_eq_true, ite_self, ↓reduceIte, m2, i_eq, q44, q42]
        rfl
  · obtain ⟨bk, e, l', hl, k1, k2⟩ := b5 (by omega)
    clear b5 b4 k2
    subst hl
    obtain ⟨w, p⟩ := e
    obtain ⟨l1, l2, l3⟩ := HC_last hm
    have bl : l'.length ≤ 59 := by simp at bk; omega
    have bp := (b3 _ List.mem_cons_self).2
    dsimp only at bp
    have hsd : wS x (2, (w, p) :: l') = if x = 44 then (if (2 : Nat) = 1 ∨ 2 ≤ p then some (0, (w, p) :: l') else none) else (if (48 ≤ x ∧ x ≤ 57) ∧ 1 ≤ p * 10 + (x - 48) ∧ p * 10 + (x - 48) ≤ 60 then some (2, (w, p * 10 + (x - 48)) :: l') else none) := rfl
    have hlp := s_wLastTimes (N := N) (L := L) (c := c) hr (by omega)
    rw [l3, if_neg (by omega), Nat.add_sub_cancel, l2] at hlp
    by_cases q44 : x = 44
    · subst q44
      rw [if_pos rfl] at hsd
      have he := s_wEnd (N := N) (L := L) (c := c) hr (by omega) (by omega) (by omega) (fun _ => by rw [l3, Nat.add_sub_cancel, l2]; omega)
      rw [l3, Nat.add_sub_cancel, l2, m2] at he
      by_cases q1 : 2 ≤ p
      · rw [if_pos (Or.inr q1)] at hsd
        rw [if_pos (Or.inr ⟨rfl, q1⟩)] at he
        rw [hsd]
        refine ⟨up2 N r 3 0, ?_, fun s' hs' => (by cases hs'; exact HC_aw hm), fun a ha => (by funext j; exact up2_o (by omega))⟩
        simp (disch := omega) only [r_X5_accepts_0, r_X5_accepts_1, r_X5_accepts_4_0, r_X5_accepts_4_1, r_X5_accepts_4_2, r_X5_accepts_32, r_X5_accepts_33, r_X5_accepts_34, r_X5_accepts_37, r_X5_accepts_38, r_X5_accepts_39, r_X5_accepts_41, r_X5_accepts_44, r_X5_accepts_45, r_X5_accepts_48, r_X5_accepts_51, r_X5_accepts_52, r_X5_accepts_53, r_X5_accepts_56, r_X5_accepts_57, r_X5_accepts_58, r_X5_accepts_60, r_X5_accepts_63, r_X5_accepts_64, r_X5_accepts_67, r_X5_accepts_70, r_X5_accepts_71, r_X5_accepts_72, r_X5_accepts_75, r_X5_acceptsComma_0, r_X5_acceptsComma_1, r_X5_acceptsComma_4, r_X5_acceptsComma_7, r_X5_acceptsComma_8, r_X5_acceptsComma_9, r_X5_acceptsComma_10, r_X5_acceptsComma_11, r_X5_acceptsComma_14, r_X5_acceptsComma_15, r0, up2_o, up2_e, iN_ap, iN_up, i_ix, i_inb, i_lt, i_lt0, i_0lt, i_eq, i_ne0, i_00, i_11, i_01, i_10, i_b, i_rem2, n_rem, i_add, i_mul, i_sub, i_div, i_max, i_min, rdk_0, rdk_3, kp_none, kp_int, kp_ref, kp_long, kp_double, aK_v, aK_0, aK_ite, if_true, if_false, and_self, and_true, true_and, or_false, false_or, not_true_eq_false, not_false_eq_true, ite_self, ↓reduceIte, m2, he]
        rfl
      · rw [if_neg (by omega)] at hsd he
        rw [hsd]
        refine ⟨N, ?_, fun s' hs' => (by simp at hs'), fun a ha => rfl⟩
        simp (disch := omega) only [r_X5_accepts_0, r_X5_accepts_1, r_X5_accepts_4_0, r_X5_accepts_4_1, r_X5_accepts_4_2, r_X5_accepts_32, r_X5_accepts_33, r_X5_accepts_34, r_X5_accepts_37, r_X5_accepts_38, r_X5_accepts_39, r_X5_accepts_41, r_X5_accepts_44, r_X5_accepts_45, r_X5_accepts_48, r_X5_accepts_51, r_X5_accepts_52, r_X5_accepts_53, r_X5_accepts_56, r_X5_accepts_57, r_X5_accepts_58, r_X5_accepts_60, r_X5_accepts_63, r_X5_accepts_64, r_X5_accepts_67, r_X5_accepts_70, r_X5_accepts_71, r_X5_accepts_72, r_X5_accepts_75, r_X5_acceptsComma_0, r_X5_acceptsComma_1, r_X5_acceptsComma_4, r_X5_acceptsComma_7, r_X5_acceptsComma_8, r_X5_acceptsComma_9, r_X5_acceptsComma_10, r_X5_acceptsComma_11, r_X5_acceptsComma_14, r_X5_acceptsComma_15, r0, up2_o, up2_e, iN_ap, iN_up, i_ix, i_inb, i_lt, i_lt0, i_0lt, i_eq, i_ne0, i_00, i_11, i_01, i_10, i_b, i_rem2, n_rem, i_add, i_mul, i_sub, i_div, i_max, i_min, rdk_0, rdk_3, kp_none, kp_int, kp_ref, kp_long, kp_double, aK_v, aK_0, aK_ite, if_true, if_false, and_self, and_true, true_and, or_false, false_or, not_true_eq_false, not_false_eq_true, ite_self, ↓reduceIte, m2, he]
        rfl
    · rw [if_neg q44] at hsd
      by_cases q5 : 48 ≤ x ∧ x ≤ 57
      · rw [if_pos q5] at hdg
        have q6 : ¬ l'.length + 1 < 1 := by omega
        have ev : nI (p * 10) + nI x - nI 48 = nI (p * 10 + (x - 48)) := by
          rw [i_add, i_sub (by omega), Nat.add_sub_assoc q5.1]
        have hv : p * 10 + (x - 48) < 2147483648 := by omega
        obtain ⟨v, hvd⟩ : ∃ v, v = p * 10 + (x - 48) := ⟨_, rfl⟩
        rw [← hvd] at ev hv hsd
        by_cases q7 : v < 1
        · rw [if_neg (by omega)] at hsd
          rw [hsd]
          refine ⟨N, ?_, fun s' hs' => (by simp at hs'), fun a ha => rfl⟩
          simp (disch := omega) only [r_X5_accepts_0, r_X5_accepts_1, r_X5_accepts_4_0, r_X5_accepts_4_1, r_X5_accepts_4_2, r_X5_accepts_32, r_X5_accepts_33, r_X5_accepts_34, r_X5_accepts_37, r_X5_accepts_38, r_X5_accepts_39, r_X5_accepts_41, r_X5_accepts_44, r_X5_accepts_45, r_X5_accepts_48, r_X5_accepts_51, r_X5_accepts_52, r_X5_accepts_53, r_X5_accepts_56, r_X5_accepts_57, r_X5_accepts_58, r_X5_accepts_60, r_X5_accepts_63, r_X5_accepts_64, r_X5_accepts_67, r_X5_accepts_70, r_X5_accepts_71, r_X5_accepts_72, r_X5_accepts_75, r_X5_acceptsTimesDigit_0, r_X5_acceptsTimesDigit_1, r_X5_acceptsTimesDigit_4, r_X5_acceptsTimesDigit_7, r_X5_acceptsTimesDigit_8, r_X5_acceptsTimesDigit_11, r_X5_acceptsTimesDigit_12, r_X5_acceptsTimesDigit_15, r_X5_acceptsTimesDigit_16, r_X5_acceptsTimesDigit_17, r_X5_acceptsTimesDigit_18, r_X5_acceptsTimesDigit_21, r_X5_acceptsTimesDigit_23, r_X5_acceptsTimesDigit_30, r_X5_acceptsTimesDigit_31, r_X5_acceptsTimesDigit_32, r_X5_acceptsTimesDigit_35, r_X5_acceptsTimesDigit_36, r_X5_acceptsTimesDigit_38, r_X5_acceptsTimesDigit_41, r_X5_acceptsTimesDigit_42, r_X5_acceptsTimesDigit_43, r_X5_acceptsTimesDigit_44, r_X5_acceptsTimesDigit_47, r_X5_acceptsTimesDigit_48, r_X5_acceptsTimesDigit_51, r_X5_acceptsTimesDigit_52, r_X5_acceptsTimesDigit_53, r_X5_acceptsTimesDigit_54, r_X5_acceptsTimesDigit_55, r_X5_acceptsTimesDigit_56, r0, up2_o, up2_e, iN_ap, iN_up, i_ix, i_inb, i_lt, i_lt0, i_0lt, i_eq, i_ne0, i_00, i_11, i_01, i_10, i_b, i_rem2, n_rem, i_add, i_mul, i_sub, i_div, i_max, i_min, rdk_0, rdk_3, kp_none, kp_int, kp_ref, kp_long, kp_double, aK_v, aK_0, aK_ite, if_true, if_false, and_self, and_true, true_and, or_false, false_or, not_true_eq_false, not_false_eq_true, ite_self, ↓reduceIte, m2, i_eq, q44, hdg, l3, q6, hlp]
          simp (disch := omega) only [r_X5_accepts_0, r_X5_accepts_1, r_X5_accepts_4_0, r_X5_accepts_4_1, r_X5_accepts_4_2, r_X5_accepts_32, r_X5_accepts_33, r_X5_accepts_34, r_X5_accepts_37, r_X5_accepts_38, r_X5_accepts_39, r_X5_accepts_41, r_X5_accepts_44, r_X5_accepts_45, r_X5_accepts_48, r_X5_accepts_51, r_X5_accepts_52, r_X5_accepts_53, r_X5_accepts_56, r_X5_accepts_57, r_X5_accepts_58, r_X5_accepts_60, r_X5_accepts_63, r_X5_accepts_64, r_X5_accepts_67, r_X5_accepts_70, r_X5_accepts_71, r_X5_accepts_72, r_X5_accepts_75, r_X5_acceptsTimesDigit_24, r_X5_acceptsTimesDigit_25, r_X5_acceptsTimesDigit_26, r_X5_acceptsTimesDigit_28, r_X5_acceptsTimesDigit_29, ev]
          simp (disch := omega) only [r_X5_accepts_0, r_X5_accepts_1, r_X5_accepts_4_0, r_X5_accepts_4_1, r_X5_accepts_4_2, r_X5_accepts_32, r_X5_accepts_33, r_X5_accepts_34, r_X5_accepts_37, r_X5_accepts_38, r_X5_accepts_39, r_X5_accepts_41, r_X5_accepts_44, r_X5_accepts_45, r_X5_accepts_48, r_X5_accepts_51, r_X5_accepts_52, r_X5_accepts_53, r_X5_accepts_56, r_X5_accepts_57, r_X5_accepts_58, r_X5_accepts_60, r_X5_accepts_63, r_X5_accepts_64, r_X5_accepts_67, r_X5_accepts_70, r_X5_accepts_71, r_X5_accepts_72, r_X5_accepts_75, r_X5_acceptsTimesDigit_30, r_X5_acceptsTimesDigit_31, r_X5_acceptsTimesDigit_32, r_X5_acceptsTimesDigit_35, r_X5_acceptsTimesDigit_36, r_X5_acceptsTimesDigit_38, r_X5_acceptsTimesDigit_41, r_X5_acceptsTimesDigit_42, r_X5_acceptsTimesDigit_43, r_X5_acceptsTimesDigit_44, r_X5_acceptsTimesDigit_47, r_X5_acceptsTimesDigit_48, r_X5_acceptsTimesDigit_51, r_X5_acceptsTimesDigit_52, r_X5_acceptsTimesDigit_53, r_X5_acceptsTimesDigit_54, r_X5_acceptsTimesDigit_55, r_X5_acceptsTimesDigit_56, r0, up2_o, up2_e, iN_ap, iN_up, i_ix, i_inb, i_lt, i_lt0, i_0lt, i_eq, i_ne0, i_00, i_11, i_01, i_10, i_b, i_rem2, n_rem, i_add, i_mul, i_sub, i_div, i_max, i_min, rdk_0, rdk_3, kp_none, kp_int, kp_ref, kp_long, kp_double, aK_v, aK_0, aK_ite, if_true, if_false, and_self, and_true, true_and, or_false, false_or, not_true_eq_false, not_false_eq_true, ite_self, ↓reduceIte, q7]
          rfl
        · by_cases q8 : 60 < v
          · rw [if_neg (by omega)] at hsd
            rw [hsd]
            refine ⟨N, ?_, fun s' hs' => (by simp at hs'), fun a ha => rfl⟩
            simp (disch := omega) only [r_X5_accepts_0, r_X5_accepts_1, r_X5_accepts_4_0, r_X5_accepts_4_1, r_X5_accepts_4_2, r_X5_accepts_32, r_X5_accepts_33, r_X5_accepts_34, r_X5_accepts_37, r_X5_accepts_38, r_X5_accepts_39, r_X5_accepts_41, r_X5_accepts_44, r_X5_accepts_45, r_X5_accepts_48, r_X5_accepts_51, r_X5_accepts_52, r_X5_accepts_53, r_X5_accepts_56, r_X5_accepts_57, r_X5_accepts_58, r_X5_accepts_60, r_X5_accepts_63, r_X5_accepts_64, r_X5_accepts_67, r_X5_accepts_70, r_X5_accepts_71, r_X5_accepts_72, r_X5_accepts_75, r_X5_acceptsTimesDigit_0, r_X5_acceptsTimesDigit_1, r_X5_acceptsTimesDigit_4, r_X5_acceptsTimesDigit_7, r_X5_acceptsTimesDigit_8, r_X5_acceptsTimesDigit_11, r_X5_acceptsTimesDigit_12, r_X5_acceptsTimesDigit_15, r_X5_acceptsTimesDigit_16, r_X5_acceptsTimesDigit_17, r_X5_acceptsTimesDigit_18, r_X5_acceptsTimesDigit_21, r_X5_acceptsTimesDigit_23, r_X5_acceptsTimesDigit_30, r_X5_acceptsTimesDigit_31, r_X5_acceptsTimesDigit_32, r_X5_acceptsTimesDigit_35, r_X5_acceptsTimesDigit_36, r_X5_acceptsTimesDigit_38, r_X5_acceptsTimesDigit_41, r_X5_acceptsTimesDigit_42, r_X5_acceptsTimesDigit_43, r_X5_acceptsTimesDigit_44, r_X5_acceptsTimesDigit_47, r_X5_acceptsTimesDigit_48, r_X5_acceptsTimesDigit_51, r_X5_acceptsTimesDigit_52, r_X5_acceptsTimesDigit_53, r_X5_acceptsTimesDigit_54, r_X5_acceptsTimesDigit_55, r_X5_acceptsTimesDigit_56, r0, up2_o, up2_e, iN_ap, iN_up, i_ix, i_inb, i_lt, i_lt0, i_0lt, i_eq, i_ne0, i_00, i_11, i_01, i_10, i_b, i_rem2, n_rem, i_add, i_mul, i_sub, i_div, i_max, i_min, rdk_0, rdk_3, kp_none, kp_int, kp_ref, kp_long, kp_double, aK_v, aK_0, aK_ite, if_true, if_false, and_self, and_true, true_and, or_false, false_or, not_true_eq_false, not_false_eq_true, ite_self, ↓reduceIte, m2, i_eq, q44, hdg, l3, q6, hlp]
            simp (disch := omega) only [r_X5_accepts_0, r_X5_accepts_1, r_X5_accepts_4_0, r_X5_accepts_4_1, r_X5_accepts_4_2, r_X5_accepts_32, r_X5_accepts_33, r_X5_accepts_34, r_X5_accepts_37, r_X5_accepts_38, r_X5_accepts_39, r_X5_accepts_41, r_X5_accepts_44, r_X5_accepts_45, r_X5_accepts_48, r_X5_accepts_51, r_X5_accepts_52, r_X5_accepts_53, r_X5_accepts_56, r_X5_accepts_57, r_X5_accepts_58, r_X5_accepts_60, r_X5_accepts_63, r_X5_accepts_64, r_X5_accepts_67, r_X5_accepts_70, r_X5_accepts_71, r_X5_accepts_72, r_X5_accepts_75, r_X5_acceptsTimesDigit_24, r_X5_acceptsTimesDigit_25, r_X5_acceptsTimesDigit_26, r_X5_acceptsTimesDigit_28, r_X5_acceptsTimesDigit_29, ev]
            simp (disch := omega) only [r_X5_accepts_0, r_X5_accepts_1, r_X5_accepts_4_0, r_X5_accepts_4_1, r_X5_accepts_4_2, r_X5_accepts_32, r_X5_accepts_33, r_X5_accepts_34, r_X5_accepts_37, r_X5_accepts_38, r_X5_accepts_39, r_X5_accepts_41, r_X5_accepts_44, r_X5_accepts_45, r_X5_accepts_48, r_X5_accepts_51, r_X5_accepts_52, r_X5_accepts_53, r_X5_accepts_56, r_X5_accepts_57, r_X5_accepts_58, r_X5_accepts_60, r_X5_accepts_63, r_X5_accepts_64, r_X5_accepts_67, r_X5_accepts_70, r_X5_accepts_71, r_X5_accepts_72, r_X5_accepts_75, r_X5_acceptsTimesDigit_30, r_X5_acceptsTimesDigit_31, r_X5_acceptsTimesDigit_32, r_X5_acceptsTimesDigit_35, r_X5_acceptsTimesDigit_36, r_X5_acceptsTimesDigit_38, r_X5_acceptsTimesDigit_41, r_X5_acceptsTimesDigit_42, r_X5_acceptsTimesDigit_43, r_X5_acceptsTimesDigit_44, r_X5_acceptsTimesDigit_47, r_X5_acceptsTimesDigit_48, r_X5_acceptsTimesDigit_51, r_X5_acceptsTimesDigit_52, r_X5_acceptsTimesDigit_53, r_X5_acceptsTimesDigit_54, r_X5_acceptsTimesDigit_55, r_X5_acceptsTimesDigit_56, r0, up2_o, up2_e, iN_ap, iN_up, i_ix, i_inb, i_lt, i_lt0, i_0lt, i_eq, i_ne0, i_00, i_11, i_01, i_10, i_b, i_rem2, n_rem, i_add, i_mul, i_sub, i_div, i_max, i_min, rdk_0, rdk_3, kp_none, kp_int, kp_ref, kp_long, kp_double, aK_v, aK_0, aK_ite, if_true, if_false, and_self, and_true, true_and, or_false, false_or, not_true_eq_false, not_false_eq_true, ite_self, ↓reduceIte, q7, q8]
            rfl
          · rw [if_pos (by omega)] at hsd
            rw [hsd]
            obtain ⟨-, r1, r2, r3, r4, r5, r6⟩ := hr
            refine ⟨up2 N (r + 2) l'.length v, ?_, fun s' hs' => ?_, fun a ha => (by funext j; exact up2_o (by omega))⟩
            · simp (disch := omega) only [r_X5_accepts_0, r_X5_accepts_1, r_X5_accepts_4_0, r_X5_accepts_4_1, r_X5_accepts_4_2, r_X5_accepts_32, r_X5_accepts_33, r_X5_accepts_34, r_X5_accepts_37, r_X5_accepts_38, r_X5_accepts_39, r_X5_accepts_41, r_X5_accepts_44, r_X5_accepts_45, r_X5_accepts_48, r_X5_accepts_51, r_X5_accepts_52, r_X5_accepts_53, r_X5_accepts_56, r_X5_accepts_57, r_X5_accepts_58, r_X5_accepts_60, r_X5_accepts_63, r_X5_accepts_64, r_X5_accepts_67, r_X5_accepts_70, r_X5_accepts_71, r_X5_accepts_72, r_X5_accepts_75, r_X5_acceptsTimesDigit_0, r_X5_acceptsTimesDigit_1, r_X5_acceptsTimesDigit_4, r_X5_acceptsTimesDigit_7, r_X5_acceptsTimesDigit_8, r_X5_acceptsTimesDigit_11, r_X5_acceptsTimesDigit_12, r_X5_acceptsTimesDigit_15, r_X5_acceptsTimesDigit_16, r_X5_acceptsTimesDigit_17, r_X5_acceptsTimesDigit_18, r_X5_acceptsTimesDigit_21, r_X5_acceptsTimesDigit_23, r_X5_acceptsTimesDigit_30, r_X5_acceptsTimesDigit_31, r_X5_acceptsTimesDigit_32, r_X5_acceptsTimesDigit_35, r_X5_acceptsTimesDigit_36, r_X5_acceptsTimesDigit_38, r_X5_acceptsTimesDigit_41, r_X5_acceptsTimesDigit_42, r_X5_acceptsTimesDigit_43, r_X5_acceptsTimesDigit_44, r_X5_acceptsTimesDigit_47, r_X5_acceptsTimesDigit_48, r_X5_acceptsTimesDigit_51, r_X5_acceptsTimesDigit_52, r_X5_acceptsTimesDigit_53, r_X5_acceptsTimesDigit_54, r_X5_acceptsTimesDigit_55, r_X5_acceptsTimesDigit_56, r0, up2_o, up2_e, iN_ap, iN_up, i_ix, i_inb, i_lt, i_lt0, i_0lt, i_eq, i_ne0, i_00, i_11, i_01, i_10, i_b, i_rem2, n_rem, i_add, i_mul, i_sub, i_div, i_max, i_min, rdk_0, rdk_3, kp_none, kp_int, kp_ref, kp_long, kp_double, aK_v, aK_0, aK_ite, if_true, if_false, and_self, and_true, true_and, or_false, false_or, not_true_eq_false, not_false_eq_true, ite_self, ↓reduceIte, m2, i_eq, q44, hdg, l3, q6, hlp]
              simp (disch := omega) only [r_X5_accepts_0, r_X5_accepts_1, r_X5_accepts_4_0, r_X5_accepts_4_1, r_X5_accepts_4_2, r_X5_accepts_32, r_X5_accepts_33, r_X5_accepts_34, r_X5_accepts_37, r_X5_accepts_38, r_X5_accepts_39, r_X5_accepts_41, r_X5_accepts_44, r_X5_accepts_45, r_X5_accepts_48, r_X5_accepts_51, r_X5_accepts_52, r_X5_accepts_53, r_X5_accepts_56, r_X5_accepts_57, r_X5_accepts_58, r_X5_accepts_60, r_X5_accepts_63, r_X5_accepts_64, r_X5_accepts_67, r_X5_accepts_70, r_X5_accepts_71, r_X5_accepts_72, r_X5_accepts_75, r_X5_acceptsTimesDigit_24, r_X5_acceptsTimesDigit_25, r_X5_acceptsTimesDigit_26, r_X5_acceptsTimesDigit_28, r_X5_acceptsTimesDigit_29, ev]
              simp (disch := omega) only [r_X5_accepts_0, r_X5_accepts_1, r_X5_accepts_4_0, r_X5_accepts_4_1, r_X5_accepts_4_2, r_X5_accepts_32, r_X5_accepts_33, r_X5_accepts_34, r_X5_accepts_37, r_X5_accepts_38, r_X5_accepts_39, r_X5_accepts_41, r_X5_accepts_44, r_X5_accepts_45, r_X5_accepts_48, r_X5_accepts_51, r_X5_accepts_52, r_X5_accepts_53, r_X5_accepts_56, r_X5_accepts_57, r_X5_accepts_58, r_X5_accepts_60, r_X5_accepts_63, r_X5_accepts_64, r_X5_accepts_67, r_X5_accepts_70, r_X5_accepts_71, r_X5_accepts_72, r_X5_accepts_75, r_X5_acceptsTimesDigit_30, r_X5_acceptsTimesDigit_31, r_X5_acceptsTimesDigit_32, r_X5_acceptsTimesDigit_35, r_X5_acceptsTimesDigit_36, r_X5_acceptsTimesDigit_38, r_X5_acceptsTimesDigit_41, r_X5_acceptsTimesDigit_42, r_X5_acceptsTimesDigit_43, r_X5_acceptsTimesDigit_44, r_X5_acceptsTimesDigit_47, r_X5_acceptsTimesDigit_48, r_X5_acceptsTimesDigit_51, r_X5_acceptsTimesDigit_52, r_X5_acceptsTimesDigit_53, r_X5_acceptsTimesDigit_54, r_X5_acceptsTimesDigit_55, r_X5_acceptsTimesDigit_56, r0, r2, r4, r6, up2_o, up2_e, iN_ap, iN_up, i_ix, i_inb, i_lt, i_lt0, i_0lt, i_eq, i_ne0, i_00, i_11, i_01, i_10, i_b, i_rem2, n_rem, i_add, i_mul, i_sub, i_div, i_max, i_min, rdk_0, rdk_3, kp_none, kp_int, kp_ref, kp_long, kp_double, aK_v, aK_0, aK_ite, if_true, if_false, and_self, and_true, true_and, or_false, false_or, not_true_eq_false, not_false_eq_true, ite_self, ↓reduceIte, q7, q8, l3, Nat.add_sub_cancel]
              rfl
            · cases hs'
              have := HC_put (aw' := 2) (p' := v) hm
              refine ⟨?_, ?_, ?_⟩
              · have := this.1
                rw [up2_o (by omega)] at this
                exact this
              · rw [up2_o (by omega)]
                exact m2
              · refine At3_congr this.2.2 (fun i _ => ?_) (fun i _ => ?_)
                · rw [up2_o (a := r) (by omega)]
                · rw [up2_o (a := r) (by omega)]
      · rw [if_neg q5] at hdg
        rw [if_neg (fun z => q5 z.1)] at hsd
        rw [hsd]
        refine ⟨N, ?_, fun s' hs' => (by simp at hs'), fun a ha => rfl⟩
        simp (disch := omega) only [r_X5_accepts_0, r_X5_accepts_1, r_X5_accepts_4_0, r_X5_accepts_4_1, r_X5_accepts_4_2, r_X5_accepts_32, r_X5_accepts_33, r_X5_accepts_34, r_X5_accepts_37, r_X5_accepts_38, r_X5_accepts_39, r_X5_accepts_41, r_X5_accepts_44, r_X5_accepts_45, r_X5_accepts_48, r_X5_accepts_51, r_X5_accepts_52, r_X5_accepts_53, r_X5_accepts_56, r_X5_accepts_57, r_X5_accepts_58, r_X5_accepts_60, r_X5_accepts_63, r_X5_accepts_64, r_X5_accepts_67, r_X5_accepts_70, r_X5_accepts_71, r_X5_accepts_72, r_X5_accepts_75, r_X5_acceptsTimesDigit_0, r_X5_acceptsTimesDigit_1, r_X5_acceptsTimesDigit_4, r_X5_acceptsTimesDigit_7, r_X5_acceptsTimesDigit_8, r_X5_acceptsTimesDigit_11, r_X5_acceptsTimesDigit_12, r_X5_acceptsTimesDigit_15, r_X5_acceptsTimesDigit_16, r_X5_acceptsTimesDigit_17, r_X5_acceptsTimesDigit_18, r_X5_acceptsTimesDigit_21, r_X5_acceptsTimesDigit_23, r_X5_acceptsTimesDigit_24, r_X5_acceptsTimesDigit_25, r_X5_acceptsTimesDigit_26, r_X5_acceptsTimesDigit_28, r_X5_acceptsTimesDigit_29, r_X5_acceptsTimesDigit_30, r_X5_acceptsTimesDigit_31, r_X5_acceptsTimesDigit_32, r_X5_acceptsTimesDigit_35, r_X5_acceptsTimesDigit_36, r_X5_acceptsTimesDigit_38, r_X5_acceptsTimesDigit_41, r_X5_acceptsTimesDigit_42, r_X5_acceptsTimesDigit_43, r_X5_acceptsTimesDigit_44, r_X5_acceptsTimesDigit_47, r_X5_acceptsTimesDigit_48, r_X5_acceptsTimesDigit_51, r_X5_acceptsTimesDigit_52, r_X5_acceptsTimesDigit_53, r_X5_acceptsTimesDigit_54, r_X5_acceptsTimesDigit_55, r_X5_acceptsTimesDigit_56, r0, up2_o, up2_e, iN_ap, iN_up, i_ix, i_inb, i_lt, i_lt0, i_0lt, i_eq, i_ne0, i_00, i_11, i_01, i_10, i_b, i_rem2, n_rem, i_add, i_mul, i_sub, i_div, i_max, i_min, rdk_0, rdk_3, kp_none, kp_int, kp_ref, kp_long, kp_double, aK_v, aK_0, aK_ite, if_true, if_false, and_self, and_true, true_and, or_false, false_or, not_true_eq_false, not_false_eq_true, ite_self, ↓reduceIte, m2, i_eq, q44, hdg]
        rfl
end Ce
