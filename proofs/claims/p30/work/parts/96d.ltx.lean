/-! the law appends a text -/
/-- the buffer holds tx, and the reader stands at s -/
def TX (f : Nat → aP2 → Option aP2) (S : aSt) (N : Nat → Nat → Nat) (tx : List Nat) (s : aP2) : Prop := CI N (S.1, S.2.1, tx) ∧ SOK (S.1, S.2.1, tx) ∧ (pF f tx (0, [])).2 = some s
theorem pF_snoc {f : Nat → aP2 → Option aP2} {x : Nat} {s' s2 : aP2} : ∀ (l : List Nat) (s : aP2), (pF f l s).2 = some s' → f x s' = some s2 → (pF f (l ++ [x]) s).2 = some s2
  | [], s, h, h2 => by
    have e : s = s' := Option.some.inj h
    subst e
    show (match f x s with | none => ((0 : Nat), (none : Option aP2)) | some s' => ((pF f [] s').1 + 1, (pF f [] s').2)).2 = _
    rw [h2]
    rfl
  | y :: l, s, h, h2 => by
    unfold pF at h
    rw [List.cons_append]
    unfold pF
    cases hs : f y s with
    | none =>
      rw [hs] at h
      cases h
    | some s1 =>
      rw [hs] at h
      exact pF_snoc l s1 h h2
section Ly
variable {Z : aZ} {N : Nat → Nat → Nat} {L : Nat → Nat → Int64} {u : Nat × Nat} {S : aSt} {f : Nat → aP2 → Option aP2} {tx : List Nat} {s s' : aP2}
theorem TX_cg {N' : Nat → Nat → Nat} (h : TX f S N tx s) (he : ∀ a, (a < 144 ∨ 1000 ≤ a) → N' a = N a) : TX f S N' tx s := ⟨CI_cg h.1 he, h.2⟩
theorem tx_app {x : Nat} (hC : ZC Z) (T : TX f S N tx s) (hx : 33 ≤ x ∧ x ≤ 126) (hl : tx.length < 60) (hf : f x s = some s') :
    ∃ N', ex 66 0 [some (.ref 0), some (.int (nI x))] [] (Z, iN N, L, u) = some (.inl (some (.int (nI (tx.length + 1)))), (Z, iN N', L, u)) ∧ TX f S N' (tx ++ [x]) s' ∧ ∀ a, 144 ≤ a → N' a = N a := by
  obtain ⟨t1, t2, t3⟩ := T
  have hr : oApp (S.1, S.2.1, tx) x = (0, tx.length + 1, S.1, S.2.1, tx ++ [x]) := by
    unfold oApp
    rw [if_neg (by omega), if_neg (show ¬ tx.length = 60 by omega)]
  obtain ⟨N', c1, c2, c3⟩ := CR_0 (q_append (L := L) (c := u) (x := x) hC t1 t2 (by omega)) hr
  have h2 := SOK_app (x := x) t2
  rw [hr] at h2
  exact ⟨N', c1, ⟨c2, h2, pF_snoc _ _ t3 hf⟩, c3⟩
theorem tx_clr (hC : ZC Z) (hI : CI N S) (hS : SOK S) : ∃ N' v, ex 67 0 [some (.ref 0)] [] (Z, iN N, L, u) = some (.inl (some (.int (nI v))), (Z, iN N', L, u)) ∧ TX f S N' [] (0, []) ∧ ∀ a, 144 ≤ a → N' a = N a := by
  obtain ⟨N', c1, c2, c3⟩ := CR_0 (q_clear (L := L) (c := u) hC hI) (S2 := (S.1, S.2.1, [])) rfl
  exact ⟨N', _, c1, ⟨c2, SOK_clr hS, rfl⟩, c3⟩
theorem hS_dg {w p d : Nat} {l : List (Nat × Nat)} (hd : d < 10) (h : 1 ≤ p * 10 + d ∧ p * 10 + d ≤ 9999) : hS (48 + d) (2, (w, p) :: l) = some (2, (w, p * 10 + d) :: l) := by
  show (if 48 + d = 44 then (if 1 ≤ p ∧ l.length + 1 < 6 then some ((0 : Nat), (w, p) :: l) else none) else if (48 ≤ 48 + d ∧ 48 + d ≤ 57) ∧ 1 ≤ p * 10 + (48 + d - 48) ∧ p * 10 + (48 + d - 48) ≤ 9999 then some (2, (w, p * 10 + (48 + d - 48)) :: l) else none) = _
  rw [if_neg (by omega), Nat.add_sub_cancel_left, if_pos (by omega)]
theorem hS_cm {w p : Nat} {l : List (Nat × Nat)} (h : 1 ≤ p ∧ l.length + 1 < 6) : hS 44 (2, (w, p) :: l) = some (0, (w, p) :: l) := by
  show (if (44 : Nat) = 44 then (if 1 ≤ p ∧ l.length + 1 < 6 then some ((0 : Nat), (w, p) :: l) else none) else (if (48 ≤ 44 ∧ 44 ≤ 57) ∧ 1 ≤ p * 10 + (44 - 48) ∧ p * 10 + (44 - 48) ≤ 9999 then some ((2 : Nat), (w, p * 10 + (44 - 48)) :: l) else none)) = _
  rw [if_pos rfl, if_pos h]
theorem hS_wt {w : Nat} {l : List (Nat × Nat)} (h : (1 ≤ w ∧ w ≤ 3) ∧ l.length < 6) : hS (48 + w) (0, l) = some (1, (w, 0) :: l) := by
  show (if (49 ≤ 48 + w ∧ 48 + w ≤ 51) ∧ l.length < 6 then some ((1 : Nat), (48 + w - 48, 0) :: l) else none) = _
  rw [if_pos (by omega), Nat.add_sub_cancel_left]
theorem hS_co {l : List (Nat × Nat)} : hS 58 (1, l) = some (2, l) := rfl
section Nu
variable {w v : Nat} {l : List (Nat × Nat)}
theorem lz_num0 (hC : ZC Z) (T : TX hS S N tx (2, (w, v / 10) :: l)) (hv : 1 ≤ v ∧ v ≤ 9999) (hl : tx.length < 60) :
    ∃ N' tx', ex 110 68 [some (.ref 0), some (.int (nI v))] [] (Z, iN N, L, u) = some (.inl (some (.int (nI 1))), (Z, iN N', L, u)) ∧ TX hS S N' tx' (2, (w, v) :: l) ∧ tx'.length ≤ tx.length + 1 ∧ ∀ a, 144 ≤ a → N' a = N a := by
  have e0 : v / 10 * 10 + v % 10 = v := by omega
  obtain ⟨N', h1, h2, h3⟩ := tx_app (L := L) (u := u) (x := 48 + v % 10) hC T (by omega) hl (hS_dg (by omega) (by omega))
  rw [e0] at h2
  refine ⟨N', _, ?_, h2, by rw [List.length_append]; exact Nat.le_refl _, h3⟩
  have z0 : Z.1 0 = 10 := hC.1.1
  have q : 0 < tx.length + 1 := by omega
  simp (disch := omega) only [r_L_number_68, r_L_number_69, r_L_number_71, r_L_number_72, r_L_number_74, r_L_number_75, r_L_number_76, r_L_number_79, r_L_number_82, r_L_number_83, r_L_number_86, r_L_number_87, up2_o, up2_e, iN_ap, iN_up, i_ix, i_inb, i_lt, i_lt0, i_0lt, i_eq, i_ne0, i_00, i_11, i_01, i_10, i_b, i_rem2, n_rem, i_add, i_mul, i_sub, i_div, i_max, i_min, rdk_0, rdk_3, kp_none, kp_int, kp_ref, kp_long, kp_double, aK_v, aK_0, aK_ite, if_true, if_false, and_self, and_true, true_and, or_false, false_or, not_true_eq_false, not_false_eq_true, ite_self, ↓reduceIte, eq_self, Bool.false_eq_true, z0, h1, q]
theorem lz_num1 (hC : ZC Z) (T : TX hS S N tx (2, (w, v / 100) :: l)) (hv : 1 ≤ v ∧ v ≤ 9999) (hl : tx.length + 1 < 60) :
    ∃ N' tx', ex 110 45 [some (.ref 0), some (.int (nI v))] [] (Z, iN N, L, u) = some (.inl (some (.int (nI 1))), (Z, iN N', L, u)) ∧ TX hS S N' tx' (2, (w, v) :: l) ∧ tx'.length ≤ tx.length + 2 ∧ ∀ a, 144 ≤ a → N' a = N a := by
  by_cases c : v < 10
  · rw [show v / 100 = v / 10 by omega] at T
    obtain ⟨N', tx', h1, h2, h3, h4⟩ := lz_num0 (L := L) (u := u) hC T hv (by omega)
    refine ⟨N', tx', ?_, h2, by omega, h4⟩
    rw [← h1]
    simp (disch := omega) only [r_L_number_45, r_L_number_46, r_L_number_48, up2_o, up2_e, iN_ap, iN_up, i_ix, i_inb, i_lt, i_lt0, i_0lt, i_eq, i_ne0, i_00, i_11, i_01, i_10, i_b, i_rem2, n_rem, i_add, i_mul, i_sub, i_div, i_max, i_min, rdk_0, rdk_3, kp_none, kp_int, kp_ref, kp_long, kp_double, aK_v, aK_0, aK_ite, if_true, if_false, and_self, and_true, true_and, or_false, false_or, not_true_eq_false, not_false_eq_true, ite_self, ↓reduceIte, eq_self, Bool.false_eq_true, c]
  · have e0 : v / 100 * 10 + v / 10 % 10 = v / 10 := by omega
    obtain ⟨N1, g1, g2, g3⟩ := tx_app (L := L) (u := u) (x := 48 + v / 10 % 10) hC T (by omega) (by omega) (hS_dg (by omega) (by omega))
    rw [e0] at g2
    obtain ⟨N', tx', h1, h2, h3, h4⟩ := lz_num0 (L := L) (u := u) hC g2 hv (by rw [List.length_append, List.length_singleton]; omega)
    rw [List.length_append, List.length_singleton] at h3
    refine ⟨N', tx', ?_, h2, by omega, fun a ha => (h4 a ha).trans (g3 a ha)⟩
    rw [← h1]
    have z0 : Z.1 0 = 10 := hC.1.1
    have q : 0 < tx.length + 1 := by omega
    simp (disch := omega) only [r_L_number_45, r_L_number_46, r_L_number_48, r_L_number_51, r_L_number_52, r_L_number_54, r_L_number_55, r_L_number_57, r_L_number_58, r_L_number_60, r_L_number_61, r_L_number_62, r_L_number_65, up2_o, up2_e, iN_ap, iN_up, i_ix, i_inb, i_lt, i_lt0, i_0lt, i_eq, i_ne0, i_00, i_11, i_01, i_10, i_b, i_rem2, n_rem, i_add, i_mul, i_sub, i_div, i_max, i_min, rdk_0, rdk_3, kp_none, kp_int, kp_ref, kp_long, kp_double, aK_v, aK_0, aK_ite, if_true, if_false, and_self, and_true, true_and, or_false, false_or, not_true_eq_false, not_false_eq_true, ite_self, ↓reduceIte, eq_self, Bool.false_eq_true, z0, g1, q, c]
theorem lz_num2 (hC : ZC Z) (T : TX hS S N tx (2, (w, v / 1000) :: l)) (hv : 1 ≤ v ∧ v ≤ 9999) (hl : tx.length + 2 < 60) :
    ∃ N' tx', ex 110 22 [some (.ref 0), some (.int (nI v))] [] (Z, iN N, L, u) = some (.inl (some (.int (nI 1))), (Z, iN N', L, u)) ∧ TX hS S N' tx' (2, (w, v) :: l) ∧ tx'.length ≤ tx.length + 3 ∧ ∀ a, 144 ≤ a → N' a = N a := by
  by_cases c : v < 100
  · rw [show v / 1000 = v / 100 by omega] at T
    obtain ⟨N', tx', h1, h2, h3, h4⟩ := lz_num1 (L := L) (u := u) hC T hv (by omega)
    refine ⟨N', tx', ?_, h2, by omega, h4⟩
    rw [← h1]
    simp (disch := omega) only [r_L_number_22, r_L_number_23, r_L_number_25, up2_o, up2_e, iN_ap, iN_up, i_ix, i_inb, i_lt, i_lt0, i_0lt, i_eq, i_ne0, i_00, i_11, i_01, i_10, i_b, i_rem2, n_rem, i_add, i_mul, i_sub, i_div, i_max, i_min, rdk_0, rdk_3, kp_none, kp_int, kp_ref, kp_long, kp_double, aK_v, aK_0, aK_ite, if_true, if_false, and_self, and_true, true_and, or_false, false_or, not_true_eq_false, not_false_eq_true, ite_self, ↓reduceIte, eq_self, Bool.false_eq_true, c]
  · have e0 : v / 1000 * 10 + v / 100 % 10 = v / 100 := by omega
    obtain ⟨N1, g1, g2, g3⟩ := tx_app (L := L) (u := u) (x := 48 + v / 100 % 10) hC T (by omega) (by omega) (hS_dg (by omega) (by omega))
    rw [e0] at g2
    obtain ⟨N', tx', h1, h2, h3, h4⟩ := lz_num1 (L := L) (u := u) hC g2 hv (by rw [List.length_append, List.length_singleton]; omega)
    rw [List.length_append, List.length_singleton] at h3
    refine ⟨N', tx', ?_, h2, by omega, fun a ha => (h4 a ha).trans (g3 a ha)⟩
    rw [← h1]
    have z0 : Z.1 0 = 10 := hC.1.1
    have q : 0 < tx.length + 1 := by omega
    simp (disch := omega) only [r_L_number_22, r_L_number_23, r_L_number_25, r_L_number_28, r_L_number_29, r_L_number_31, r_L_number_32, r_L_number_34, r_L_number_35, r_L_number_37, r_L_number_38, r_L_number_39, r_L_number_42, up2_o, up2_e, iN_ap, iN_up, i_ix, i_inb, i_lt, i_lt0, i_0lt, i_eq, i_ne0, i_00, i_11, i_01, i_10, i_b, i_rem2, n_rem, i_add, i_mul, i_sub, i_div, i_max, i_min, rdk_0, rdk_3, kp_none, kp_int, kp_ref, kp_long, kp_double, aK_v, aK_0, aK_ite, if_true, if_false, and_self, and_true, true_and, or_false, false_or, not_true_eq_false, not_false_eq_true, ite_self, ↓reduceIte, eq_self, Bool.false_eq_true, z0, g1, q, c]
theorem lz_num (hC : ZC Z) (T : TX hS S N tx (2, (w, 0) :: l)) (hv : 1 ≤ v ∧ v ≤ 9999) (hl : tx.length + 3 < 60) :
    ∃ N' tx', ex 110 0 [some (.ref 0), some (.int (nI v))] [] (Z, iN N, L, u) = some (.inl (some (.int (nI 1))), (Z, iN N', L, u)) ∧ TX hS S N' tx' (2, (w, v) :: l) ∧ tx'.length ≤ tx.length + 4 ∧ ∀ a, 144 ≤ a → N' a = N a := by
  by_cases c : v < 1000
  · rw [show 0 = v / 1000 by omega] at T
    obtain ⟨N', tx', h1, h2, h3, h4⟩ := lz_num2 (L := L) (u := u) hC T hv (by omega)
    refine ⟨N', tx', ?_, h2, by omega, h4⟩
    rw [← h1]
    simp (disch := omega) only [r_L_number_0, r_L_number_1, r_L_number_4, up2_o, up2_e, iN_ap, iN_up, i_ix, i_inb, i_lt, i_lt0, i_0lt, i_eq, i_ne0, i_00, i_11, i_01, i_10, i_b, i_rem2, n_rem, i_add, i_mul, i_sub, i_div, i_max, i_min, rdk_0, rdk_3, kp_none, kp_int, kp_ref, kp_long, kp_double, aK_v, aK_0, aK_ite, if_true, if_false, and_self, and_true, true_and, or_false, false_or, not_true_eq_false, not_false_eq_true, ite_self, ↓reduceIte, eq_self, Bool.false_eq_true, c]
  · have e0 : 0 * 10 + v / 1000 = v / 1000 := by omega
    obtain ⟨N1, g1, g2, g3⟩ := tx_app (L := L) (u := u) (x := 48 + v / 1000) hC T (by omega) (by omega) (hS_dg (by omega) (by omega))
    rw [e0] at g2
    obtain ⟨N', tx', h1, h2, h3, h4⟩ := lz_num2 (L := L) (u := u) hC g2 hv (by rw [List.length_append, List.length_singleton]; omega)
    rw [List.length_append, List.length_singleton] at h3
    refine ⟨N', tx', ?_, h2, by omega, fun a ha => (h4 a ha).trans (g3 a ha)⟩
    rw [← h1]
    have z0 : Z.1 0 = 10 := hC.1.1
    have q : 0 < tx.length + 1 := by omega
    simp (disch := omega) only [r_L_number_0, r_L_number_1, r_L_number_4, r_L_number_7, r_L_number_8, r_L_number_10, r_L_number_11, r_L_number_14, r_L_number_15, r_L_number_16, r_L_number_19, up2_o, up2_e, iN_ap, iN_up, i_ix, i_inb, i_lt, i_lt0, i_0lt, i_eq, i_ne0, i_00, i_11, i_01, i_10, i_b, i_rem2, n_rem, i_add, i_mul, i_sub, i_div, i_max, i_min, rdk_0, rdk_3, kp_none, kp_int, kp_ref, kp_long, kp_double, aK_v, aK_0, aK_ite, if_true, if_false, and_self, and_true, true_and, or_false, false_or, not_true_eq_false, not_false_eq_true, ite_self, ↓reduceIte, eq_self, Bool.false_eq_true, z0, g1, q, c]
end Nu
end Ly
