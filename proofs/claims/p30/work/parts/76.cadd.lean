/-! the class: a house is added, winds are set -/
theorem CY_pHX {f g : Nat → Nat} {h : Nat} {q : List Nat} (hh : h < 6) : ∀ (ls : List (Nat × Nat)) (i : Nat) (N : Nat → Nat → Nat) (R : aY), i + ls.length ≤ 6 → (∀ j e, ls[j]? = some e → f (i + j) = e.1 ∧ g (i + j) = e.2) → CY N 1 R q → CY (pHX 1 (h * 6) f g ls.length i N) 1 (ahX h ls i R) q
  | [], _, _, _, _, _, hc => hc
  | e :: ls, i, N, R, hl, hf, hc => by
    rw [List.length_cons] at hl
    obtain ⟨f1, f2⟩ := hf 0 e rfl
    rw [Nat.add_zero] at f1 f2
    unfold ahX
    show CY (pHX 1 (h * 6) f g ls.length (i + 1) _) 1 _ q
    rw [f1, f2]
    exact CY_pHX hh ls (i + 1) _ _ (by omega) (fun j e' he => by rw [show i + 1 + j = i + (j + 1) by omega]; exact hf (j + 1) e' he) (CY_w (k := 7) (CY_w (k := 6) hc (n := 36) rfl (show h * 6 + i < 36 by omega) (by omega) (by omega)) (n := 36) rfl (show h * 6 + i < 36 by omega) (by omega) (by omega))
theorem CY_pkX {v : Nat} {q : List Nat} : ∀ (k l : Nat) (N : Nat → Nat → Nat) (R : aY), l + k ≤ 60 → CY N 1 R q → CY (pkX 1 v k l N) 1 (skX v k l R) q
  | 0, _, _, _, _, hc => hc
  | k + 1, l, N, R, hl, hc => by
    unfold pkX skX
    exact CY_pkX k (l + 1) _ _ (by omega) (CY_w (k := 1) hc (n := 60) rfl (show l < 60 by omega) (by omega) (by omega))
theorem tot_cons {e : Nat × Nat} {l : List (Nat × Nat)} : tot (e :: l) = e.2 + tot l := by
  unfold tot
  rfl
theorem tot_app {e : Nat × Nat} : ∀ {l : List (Nat × Nat)}, tot (l ++ [e]) = tot l + e.2
  | [] => by
    show tot [e] = tot [] + e.2
    rw [tot_cons]
    show e.2 + 0 = 0 + e.2
    omega
  | x :: l => by
    rw [List.cons_append, tot_cons, tot_cons, tot_app, Nat.add_assoc]
theorem tot_sum {f g : Nat → Nat} : ∀ (l : List (Nat × Nat)), At3 f g l.reverse → sumN g 0 l.length = tot l.reverse
  | [], _ => rfl
  | e :: l, h => by
    rw [List.reverse_cons] at h ⊢
    obtain ⟨h1, -, h3⟩ := At3_app.mp h
    rw [List.length_reverse] at h3
    rw [tot_app, List.length_cons, sumN_succ, Nat.zero_add, h3, tot_sum l h1]
theorem CY_pwX {f g : Nat → Nat} {q : List Nat} : ∀ (ls : List (Nat × Nat)) (i : Nat) (N : Nat → Nat → Nat) (R : aY), sumN f 0 i + tot ls ≤ 60 → (∀ j e, ls[j]? = some e → g (i + j) = e.1 ∧ f (i + j) = e.2) → CY N 1 R q → CY (pwX 1 f g ls.length i N) 1 (swX ls (sumN f 0 i) R) q
  | [], _, _, _, _, _, hc => hc
  | e :: ls, i, N, R, hl, hf, hc => by
    rw [tot_cons] at hl
    obtain ⟨f1, f2⟩ := hf 0 e rfl
    rw [Nat.add_zero] at f1 f2
    unfold swX
    show CY (pwX 1 f g ls.length (i + 1) (pkX 1 (g i) (f i) (sumN f 0 i) N)) 1 _ q
    rw [f1, f2]
    have := CY_pwX (f := f) (g := g) ls (i + 1) (pkX 1 e.1 e.2 (sumN f 0 i) N) (skX e.1 e.2 (sumN f 0 i) R) (by rw [sumN_succ, Nat.zero_add, f2]; omega) (fun j e' he => by rw [show i + 1 + j = i + (j + 1) by omega]; exact hf (j + 1) e' he) (CY_pkX e.2 (sumN f 0 i) N R (by omega) hc)
    rw [sumN_succ, Nat.zero_add, f2] at this
    exact this
section Cg
variable {Z : aZ} {L : Nat → Nat → Int64} {c : Nat × Nat} {N : Nat → Nat → Nat}
theorem s_hEndC {s : aP2} (hC : ZC Z) (hm : HC N 138 s) (hb : HB s) : ex 3 0 [some (.ref 138)] [] (Z, iN N, L, c) = some (.inl (some (.int (nI (if hEnd s = true then 1 else 0)))), (Z, iN N, L, c)) := by
  obtain ⟨aw, l⟩ := s
  obtain ⟨b1, b2, b3, b4, b5⟩ := hb
  obtain ⟨m1, m2, m3⟩ := id hm
  dsimp only at b1 b2 b3 b4 b5 m1 m2 m3
  have hr : RAt Z 138 4 6 := hC.2.2.2.2.2.2.1
  have r0 := hr.1
  rcases (show aw = 0 ∨ aw = 1 ∨ aw = 2 by omega) with rfl | rfl | rfl
  · clear b4 b5
    simp (disch := omega) only [r_X0_isAtEnd_0, r_X0_isAtEnd_1, r_X0_isAtEnd_4, r_X0_isAtEnd_5, r_X0_isAtEnd_8, r_X0_isAtEnd_9, r_X0_isAtEnd_12, r_X0_isAtEnd_15, r_X0_isAtEnd_16, r_X0_isAtEnd_19, r_X0_isAtEnd_20, r0, up2_o, up2_e, iN_ap, iN_up, i_ix, i_inb, i_lt, i_lt0, i_0lt, i_eq, i_ne0, i_00, i_11, i_01, i_10, i_b, i_rem2, n_rem, i_add, i_mul, i_sub, i_div, i_max, i_min, rdk_0, rdk_3, kp_none, kp_int, kp_ref, kp_long, kp_double, aK_v, aK_0, aK_ite, if_true, if_false, and_self, and_true, true_and, or_false, false_or, not_true_eq_false, not_false_eq_true, ite_self, ↓reduceIte, m2, i_eq, if_true, if_false]
    rfl
  · clear b4 b5
    simp (disch := omega) only [r_X0_isAtEnd_0, r_X0_isAtEnd_1, r_X0_isAtEnd_4, r_X0_isAtEnd_5, r_X0_isAtEnd_8, r_X0_isAtEnd_9, r_X0_isAtEnd_12, r_X0_isAtEnd_15, r_X0_isAtEnd_16, r_X0_isAtEnd_19, r_X0_isAtEnd_20, r0, up2_o, up2_e, iN_ap, iN_up, i_ix, i_inb, i_lt, i_lt0, i_0lt, i_eq, i_ne0, i_00, i_11, i_01, i_10, i_b, i_rem2, n_rem, i_add, i_mul, i_sub, i_div, i_max, i_min, rdk_0, rdk_3, kp_none, kp_int, kp_ref, kp_long, kp_double, aK_v, aK_0, aK_ite, if_true, if_false, and_self, and_true, true_and, or_false, false_or, not_true_eq_false, not_false_eq_true, ite_self, ↓reduceIte, m2, i_eq, if_true, if_false]
    rfl
  · obtain ⟨e, l', hl, k1, k2⟩ := b5 (by omega)
    clear b5 b4 k2
    subst hl
    obtain ⟨w, p⟩ := e
    obtain ⟨l1, l2, l3⟩ := HC_last hm
    have bp := (b3 _ List.mem_cons_self).2
    dsimp only at bp
    have hlp := s_hLastPrice (N := N) (L := L) (c := c) hr (by simp at b2; omega)
    rw [l3, if_neg (by omega), Nat.add_sub_cancel, l2] at hlp
    have hd : hEnd (2, (w, p) :: l') = Nat.ble 1 p := rfl
    rw [hd]
    by_cases q : p = 0
    · subst q
      simp (disch := omega) only [r_X0_isAtEnd_0, r_X0_isAtEnd_1, r_X0_isAtEnd_4, r_X0_isAtEnd_5, r_X0_isAtEnd_8, r_X0_isAtEnd_9, r_X0_isAtEnd_12, r_X0_isAtEnd_15, r_X0_isAtEnd_16, r_X0_isAtEnd_19, r_X0_isAtEnd_20, r0, up2_o, up2_e, iN_ap, iN_up, i_ix, i_inb, i_lt, i_lt0, i_0lt, i_eq, i_ne0, i_00, i_11, i_01, i_10, i_b, i_rem2, n_rem, i_add, i_mul, i_sub, i_div, i_max, i_min, rdk_0, rdk_3, kp_none, kp_int, kp_ref, kp_long, kp_double, aK_v, aK_0, aK_ite, if_true, if_false, and_self, and_true, true_and, or_false, false_or, not_true_eq_false, not_false_eq_true, ite_self, ↓reduceIte, m2, i_eq, if_true, if_false, hlp]
      rfl
    · have q1 : 0 < p := by omega
      rw [if_pos (Nat.ble_eq_true_of_le (by omega))]
      simp (disch := omega) only [r_X0_isAtEnd_0, r_X0_isAtEnd_1, r_X0_isAtEnd_4, r_X0_isAtEnd_5, r_X0_isAtEnd_8, r_X0_isAtEnd_9, r_X0_isAtEnd_12, r_X0_isAtEnd_15, r_X0_isAtEnd_16, r_X0_isAtEnd_19, r_X0_isAtEnd_20, r0, up2_o, up2_e, iN_ap, iN_up, i_ix, i_inb, i_lt, i_lt0, i_0lt, i_eq, i_ne0, i_00, i_11, i_01, i_10, i_b, i_rem2, n_rem, i_add, i_mul, i_sub, i_div, i_max, i_min, rdk_0, rdk_3, kp_none, kp_int, kp_ref, kp_long, kp_double, aK_v, aK_0, aK_ite, if_true, if_false, and_self, and_true, true_and, or_false, false_or, not_true_eq_false, not_false_eq_true, ite_self, ↓reduceIte, m2, i_eq, if_true, if_false, hlp, q1]
theorem s_wEndC {s : aP2} {k : Nat} (hC : ZC Z) (hm : HC N 141 s) (hb : WB s k) (hk : k ≤ 60) : ex 28 0 [some (.ref 141)] [] (Z, iN N, L, c) = some (.inl (some (.int (nI (if wEnd s = true then 1 else 0)))), (Z, iN N, L, c)) := by
  obtain ⟨aw, l⟩ := s
  obtain ⟨b1, b3, b4, b5⟩ := hb
  obtain ⟨m1, m2, m3⟩ := id hm
  dsimp only at b1 b3 b4 b5 m1 m2 m3
  have hr : RAt Z 141 8 60 := hC.2.2.2.2.2.2.2.1
  rcases (show aw = 0 ∨ aw = 1 ∨ aw = 2 by omega) with rfl | rfl | rfl
  · have b4 := (b4 rfl).1
    clear b5
    rw [s_wEnd hr (by omega) (by omega) (by omega) (by omega), if_neg (by omega)]
    rfl
  · have b5 := (b5 (by omega)).1
    rw [s_wEnd hr (by omega) (by omega) (by omega) (by omega), if_pos (by omega)]
    rfl
  · obtain ⟨bk, e, l', hl, k1, k2⟩ := b5 (by omega)
    clear b5 b4 k2
    subst hl
    obtain ⟨w, p⟩ := e
    obtain ⟨l1, l2, l3⟩ := HC_last hm
    have bp := (b3 _ List.mem_cons_self).2
    dsimp only at bp
    have bl : l'.length ≤ 59 := by simp at bk; omega
    rw [s_wEnd hr (by omega) (by omega) (by omega) (fun _ => by rw [l3, Nat.add_sub_cancel, l2]; omega), l3, Nat.add_sub_cancel, l2, m2]
    have hd : wEnd (2, (w, p) :: l') = Nat.ble 2 p := rfl
    rw [hd]
    by_cases q : 2 ≤ p
    · rw [if_pos (Or.inr ⟨rfl, q⟩), if_pos (Nat.ble_eq_true_of_le q)]
    · rw [if_neg (by omega), if_neg (fun z => q (Nat.le_of_ble_eq_true z))]
theorem q_compH {tx : List Nat} (hC : ZC Z) (hl : tx.length ≤ 60) (h1 : N 136 1 = tx.length) (ha : AtL (N 137) tx) (hx : ∀ x ∈ tx, x < 1000) :
    ∃ N' b, ex 12 0 [some (.ref 136), some (.ref 138)] [] (Z, iN N, L, c) = some (.inl (some (.int (nI b))), (Z, iN N', L, c)) ∧ RF 138 N N' ∧ ((b = 0 ∧ ∀ s, (pH tx).2 = some s → hEnd s = false) ∨ (b = 1 ∧ ∃ s, (pH tx).2 = some s ∧ hEnd s = true ∧ HC N' 138 s ∧ HB s)) := by
  obtain ⟨N', t1, t2, t3⟩ := q_errHouse (L := L) (c := c) hC hl h1 ha hx
  have r0 : Z.1 138 = 4 := hC.2.2.2.2.2.2.1.1
  have hp := pF_le (f := hS) tx (0, [])
  have h2 : N' 136 1 = tx.length := by rw [t3 136 (by omega)]; exact h1
  have hp1 : (pH tx).1 ≤ tx.length := hp.1
  by_cases q : (pH tx).1 = tx.length
  · obtain ⟨s, hs⟩ := Option.isSome_iff_exists.mp (hp.2.mp q)
    have hs : (pH tx).2 = some s := hs
    have hb := pH_HB _ _ _ HB_0 hs
    have he := s_hEndC (L := L) (c := c) hC (t2 s hs) hb
    by_cases w : hEnd s = true
    · rw [if_pos w] at he
      refine ⟨N', 1, ?_, t3, Or.inr ⟨rfl, s, hs, w, t2 s hs, hb⟩⟩
      simp (disch := omega) only [r_X1_isComplete_0, r_X1_isComplete_1, r_X1_isComplete_2, r_X1_isComplete_5, r_X1_isComplete_6, r_X1_isComplete_9, r_X1_isComplete_12, r_X1_isComplete_13_4, r_X1_isComplete_13_8, r_X1_isComplete_18, r_X1_isComplete_21, r_X1_isComplete_22, r_X1_isComplete_25, r_X1_isComplete_26, @id (Z.1 0 = 10) hC.1.1, @id (Z.2.2.1 0 0 = .ref 1) hC.1.2.1, @id (Z.2.2.1 0 1 = .ref 17) hC.1.2.2.1, @id (Z.2.2.1 0 2 = .ref 33) hC.1.2.2.2.1, @id (Z.2.2.1 0 3 = .ref 131) hC.1.2.2.2.2.1, @id (Z.2.2.1 0 4 = .ref 136) hC.1.2.2.2.2.2.1, @id (Z.2.2.1 0 5 = .ref 138) hC.1.2.2.2.2.2.2.1, @id (Z.2.2.1 0 6 = .ref 141) hC.1.2.2.2.2.2.2.2, @id (Z.1 1 = 9) hC.2.1.1, @id (Z.1 17 = 9) hC.2.2.1.1, @id (Z.1 33 = 6) hC.2.2.2.1.1, @id (Z.1 131 = 7) hC.2.2.2.2.1.1, @id (Z.1 136 = 5) hC.2.2.2.2.2.1.1, @id (Z.1 138 = 4) hC.2.2.2.2.2.2.1.1, @id (Z.1 141 = 8) hC.2.2.2.2.2.2.2.1.1, r0, up2_o, up2_e, iN_ap, iN_up, i_ix, i_inb, i_lt, i_lt0, i_0lt, i_eq, i_ne0, i_00, i_11, i_01, i_10, i_b, i_rem2, n_rem, i_add, i_mul, i_sub, i_div, i_max, i_min, rdk_0, rdk_3, kp_none, kp_int, kp_ref, kp_long, kp_double, aK_v, aK_0, aK_ite, if_true, if_false, and_self, and_true, true_and, or_false, false_or, not_true_eq_false, not_false_eq_true, ite_self, ↓reduceIte, t1, h2, i_eq, q, he]
    · rw [if_neg w] at he
      refine ⟨N', 0, ?_, t3, Or.inl ⟨rfl, fun s' hs' => ?_⟩⟩
      · simp (disch := omega) only [r_X1_isComplete_0, r_X1_isComplete_1, r_X1_isComplete_2, r_X1_isComplete_5, r_X1_isComplete_6, r_X1_isComplete_9, r_X1_isComplete_12, r_X1_isComplete_13_4, r_X1_isComplete_13_8, r_X1_isComplete_18, r_X1_isComplete_21, r_X1_isComplete_22, r_X1_isComplete_25, r_X1_isComplete_26, @id (Z.1 0 = 10) hC.1.1, @id (Z.2.2.1 0 0 = .ref 1) hC.1.2.1, @id (Z.2.2.1 0 1 = .ref 17) hC.1.2.2.1, @id (Z.2.2.1 0 2 = .ref 33) hC.1.2.2.2.1, @id (Z.2.2.1 0 3 = .ref 131) hC.1.2.2.2.2.1, @id (Z.2.2.1 0 4 = .ref 136) hC.1.2.2.2.2.2.1, @id (Z.2.2.1 0 5 = .ref 138) hC.1.2.2.2.2.2.2.1, @id (Z.2.2.1 0 6 = .ref 141) hC.1.2.2.2.2.2.2.2, @id (Z.1 1 = 9) hC.2.1.1, @id (Z.1 17 = 9) hC.2.2.1.1, @id (Z.1 33 = 6) hC.2.2.2.1.1, @id (Z.1 131 = 7) hC.2.2.2.2.1.1, @id (Z.1 136 = 5) hC.2.2.2.2.2.1.1, @id (Z.1 138 = 4) hC.2.2.2.2.2.2.1.1, @id (Z.1 141 = 8) hC.2.2.2.2.2.2.2.1.1, r0, up2_o, up2_e, iN_ap, iN_up, i_ix, i_inb, i_lt, i_lt0, i_0lt, i_eq, i_ne0, i_00, i_11, i_01, i_10, i_b, i_rem2, n_rem, i_add, i_mul, i_sub, i_div, i_max, i_min, rdk_0, rdk_3, kp_none, kp_int, kp_ref, kp_long, kp_double, aK_v, aK_0, aK_ite, if_true, if_false, and_self, and_true, true_and, or_false, false_or, not_true_eq_false, not_false_eq_true, ite_self, ↓reduceIte, t1, h2, i_eq, q, he]
      · rw [hs] at hs'
        cases hs'
        cases z : hEnd s
        · rfl
        · exact absurd z w
  · refine ⟨N', 0, ?_, t3, Or.inl ⟨rfl, fun s' hs' => ?_⟩⟩
    · simp (disch := omega) only [r_X1_isComplete_0, r_X1_isComplete_1, r_X1_isComplete_2, r_X1_isComplete_5, r_X1_isComplete_6, r_X1_isComplete_9, r_X1_isComplete_12, r_X1_isComplete_13_4, r_X1_isComplete_13_8, r_X1_isComplete_18, r_X1_isComplete_21, r_X1_isComplete_22, r_X1_isComplete_25, r_X1_isComplete_26, @id (Z.1 0 = 10) hC.1.1, @id (Z.2.2.1 0 0 = .ref 1) hC.1.2.1, @id (Z.2.2.1 0 1 = .ref 17) hC.1.2.2.1, @id (Z.2.2.1 0 2 = .ref 33) hC.1.2.2.2.1, @id (Z.2.2.1 0 3 = .ref 131) hC.1.2.2.2.2.1, @id (Z.2.2.1 0 4 = .ref 136) hC.1.2.2.2.2.2.1, @id (Z.2.2.1 0 5 = .ref 138) hC.1.2.2.2.2.2.2.1, @id (Z.2.2.1 0 6 = .ref 141) hC.1.2.2.2.2.2.2.2, @id (Z.1 1 = 9) hC.2.1.1, @id (Z.1 17 = 9) hC.2.2.1.1, @id (Z.1 33 = 6) hC.2.2.2.1.1, @id (Z.1 131 = 7) hC.2.2.2.2.1.1, @id (Z.1 136 = 5) hC.2.2.2.2.2.1.1, @id (Z.1 138 = 4) hC.2.2.2.2.2.2.1.1, @id (Z.1 141 = 8) hC.2.2.2.2.2.2.2.1.1, r0, up2_o, up2_e, iN_ap, iN_up, i_ix, i_inb, i_lt, i_lt0, i_0lt, i_eq, i_ne0, i_00, i_11, i_01, i_10, i_b, i_rem2, n_rem, i_add, i_mul, i_sub, i_div, i_max, i_min, rdk_0, rdk_3, kp_none, kp_int, kp_ref, kp_long, kp_double, aK_v, aK_0, aK_ite, if_true, if_false, and_self, and_true, true_and, or_false, false_or, not_true_eq_false, not_false_eq_true, ite_self, ↓reduceIte, t1, h2, i_eq, q]
    · exact absurd (hp.2.mpr (by show ((pH tx).2).isSome = true; rw [hs']; rfl)) q
theorem q_compW {tx : List Nat} (hC : ZC Z) (hl : tx.length ≤ 60) (h1 : N 136 1 = tx.length) (ha : AtL (N 137) tx) (hx : ∀ x ∈ tx, x < 1000) :
    ∃ N' b, ex 12 0 [some (.ref 136), some (.ref 141)] [] (Z, iN N, L, c) = some (.inl (some (.int (nI b))), (Z, iN N', L, c)) ∧ RF 141 N N' ∧ ((b = 0 ∧ ∀ s, (pW tx).2 = some s → wEnd s = false) ∨ (b = 1 ∧ ∃ s, (pW tx).2 = some s ∧ wEnd s = true ∧ HC N' 141 s ∧ WB s tx.length)) := by
  obtain ⟨N', t1, t2, t3⟩ := q_errWinds (L := L) (c := c) hC hl h1 ha hx
  have r0 : Z.1 141 = 8 := hC.2.2.2.2.2.2.2.1.1
  have hp := pF_le (f := wS) tx (0, [])
  have h2 : N' 136 1 = tx.length := by rw [t3 136 (by omega)]; exact h1
  have hp1 : (pW tx).1 ≤ tx.length := hp.1
  by_cases q : (pW tx).1 = tx.length
  · obtain ⟨s, hs⟩ := Option.isSome_iff_exists.mp (hp.2.mp q)
    have hs : (pW tx).2 = some s := hs
    have hb := pW_WB _ _ _ _ WB_0 hs
    rw [Nat.zero_add] at hb
    have he := s_wEndC (L := L) (c := c) hC (t2 s hs) hb hl
    by_cases w : wEnd s = true
    · rw [if_pos w] at he
      refine ⟨N', 1, ?_, t3, Or.inr ⟨rfl, s, hs, w, t2 s hs, hb⟩⟩
      simp (disch := omega) only [r_X1_isComplete_0, r_X1_isComplete_1, r_X1_isComplete_2, r_X1_isComplete_5, r_X1_isComplete_6, r_X1_isComplete_9, r_X1_isComplete_12, r_X1_isComplete_13_4, r_X1_isComplete_13_8, r_X1_isComplete_18, r_X1_isComplete_21, r_X1_isComplete_22, r_X1_isComplete_25, r_X1_isComplete_26, @id (Z.1 0 = 10) hC.1.1, @id (Z.2.2.1 0 0 = .ref 1) hC.1.2.1, @id (Z.2.2.1 0 1 = .ref 17) hC.1.2.2.1, @id (Z.2.2.1 0 2 = .ref 33) hC.1.2.2.2.1, @id (Z.2.2.1 0 3 = .ref 131) hC.1.2.2.2.2.1, @id (Z.2.2.1 0 4 = .ref 136) hC.1.2.2.2.2.2.1, @id (Z.2.2.1 0 5 = .ref 138) hC.1.2.2.2.2.2.2.1, @id (Z.2.2.1 0 6 = .ref 141) hC.1.2.2.2.2.2.2.2, @id (Z.1 1 = 9) hC.2.1.1, @id (Z.1 17 = 9) hC.2.2.1.1, @id (Z.1 33 = 6) hC.2.2.2.1.1, @id (Z.1 131 = 7) hC.2.2.2.2.1.1, @id (Z.1 136 = 5) hC.2.2.2.2.2.1.1, @id (Z.1 138 = 4) hC.2.2.2.2.2.2.1.1, @id (Z.1 141 = 8) hC.2.2.2.2.2.2.2.1.1, r0, up2_o, up2_e, iN_ap, iN_up, i_ix, i_inb, i_lt, i_lt0, i_0lt, i_eq, i_ne0, i_00, i_11, i_01, i_10, i_b, i_rem2, n_rem, i_add, i_mul, i_sub, i_div, i_max, i_min, rdk_0, rdk_3, kp_none, kp_int, kp_ref, kp_long, kp_double, aK_v, aK_0, aK_ite, if_true, if_false, and_self, and_true, true_and, or_false, false_or, not_true_eq_false, not_false_eq_true, ite_self, ↓reduceIte, t1, h2, i_eq, q, he]
    · rw [if_neg w] at he
      refine ⟨N', 0, ?_, t3, Or.inl ⟨rfl, fun s' hs' => ?_⟩⟩
      · simp (disch := omega) only [r_X1_isComplete_0, r_X1_isComplete_1, r_X1_isComplete_2, r_X1_isComplete_5, r_X1_isComplete_6, r_X1_isComplete_9, r_X1_isComplete_12, r_X1_isComplete_13_4, r_X1_isComplete_13_8, r_X1_isComplete_18, r_X1_isComplete_21, r_X1_isComplete_22, r_X1_isComplete_25, r_X1_isComplete_26, @id (Z.1 0 = 10) hC.1.1, @id (Z.2.2.1 0 0 = .ref 1) hC.1.2.1, @id (Z.2.2.1 0 1 = .ref 17) hC.1.2.2.1, @id (Z.2.2.1 0 2 = .ref 33) hC.1.2.2.2.1, @id (Z.2.2.1 0 3 = .ref 131) hC.1.2.2.2.2.1, @id (Z.2.2.1 0 4 = .ref 136) hC.1.2.2.2.2.2.1, @id (Z.2.2.1 0 5 = .ref 138) hC.1.2.2.2.2.2.2.1, @id (Z.2.2.1 0 6 = .ref 141) hC.1.2.2.2.2.2.2.2, @id (Z.1 1 = 9) hC.2.1.1, @id (Z.1 17 = 9) hC.2.2.1.1, @id (Z.1 33 = 6) hC.2.2.2.1.1, @id (Z.1 131 = 7) hC.2.2.2.2.1.1, @id (Z.1 136 = 5) hC.2.2.2.2.2.1.1, @id (Z.1 138 = 4) hC.2.2.2.2.2.2.1.1, @id (Z.1 141 = 8) hC.2.2.2.2.2.2.2.1.1, r0, up2_o, up2_e, iN_ap, iN_up, i_ix, i_inb, i_lt, i_lt0, i_0lt, i_eq, i_ne0, i_00, i_11, i_01, i_10, i_b, i_rem2, n_rem, i_add, i_mul, i_sub, i_div, i_max, i_min, rdk_0, rdk_3, kp_none, kp_int, kp_ref, kp_long, kp_double, aK_v, aK_0, aK_ite, if_true, if_false, and_self, and_true, true_and, or_false, false_or, not_true_eq_false, not_false_eq_true, ite_self, ↓reduceIte, t1, h2, i_eq, q, he]
      · rw [hs] at hs'
        cases hs'
        cases z : wEnd s
        · rfl
        · exact absurd z w
  · refine ⟨N', 0, ?_, t3, Or.inl ⟨rfl, fun s' hs' => ?_⟩⟩
    · simp (disch := omega) only [r_X1_isComplete_0, r_X1_isComplete_1, r_X1_isComplete_2, r_X1_isComplete_5, r_X1_isComplete_6, r_X1_isComplete_9, r_X1_isComplete_12, r_X1_isComplete_13_4, r_X1_isComplete_13_8, r_X1_isComplete_18, r_X1_isComplete_21, r_X1_isComplete_22, r_X1_isComplete_25, r_X1_isComplete_26, @id (Z.1 0 = 10) hC.1.1, @id (Z.2.2.1 0 0 = .ref 1) hC.1.2.1, @id (Z.2.2.1 0 1 = .ref 17) hC.1.2.2.1, @id (Z.2.2.1 0 2 = .ref 33) hC.1.2.2.2.1, @id (Z.2.2.1 0 3 = .ref 131) hC.1.2.2.2.2.1, @id (Z.2.2.1 0 4 = .ref 136) hC.1.2.2.2.2.2.1, @id (Z.2.2.1 0 5 = .ref 138) hC.1.2.2.2.2.2.2.1, @id (Z.2.2.1 0 6 = .ref 141) hC.1.2.2.2.2.2.2.2, @id (Z.1 1 = 9) hC.2.1.1, @id (Z.1 17 = 9) hC.2.2.1.1, @id (Z.1 33 = 6) hC.2.2.2.1.1, @id (Z.1 131 = 7) hC.2.2.2.2.1.1, @id (Z.1 136 = 5) hC.2.2.2.2.2.1.1, @id (Z.1 138 = 4) hC.2.2.2.2.2.2.1.1, @id (Z.1 141 = 8) hC.2.2.2.2.2.2.2.1.1, r0, up2_o, up2_e, iN_ap, iN_up, i_ix, i_inb, i_lt, i_lt0, i_0lt, i_eq, i_ne0, i_00, i_11, i_01, i_10, i_b, i_rem2, n_rem, i_add, i_mul, i_sub, i_div, i_max, i_min, rdk_0, rdk_3, kp_none, kp_int, kp_ref, kp_long, kp_double, aK_v, aK_0, aK_ite, if_true, if_false, and_self, and_true, true_and, or_false, false_or, not_true_eq_false, not_false_eq_true, ite_self, ↓reduceIte, t1, h2, i_eq, q]
    · exact absurd (hp.2.mpr (by show ((pW tx).2).isSome = true; rw [hs']; rfl)) q
theorem q_addHouse {S : aSt} (hC : ZC Z) (hI : CI N S) (hS : SOK S) :
    CR Z L c N (fun k => k) (ex 68 0 [some (.ref 0)] [] (Z, iN N, L, c)) (oAdd S) := by
  have hl : S.2.2.length ≤ 60 := hS.2.2.2.1
  have hx : ∀ x ∈ S.2.2, x < 1000 := fun x hx => by have := hS.2.2.2.2 x hx; omega
  obtain ⟨N1, b, t1, t2, t3⟩ := q_compH (L := L) (c := c) hC hl hI.2.2.1.1 hI.2.2.1.2 hx
  have hI1 : CI N1 S := CI_o hI (fun a ha => t2 a (by omega))
  have hf1 : ∀ a, 144 ≤ a → N1 a = N a := fun a ha => t2 a (by omega)
  have cf : ∀ k, k = 1 ∨ k = 2 → CR Z L c N (fun k => k) (some (.inr k, (Z, iN N1, L, bc c))) (k, 0, S) := fun k hk => ⟨N1, by rw [if_neg (by omega)], hI1, hf1⟩
  rcases t3 with ⟨rfl, t3⟩ | ⟨rfl, s, hs, he, hm, hb⟩
  · have : oAdd S = (1, 0, S) := by
      unfold oAdd
      cases hh : (pH S.2.2).2 with
      | none => rfl
      | some s =>
        dsimp only
        rw [if_neg (by rw [t3 s hh]; simp)]
    rw [this]
    simp (disch := omega) only [r_X7_addHouse_0, r_X7_addHouse_1, r_X7_addHouse_4, r_X7_addHouse_5, r_X7_addHouse_8, r_X7_addHouse_11, r_X7_addHouse_14, r_X7_addHouse_24, r_X7_addHouse_25, r_X7_addHouse_28, r_X7_addHouse_31, r_X7_addHouse_33, r_X7_addHouse_36, r_X7_addHouse_46, r_X7_addHouse_47, r_X7_addHouse_50, r_X7_addHouse_51, r_X7_addHouse_54, r_X7_addHouse_57, r_X7_addHouse_58, r_X7_addHouse_61, r_X7_addHouse_62, r_X7_addHouse_65, r_X7_addHouse_68, r_X7_addHouse_69, r_X7_addHouse_72, r_X7_addHouse_75, r_X7_addHouse_76, r_X7_addHouse_77, r_X7_addHouse_80, r_X7_addHouse_83, r_X7_addHouse_84, r_X7_addHouse_85, @id (Z.1 0 = 10) hC.1.1, @id (Z.2.2.1 0 0 = .ref 1) hC.1.2.1, @id (Z.2.2.1 0 1 = .ref 17) hC.1.2.2.1, @id (Z.2.2.1 0 2 = .ref 33) hC.1.2.2.2.1, @id (Z.2.2.1 0 3 = .ref 131) hC.1.2.2.2.2.1, @id (Z.2.2.1 0 4 = .ref 136) hC.1.2.2.2.2.2.1, @id (Z.2.2.1 0 5 = .ref 138) hC.1.2.2.2.2.2.2.1, @id (Z.2.2.1 0 6 = .ref 141) hC.1.2.2.2.2.2.2.2, @id (Z.1 1 = 9) hC.2.1.1, @id (Z.1 17 = 9) hC.2.2.1.1, @id (Z.1 33 = 6) hC.2.2.2.1.1, @id (Z.1 131 = 7) hC.2.2.2.2.1.1, @id (Z.1 136 = 5) hC.2.2.2.2.2.1.1, @id (Z.1 138 = 4) hC.2.2.2.2.2.2.1.1, @id (Z.1 141 = 8) hC.2.2.2.2.2.2.2.1.1, up2_o, up2_e, iN_ap, iN_up, i_ix, i_inb, i_lt, i_lt0, i_0lt, i_eq, i_ne0, i_00, i_11, i_01, i_10, i_b, i_rem2, n_rem, i_add, i_mul, i_sub, i_div, i_max, i_min, rdk_0, rdk_3, kp_none, kp_int, kp_ref, kp_long, kp_double, aK_v, aK_0, aK_ite, if_true, if_false, and_self, and_true, true_and, or_false, false_or, not_true_eq_false, not_false_eq_true, ite_self, ↓reduceIte, t1, bmp_e]
    exact cf 1 (Or.inl rfl)
  · unfold oAdd
    rw [hs]
    dsimp only
    rw [if_pos he]
    have e01 : N1 1 1 = S.1.1 0 1 := CY_at0 hI1.1 (by omega)
    have h01 : S.1.1 0 1 ≤ 6 := hS.1.1.1.1.1
    by_cases q6 : S.1.1 0 1 = 6
    · rw [if_pos q6]
      have q7 : ¬ S.1.1 0 1 < 6 := by omega
      simp (disch := omega) only [r_X7_addHouse_0, r_X7_addHouse_1, r_X7_addHouse_4, r_X7_addHouse_5, r_X7_addHouse_8, r_X7_addHouse_11, r_X7_addHouse_14, r_X7_addHouse_24, r_X7_addHouse_25, r_X7_addHouse_28, r_X7_addHouse_31, r_X7_addHouse_33, r_X7_addHouse_36, r_X7_addHouse_46, r_X7_addHouse_47, r_X7_addHouse_50, r_X7_addHouse_51, r_X7_addHouse_54, r_X7_addHouse_57, r_X7_addHouse_58, r_X7_addHouse_61, r_X7_addHouse_62, r_X7_addHouse_65, r_X7_addHouse_68, r_X7_addHouse_69, r_X7_addHouse_72, r_X7_addHouse_75, r_X7_addHouse_76, r_X7_addHouse_77, r_X7_addHouse_80, r_X7_addHouse_83, r_X7_addHouse_84, r_X7_addHouse_85, @id (Z.1 0 = 10) hC.1.1, @id (Z.2.2.1 0 0 = .ref 1) hC.1.2.1, @id (Z.2.2.1 0 1 = .ref 17) hC.1.2.2.1, @id (Z.2.2.1 0 2 = .ref 33) hC.1.2.2.2.1, @id (Z.2.2.1 0 3 = .ref 131) hC.1.2.2.2.2.1, @id (Z.2.2.1 0 4 = .ref 136) hC.1.2.2.2.2.2.1, @id (Z.2.2.1 0 5 = .ref 138) hC.1.2.2.2.2.2.2.1, @id (Z.2.2.1 0 6 = .ref 141) hC.1.2.2.2.2.2.2.2, @id (Z.1 1 = 9) hC.2.1.1, @id (Z.1 17 = 9) hC.2.2.1.1, @id (Z.1 33 = 6) hC.2.2.2.1.1, @id (Z.1 131 = 7) hC.2.2.2.2.1.1, @id (Z.1 136 = 5) hC.2.2.2.2.2.1.1, @id (Z.1 138 = 4) hC.2.2.2.2.2.2.1.1, @id (Z.1 141 = 8) hC.2.2.2.2.2.2.2.1.1, up2_o, up2_e, iN_ap, iN_up, i_ix, i_inb, i_lt, i_lt0, i_0lt, i_eq, i_ne0, i_00, i_11, i_01, i_10, i_b, i_rem2, n_rem, i_add, i_mul, i_sub, i_div, i_max, i_min, rdk_0, rdk_3, kp_none, kp_int, kp_ref, kp_long, kp_double, aK_v, aK_0, aK_ite, if_true, if_false, and_self, and_true, true_and, or_false, false_or, not_true_eq_false, not_false_eq_true, ite_self, ↓reduceIte, t1, e01, q7, bmp_e]
      exact cf 2 (Or.inr rfl)
    · rw [if_neg q6]
      have q7 : S.1.1 0 1 < 6 := by omega
      obtain ⟨N2, s1, s2, s3⟩ := q_save (L := L) (c := c) hC hI1 hS.2.1 (WF_len hS.1.1)
      have hc2 : CY N2 1 S.1.1 S.1.2 := CY_congr hI1.1 (fun a h1 h2 => s3 a (by omega))
      have e012 : N2 1 1 = S.1.1 0 1 := CY_at0 hc2 (by omega)
      have hm2 : HC N2 138 s := by
        unfold HC
        rw [s3 138 (by omega), s3 (138 + 1) (by omega), s3 (138 + 2) (by omega)]
        exact hm
      obtain ⟨ha1, ha2, ha3, ha4⟩ := hEnd_all hb he
      have hp := s_putHouse (N := N2) (L := L) (c := c) (n := s.2.length) hC.2.1 hC.2.2.2.2.2.2.1 (Or.inr (by omega)) (by omega) hm2.1 ha3
      rw [e012] at hp
      have hc3 := CY_pHX (h := S.1.1 0 1) (f := N2 (138 + 1)) (g := N2 (138 + 2)) (q := S.1.2) q7 s.2.reverse 0 N2 S.1.1 (by rw [List.length_reverse]; omega) (fun j e he => by rw [Nat.zero_add]; exact hm2.2.2 j e he) hc2
      rw [List.length_reverse] at hc3
      have hc4 := CY_w (v := s.2.length) hc3 (k := 3) (n := 6) rfl q7 (by omega) (by omega)
      obtain ⟨N4, hN4⟩ : ∃ N4, N4 = up2 (up2 (pHX 1 (S.1.1 0 1 * 6) (N2 (138 + 1)) (N2 (138 + 2)) s.2.length 0 N2) (1 + 3) (S.1.1 0 1) s.2.length) 1 1 (S.1.1 0 1 + 1) := ⟨_, rfl⟩
      rw [← hN4] at hp
      have hf4 : ∀ a, 17 ≤ a → N4 a = N2 a := fun a ha => by
        funext j
        rw [hN4, up2_o (by omega), up2_o (by omega), pHX_o _ _ _ _ _ (by omega) (by omega)]
      have hc5 : CY N4 1 (ahR S.1.1 s.2.reverse) S.1.2 := by
        rw [hN4]
        unfold ahR
        rw [List.length_reverse]
        refine ⟨?_, QH_congr hc4.2 (up2_o (by omega)) (fun i => up2_o (by omega))⟩
        rw [← hc4.1]
        exact rg_up0 (by omega)
      have he4 := s_empty (N := N4) (L := L) (c := c) hC.2.2.2.2.2.1
      have e4 : N4 1 1 = S.1.1 0 1 + 1 := by rw [hN4]; exact up2_e ⟨rfl, rfl⟩
      have h14 : N4 136 1 < 4294967296 := by
        rw [hf4 136 (by omega), s3 136 (by omega), hI1.2.2.1.1]
        omega
      have e41 : up2 N4 136 1 0 1 1 = S.1.1 0 1 + 1 := by rw [up2_o (by omega), e4]
      have fin : CR Z L c N (fun k => k) (some (.inl (some (.int (nI (S.1.1 0 1)))), (Z, iN (up2 N4 136 1 0), L, c))) (0, S.1.1 0 1, (ahR S.1.1 s.2.reverse, S.1.2), push S.2.1 S.1, []) := by
        have hf5 : ∀ a, a ≠ 136 → 17 ≤ a → up2 N4 136 1 0 a = N2 a := fun a h1 h2 => by
          rw [← hf4 a h2]
          funext j
          exact up2_o (by omega)
        refine ⟨_, by rw [if_pos rfl], ⟨CY_congr hc5 (fun a h1 h2 => by funext j; exact up2_o (by omega)), VS_congr s2 (fun a h1 h2 => hf5 a (by omega) (by omega)), ⟨up2_e ⟨rfl, rfl⟩, fun i x h => by simp at h⟩, SH_congr hI1.2.2.2.1 (fun a j h1 h2 => by rw [hf5 a (by omega) (by omega), s3 a (by omega)]), fun i hi => ?_⟩, fun a ha => ?_⟩
        · rw [hf5 100001 (by omega) (by omega), hf5 100002 (by omega) (by omega), s3 100001 (by omega), s3 100002 (by omega)]
          exact hI1.2.2.2.2 i hi
        · rw [hf5 a (by omega) (by omega), s3 a (by omega), hf1 a ha]
      have hd : nI (S.1.1 0 1 + 1) - nI 1 = nI (S.1.1 0 1) := by rw [i_sub (by omega), Nat.add_sub_cancel]
      simp (disch := omega) only [r_X7_addHouse_0, r_X7_addHouse_1, r_X7_addHouse_4, r_X7_addHouse_5, r_X7_addHouse_8, r_X7_addHouse_11, r_X7_addHouse_14, r_X7_addHouse_24, r_X7_addHouse_25, r_X7_addHouse_28, r_X7_addHouse_31, r_X7_addHouse_33, r_X7_addHouse_36, r_X7_addHouse_46, r_X7_addHouse_47, r_X7_addHouse_50, r_X7_addHouse_51, r_X7_addHouse_54, r_X7_addHouse_57, r_X7_addHouse_58, r_X7_addHouse_61, r_X7_addHouse_62, r_X7_addHouse_65, r_X7_addHouse_68, r_X7_addHouse_69, r_X7_addHouse_72, r_X7_addHouse_75, r_X7_addHouse_76, r_X7_addHouse_77, r_X7_addHouse_80, r_X7_addHouse_83, r_X7_addHouse_84, r_X7_addHouse_85, @id (Z.1 0 = 10) hC.1.1, @id (Z.2.2.1 0 0 = .ref 1) hC.1.2.1, @id (Z.2.2.1 0 1 = .ref 17) hC.1.2.2.1, @id (Z.2.2.1 0 2 = .ref 33) hC.1.2.2.2.1, @id (Z.2.2.1 0 3 = .ref 131) hC.1.2.2.2.2.1, @id (Z.2.2.1 0 4 = .ref 136) hC.1.2.2.2.2.2.1, @id (Z.2.2.1 0 5 = .ref 138) hC.1.2.2.2.2.2.2.1, @id (Z.2.2.1 0 6 = .ref 141) hC.1.2.2.2.2.2.2.2, @id (Z.1 1 = 9) hC.2.1.1, @id (Z.1 17 = 9) hC.2.2.1.1, @id (Z.1 33 = 6) hC.2.2.2.1.1, @id (Z.1 131 = 7) hC.2.2.2.2.1.1, @id (Z.1 136 = 5) hC.2.2.2.2.2.1.1, @id (Z.1 138 = 4) hC.2.2.2.2.2.2.1.1, @id (Z.1 141 = 8) hC.2.2.2.2.2.2.2.1.1, up2_o, up2_e, iN_ap, iN_up, i_ix, i_inb, i_lt, i_lt0, i_0lt, i_eq, i_ne0, i_00, i_11, i_01, i_10, i_b, i_rem2, n_rem, i_add, i_mul, i_div, i_max, i_min, rdk_0, rdk_3, kp_none, kp_int, kp_ref, kp_long, kp_double, aK_v, aK_0, aK_ite, if_true, if_false, and_self, and_true, true_and, or_false, false_or, not_true_eq_false, not_false_eq_true, ite_self, ↓reduceIte, t1, e01, q7, s1, hp, he4, e4, hd]
      exact fin
theorem q_setWinds {S : aSt} (hC : ZC Z) (hI : CI N S) (hS : SOK S) :
    CR Z L c N (fun k => k) (ex 69 0 [some (.ref 0)] [] (Z, iN N, L, c)) (oWnd S) := by
  have hl : S.2.2.length ≤ 60 := hS.2.2.2.1
  have hx : ∀ x ∈ S.2.2, x < 1000 := fun x hx => by have := hS.2.2.2.2 x hx; omega
  obtain ⟨N1, b, t1, t2, t3⟩ := q_compW (L := L) (c := c) hC hl hI.2.2.1.1 hI.2.2.1.2 hx
  have hI1 : CI N1 S := CI_o hI (fun a ha => t2 a (by omega))
  have hf1 : ∀ a, 144 ≤ a → N1 a = N a := fun a ha => t2 a (by omega)
  have cf : ∀ k, k = 1 ∨ k = 2 → CR Z L c N (fun k => k) (some (.inr k, (Z, iN N1, L, bc c))) (k, 0, S) := fun k hk => ⟨N1, by rw [if_neg (by omega)], hI1, hf1⟩
  rcases t3 with ⟨rfl, t3⟩ | ⟨rfl, s, hs, he, hm, hb⟩
  · have : oWnd S = (1, 0, S) := by
      unfold oWnd
      cases hh : (pW S.2.2).2 with
      | none => rfl
      | some s =>
        dsimp only
        rw [if_neg (by rw [t3 s hh]; simp)]
    rw [this]
    simp (disch := omega) only [r_X7_setWinds_0, r_X7_setWinds_1, r_X7_setWinds_4, r_X7_setWinds_5, r_X7_setWinds_8, r_X7_setWinds_11, r_X7_setWinds_14, r_X7_setWinds_24, r_X7_setWinds_25, r_X7_setWinds_28, r_X7_setWinds_31, r_X7_setWinds_33, r_X7_setWinds_36, r_X7_setWinds_46, r_X7_setWinds_47, r_X7_setWinds_50, r_X7_setWinds_51, r_X7_setWinds_54, r_X7_setWinds_57, r_X7_setWinds_58, r_X7_setWinds_61, r_X7_setWinds_62, r_X7_setWinds_65, r_X7_setWinds_68, r_X7_setWinds_69, r_X7_setWinds_72, r_X7_setWinds_75, r_X7_setWinds_76, r_X7_setWinds_77, r_X7_setWinds_80, r_X7_setWinds_83, @id (Z.1 0 = 10) hC.1.1, @id (Z.2.2.1 0 0 = .ref 1) hC.1.2.1, @id (Z.2.2.1 0 1 = .ref 17) hC.1.2.2.1, @id (Z.2.2.1 0 2 = .ref 33) hC.1.2.2.2.1, @id (Z.2.2.1 0 3 = .ref 131) hC.1.2.2.2.2.1, @id (Z.2.2.1 0 4 = .ref 136) hC.1.2.2.2.2.2.1, @id (Z.2.2.1 0 5 = .ref 138) hC.1.2.2.2.2.2.2.1, @id (Z.2.2.1 0 6 = .ref 141) hC.1.2.2.2.2.2.2.2, @id (Z.1 1 = 9) hC.2.1.1, @id (Z.1 17 = 9) hC.2.2.1.1, @id (Z.1 33 = 6) hC.2.2.2.1.1, @id (Z.1 131 = 7) hC.2.2.2.2.1.1, @id (Z.1 136 = 5) hC.2.2.2.2.2.1.1, @id (Z.1 138 = 4) hC.2.2.2.2.2.2.1.1, @id (Z.1 141 = 8) hC.2.2.2.2.2.2.2.1.1, up2_o, up2_e, iN_ap, iN_up, i_ix, i_inb, i_lt, i_lt0, i_0lt, i_eq, i_ne0, i_00, i_11, i_01, i_10, i_b, i_rem2, n_rem, i_add, i_mul, i_sub, i_div, i_max, i_min, rdk_0, rdk_3, kp_none, kp_int, kp_ref, kp_long, kp_double, aK_v, aK_0, aK_ite, if_true, if_false, and_self, and_true, true_and, or_false, false_or, not_true_eq_false, not_false_eq_true, ite_self, ↓reduceIte, t1, bmp_e]
    exact cf 1 (Or.inl rfl)
  · unfold oWnd
    rw [hs]
    dsimp only
    rw [if_pos he]
    obtain ⟨ha1, ha2, ha3, ha4⟩ := wEnd_all hb he
    have hn : s.2.length ≤ 60 := by omega
    obtain ⟨-, r1, r2, r3, r4, r5, r6⟩ := hC.2.2.2.2.2.2.2.1
    have ht := tot_sum s.2 hm.2.2
    have htb : tot s.2.reverse ≤ 60 * 60 := by
      have : ∀ l : List (Nat × Nat), (∀ e ∈ l, e.2 ≤ 60) → tot l ≤ 60 * l.length := fun l => by
        induction l with
        | nil => intro _; exact Nat.le_refl _
        | cons a l ih =>
          intro h
          have h1 := h a List.mem_cons_self
          have h2 := ih (fun e he => h e (List.mem_cons_of_mem _ he))
          rw [tot_cons, List.length_cons]
          omega
      have h2 := this s.2.reverse (fun e he => (ha4 e (List.mem_reverse.mp he)).2.2)
      rw [List.length_reverse] at h2
      omega
    obtain ⟨T, hT⟩ : ∃ T, T = tot s.2.reverse := ⟨_, rfl⟩
    rw [← hT] at ht htb ⊢
    have hst : ex 29 0 [some (.ref 141)] [] (Z, iN N1, L, c) = some (.inl (some (.int (nI T))), (Z, iN N1, L, c)) := by
      have h0 := s_sumOf (N := N1) (L := L) (c := c) (r := 143) (fr := 0) (len := s.2.length) r2 (by rw [show Z.2.1 143 = 60 from r4]; omega) (by rw [show Z.2.1 143 = 60 from r4]; omega)
      rw [show sumN (N1 143) 0 s.2.length = T from ht] at h0
      have r6' : Z.2.2.1 141 1 = .ref 143 := r6
      have h12 : N1 141 2 = s.2.length := hm.1
      simp (disch := omega) only [r_X5_total_0, r_X5_total_1, r_X5_total_4, r_X5_total_5, r_X5_total_6, r_X5_total_9, r_X5_total_12, @id (Z.1 0 = 10) hC.1.1, @id (Z.2.2.1 0 0 = .ref 1) hC.1.2.1, @id (Z.2.2.1 0 1 = .ref 17) hC.1.2.2.1, @id (Z.2.2.1 0 2 = .ref 33) hC.1.2.2.2.1, @id (Z.2.2.1 0 3 = .ref 131) hC.1.2.2.2.2.1, @id (Z.2.2.1 0 4 = .ref 136) hC.1.2.2.2.2.2.1, @id (Z.2.2.1 0 5 = .ref 138) hC.1.2.2.2.2.2.2.1, @id (Z.2.2.1 0 6 = .ref 141) hC.1.2.2.2.2.2.2.2, @id (Z.1 1 = 9) hC.2.1.1, @id (Z.1 17 = 9) hC.2.2.1.1, @id (Z.1 33 = 6) hC.2.2.2.1.1, @id (Z.1 131 = 7) hC.2.2.2.2.1.1, @id (Z.1 136 = 5) hC.2.2.2.2.2.1.1, @id (Z.1 138 = 4) hC.2.2.2.2.2.2.1.1, @id (Z.1 141 = 8) hC.2.2.2.2.2.2.2.1.1, r6', up2_o, up2_e, iN_ap, iN_up, i_ix, i_inb, i_lt, i_lt0, i_0lt, i_eq, i_ne0, i_00, i_11, i_01, i_10, i_b, i_rem2, n_rem, i_add, i_mul, i_sub, i_div, i_max, i_min, rdk_0, rdk_3, kp_none, kp_int, kp_ref, kp_long, kp_double, aK_v, aK_0, aK_ite, if_true, if_false, and_self, and_true, true_and, or_false, false_or, not_true_eq_false, not_false_eq_true, ite_self, ↓reduceIte, h12, h0]
    by_cases q6 : 60 < T
    · rw [if_pos q6]
      simp (disch := omega) only [r_X7_setWinds_0, r_X7_setWinds_1, r_X7_setWinds_4, r_X7_setWinds_5, r_X7_setWinds_8, r_X7_setWinds_11, r_X7_setWinds_14, r_X7_setWinds_24, r_X7_setWinds_25, r_X7_setWinds_28, r_X7_setWinds_31, r_X7_setWinds_33, r_X7_setWinds_36, r_X7_setWinds_46, r_X7_setWinds_47, r_X7_setWinds_50, r_X7_setWinds_51, r_X7_setWinds_54, r_X7_setWinds_57, r_X7_setWinds_58, r_X7_setWinds_61, r_X7_setWinds_62, r_X7_setWinds_65, r_X7_setWinds_68, r_X7_setWinds_69, r_X7_setWinds_72, r_X7_setWinds_75, r_X7_setWinds_76, r_X7_setWinds_77, r_X7_setWinds_80, r_X7_setWinds_83, @id (Z.1 0 = 10) hC.1.1, @id (Z.2.2.1 0 0 = .ref 1) hC.1.2.1, @id (Z.2.2.1 0 1 = .ref 17) hC.1.2.2.1, @id (Z.2.2.1 0 2 = .ref 33) hC.1.2.2.2.1, @id (Z.2.2.1 0 3 = .ref 131) hC.1.2.2.2.2.1, @id (Z.2.2.1 0 4 = .ref 136) hC.1.2.2.2.2.2.1, @id (Z.2.2.1 0 5 = .ref 138) hC.1.2.2.2.2.2.2.1, @id (Z.2.2.1 0 6 = .ref 141) hC.1.2.2.2.2.2.2.2, @id (Z.1 1 = 9) hC.2.1.1, @id (Z.1 17 = 9) hC.2.2.1.1, @id (Z.1 33 = 6) hC.2.2.2.1.1, @id (Z.1 131 = 7) hC.2.2.2.2.1.1, @id (Z.1 136 = 5) hC.2.2.2.2.2.1.1, @id (Z.1 138 = 4) hC.2.2.2.2.2.2.1.1, @id (Z.1 141 = 8) hC.2.2.2.2.2.2.2.1.1, up2_o, up2_e, iN_ap, iN_up, i_ix, i_inb, i_lt, i_lt0, i_0lt, i_eq, i_ne0, i_00, i_11, i_01, i_10, i_b, i_rem2, n_rem, i_add, i_mul, i_sub, i_div, i_max, i_min, rdk_0, rdk_3, kp_none, kp_int, kp_ref, kp_long, kp_double, aK_v, aK_0, aK_ite, if_true, if_false, and_self, and_true, true_and, or_false, false_or, not_true_eq_false, not_false_eq_true, ite_self, ↓reduceIte, t1, hst, q6, bmp_e]
      exact cf 2 (Or.inr rfl)
    · rw [if_neg q6]
      obtain ⟨N2, s1, s2, s3⟩ := q_save (L := L) (c := c) hC hI1 hS.2.1 (WF_len hS.1.1)
      have hc2 : CY N2 1 S.1.1 S.1.2 := CY_congr hI1.1 (fun a h1 h2 => s3 a (by omega))
      have hm2 : HC N2 141 s := by
        unfold HC
        rw [s3 141 (by omega), s3 (141 + 1) (by omega), s3 (141 + 2) (by omega)]
        exact hm
      have ht2 := tot_sum s.2 hm2.2.2
      rw [← hT] at ht2
      have hp := s_putWinds (N := N2) (L := L) (c := c) (n := s.2.length) hC.2.1 hC.2.2.2.2.2.2.2.1 (Or.inr (by omega)) hm2.1 hn (by rw [ht2]; omega)
      rw [ht2] at hp
      have hc3 := CY_pwX (f := N2 (141 + 2)) (g := N2 (141 + 1)) (q := S.1.2) s.2.reverse 0 N2 S.1.1 (by rw [← hT]; show 0 + T ≤ 60; omega) (fun j e he => by rw [Nat.zero_add]; exact hm2.2.2 j e he) hc2
      rw [List.length_reverse] at hc3
      obtain ⟨N4, hN4⟩ : ∃ N4, N4 = up2 (pwX 1 (N2 (141 + 2)) (N2 (141 + 1)) s.2.length 0 N2) 1 2 T := ⟨_, rfl⟩
      rw [← hN4] at hp
      have hf4 : ∀ a, 17 ≤ a → N4 a = N2 a := fun a ha => by
        funext j
        rw [hN4, up2_o (by omega), pwX_o _ _ _ _ _ (by omega)]
      have hc5 : CY N4 1 (swR S.1.1 s.2.reverse) S.1.2 := by
        rw [hN4]
        unfold swR
        rw [← hT]
        refine ⟨?_, QH_congr hc3.2 (up2_o (by omega)) (fun i => up2_o (by omega))⟩
        have := hc3.1
        rw [show swX s.2.reverse 0 S.1.1 = swX s.2.reverse (sumN (N2 (141 + 2)) 0 0) S.1.1 from rfl, ← this]
        exact rg_up0 (by omega)
      have he4 := s_empty (N := N4) (L := L) (c := c) hC.2.2.2.2.2.1
      have e4 : N4 1 2 = T := by rw [hN4]; exact up2_e ⟨rfl, rfl⟩
      have h14 : N4 136 1 < 4294967296 := by
        rw [hf4 136 (by omega), s3 136 (by omega), hI1.2.2.1.1]
        omega
      have fin : CR Z L c N (fun k => k) (some (.inl (some (.int (nI T))), (Z, iN (up2 N4 136 1 0), L, c))) (0, T, (swR S.1.1 s.2.reverse, S.1.2), push S.2.1 S.1, []) := by
        have hf5 : ∀ a, a ≠ 136 → 17 ≤ a → up2 N4 136 1 0 a = N2 a := fun a h1 h2 => by
          rw [← hf4 a h2]
          funext j
          exact up2_o (by omega)
        refine ⟨_, by rw [if_pos rfl], ⟨CY_congr hc5 (fun a h1 h2 => by funext j; exact up2_o (by omega)), VS_congr s2 (fun a h1 h2 => hf5 a (by omega) (by omega)), ⟨up2_e ⟨rfl, rfl⟩, fun i x h => by simp at h⟩, SH_congr hI1.2.2.2.1 (fun a j h1 h2 => by rw [hf5 a (by omega) (by omega), s3 a (by omega)]), fun i hi => ?_⟩, fun a ha => ?_⟩
        · rw [hf5 100001 (by omega) (by omega), hf5 100002 (by omega) (by omega), s3 100001 (by omega), s3 100002 (by omega)]
          exact hI1.2.2.2.2 i hi
        · rw [hf5 a (by omega) (by omega), s3 a (by omega), hf1 a ha]
      simp (disch := omega) only [r_X7_setWinds_0, r_X7_setWinds_1, r_X7_setWinds_4, r_X7_setWinds_5, r_X7_setWinds_8, r_X7_setWinds_11, r_X7_setWinds_14, r_X7_setWinds_24, r_X7_setWinds_25, r_X7_setWinds_28, r_X7_setWinds_31, r_X7_setWinds_33, r_X7_setWinds_36, r_X7_setWinds_46, r_X7_setWinds_47, r_X7_setWinds_50, r_X7_setWinds_51, r_X7_setWinds_54, r_X7_setWinds_57, r_X7_setWinds_58, r_X7_setWinds_61, r_X7_setWinds_62, r_X7_setWinds_65, r_X7_setWinds_68, r_X7_setWinds_69, r_X7_setWinds_72, r_X7_setWinds_75, r_X7_setWinds_76, r_X7_setWinds_77, r_X7_setWinds_80, r_X7_setWinds_83, @id (Z.1 0 = 10) hC.1.1, @id (Z.2.2.1 0 0 = .ref 1) hC.1.2.1, @id (Z.2.2.1 0 1 = .ref 17) hC.1.2.2.1, @id (Z.2.2.1 0 2 = .ref 33) hC.1.2.2.2.1, @id (Z.2.2.1 0 3 = .ref 131) hC.1.2.2.2.2.1, @id (Z.2.2.1 0 4 = .ref 136) hC.1.2.2.2.2.2.1, @id (Z.2.2.1 0 5 = .ref 138) hC.1.2.2.2.2.2.2.1, @id (Z.2.2.1 0 6 = .ref 141) hC.1.2.2.2.2.2.2.2, @id (Z.1 1 = 9) hC.2.1.1, @id (Z.1 17 = 9) hC.2.2.1.1, @id (Z.1 33 = 6) hC.2.2.2.1.1, @id (Z.1 131 = 7) hC.2.2.2.2.1.1, @id (Z.1 136 = 5) hC.2.2.2.2.2.1.1, @id (Z.1 138 = 4) hC.2.2.2.2.2.2.1.1, @id (Z.1 141 = 8) hC.2.2.2.2.2.2.2.1.1, up2_o, up2_e, iN_ap, iN_up, i_ix, i_inb, i_lt, i_lt0, i_0lt, i_eq, i_ne0, i_00, i_11, i_01, i_10, i_b, i_rem2, n_rem, i_add, i_mul, i_sub, i_div, i_max, i_min, rdk_0, rdk_3, kp_none, kp_int, kp_ref, kp_long, kp_double, aK_v, aK_0, aK_ite, if_true, if_false, and_self, and_true, true_and, or_false, false_or, not_true_eq_false, not_false_eq_true, ite_self, ↓reduceIte, t1, hst, q6, s1, hp, he4, e4]
      exact fin
end Cg
