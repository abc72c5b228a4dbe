/-! the class: its readers -/
def At3 (f g : Nat → Nat) (l : List (Nat × Nat)) : Prop := ∀ i e, l[i]? = some e → f i = e.1 ∧ g i = e.2
theorem At3_app {f g : Nat → Nat} {l : List (Nat × Nat)} {e : Nat × Nat} : At3 f g (l ++ [e]) ↔ At3 f g l ∧ f l.length = e.1 ∧ g l.length = e.2 := by
  refine ⟨fun h => ⟨fun i z hz => h i z ?_, h _ _ (by simp)⟩, fun h i z hz => ?_⟩
  · have hi : i < l.length := by
      rcases Nat.lt_or_ge i l.length with q | q
      · exact q
      · rw [List.getElem?_eq_none q] at hz; cases hz
    rw [List.getElem?_append_left hi]
    exact hz
  · rcases Nat.lt_or_ge i l.length with q | q
    · rw [List.getElem?_append_left q] at hz
      exact h.1 i z hz
    · rw [List.getElem?_append_right q] at hz
      rcases Nat.eq_or_lt_of_le q with e | e
      · rw [← e, Nat.sub_self] at hz
        rw [← e, ← Option.some.inj hz]
        exact h.2
      · rw [List.getElem?_eq_none (by simp; omega)] at hz; cases hz
theorem At3_congr {f g f' g' : Nat → Nat} {l : List (Nat × Nat)} (h : At3 f g l) (hf : ∀ i, i < l.length → f' i = f i) (hg : ∀ i, i < l.length → g' i = g i) : At3 f' g' l := fun i e he => by
  have hi : i < l.length := by
    rcases Nat.lt_or_ge i l.length with q | q
    · exact q
    · rw [List.getElem?_eq_none q] at he; cases he
  rw [hf i hi, hg i hi]
  exact h i e he
def HC (N : Nat → Nat → Nat) (r : Nat) (s : aP2) : Prop := N r 2 = s.2.length ∧ N r 3 = s.1 ∧ At3 (N (r + 1)) (N (r + 2)) s.2.reverse
/-- what reading a character leaves alone -/
def RF (r : Nat) (N N' : Nat → Nat → Nat) : Prop := ∀ a, (a < r ∨ r + 2 < a) → N' a = N a
theorem HC_last {N : Nat → Nat → Nat} {r aw w p : Nat} {l : List (Nat × Nat)} (h : HC N r (aw, (w, p) :: l)) : N (r + 1) l.length = w ∧ N (r + 2) l.length = p ∧ N r 2 = l.length + 1 := by
  obtain ⟨a, b, c⟩ := h
  dsimp only at a c
  rw [List.reverse_cons] at c
  obtain ⟨u1, u2, u3⟩ := At3_app.mp c
  rw [List.length_reverse] at u2 u3
  exact ⟨u2, u3, a⟩
theorem HC_put {N : Nat → Nat → Nat} {r aw aw' w p p' : Nat} {l : List (Nat × Nat)} (h : HC N r (aw, (w, p) :: l)) : HC (up2 (up2 N (r + 2) l.length p') r 3 aw') r (aw', (w, p') :: l) := by
  obtain ⟨a, b, c⟩ := h
  dsimp only at a c
  refine ⟨by rw [up2_o (by omega), up2_o (by omega)]; exact a, up2_e ⟨rfl, rfl⟩, ?_⟩
  dsimp only
  rw [List.reverse_cons] at c ⊢
  obtain ⟨u1, u2, u3⟩ := At3_app.mp c
  rw [List.length_reverse] at u2 u3
  refine At3_app.mpr ⟨At3_congr u1 (fun i hi => by rw [up2_o (by omega), up2_o (by omega)]) (fun i hi => ?_), ?_, ?_⟩
  · rw [List.length_reverse] at hi
    rw [up2_o (by omega), up2_o (by omega)]
  · rw [List.length_reverse, up2_o (by omega), up2_o (by omega)]
    exact u2
  · rw [List.length_reverse, up2_o (by omega)]
    exact up2_e ⟨rfl, rfl⟩
theorem HC_aw {N : Nat → Nat → Nat} {r aw aw' : Nat} {l : List (Nat × Nat)} (h : HC N r (aw, l)) : HC (up2 N r 3 aw') r (aw', l) := by
  obtain ⟨a, b, c⟩ := h
  refine ⟨by rw [up2_o (by omega)]; exact a, up2_e ⟨rfl, rfl⟩, ?_⟩
  refine At3_congr c (fun i hi => up2_o (by omega)) (fun i hi => up2_o (by omega))
section Ce
variable {Z : aZ} {N : Nat → Nat → Nat} {L : Nat → Nat → Int64} {c : Nat × Nat}
theorem q_hAcc {x r : Nat} {s : aP2} (hr : RAt Z r 4 6) (hx : x < 1000) (hm : HC N r s) (hb : HB s) :
    ∃ N', ex 2 0 [some (.ref r), some (.int (nI x))] [] (Z, iN N, L, c) = some (.inl (some (.int (nI (if (hS x s).isSome = true then 1 else 0)))), (Z, iN N', L, c)) ∧ (∀ s', hS x s = some s' → HC N' r s') ∧ RF r N N' := by
  obtain ⟨aw, l⟩ := s
  obtain ⟨b1, b2, b3, b4, b5⟩ := hb
  obtain ⟨m1, m2, m3⟩ := id hm
  dsimp only at b1 b2 b3 b4 b5 m1 m2 m3
  have r0 := hr.1
  rcases (show aw = 0 ∨ aw = 1 ∨ aw = 2 by omega) with rfl | rfl | rfl
  · clear b5
    have hw := s_hWeight (N := N) (L := L) (c := c) hr (show x < 2147483648 by omega) (by omega)
    by_cases q : (49 ≤ x ∧ x ≤ 51) ∧ l.length < 6
    · have hs : hS x (0, l) = some (1, (x - 48, 0) :: l) := if_pos q
      rw [if_pos (by omega), if_pos (by omega)] at hw
      rw [hs]
      refine ⟨hWt N r x, ?_, fun s' hs' => ?_, fun a ha => ?_⟩
      · simp (disch := omega) only [r_X0_accepts_0, r_X0_accepts_1, r_X0_accepts_4_0, r_X0_accepts_4_1, r_X0_accepts_4_2, r_X0_accepts_32, r_X0_accepts_33, r_X0_accepts_34, r_X0_accepts_37, r_X0_accepts_38, r_X0_accepts_39, r_X0_accepts_40, r_X0_accepts_42, r_X0_accepts_45, r_X0_accepts_46, r_X0_accepts_49, r_X0_accepts_50, r_X0_accepts_53, r_X0_accepts_54, r_X0_accepts_56, r_X0_accepts_59, r_X0_accepts_60, r_X0_accepts_63, r_X0_accepts_64, r_X0_accepts_65, r_X0_accepts_66, r_X0_accepts_68, r_X0_accepts_71, r_X0_accepts_72, r_X0_accepts_75, r_X0_accepts_78, r_X0_accepts_79, r_X0_accepts_80, r_X0_accepts_83, r0, up2_o, up2_e, iN_ap, iN_up, i_ix, i_inb, i_lt, i_lt0, i_0lt, i_eq, i_ne0, i_00, i_11, i_01, i_10, i_b, i_rem2, n_rem, i_add, i_mul, i_sub, i_div, i_max, i_min, rdk_0, rdk_3, kp_none, kp_int, kp_ref, kp_long, kp_double, aK_v, aK_0, aK_ite, if_true, if_false, and_self, and_true, true_and, or_false, false_or, not_true_eq_false, not_false_eq_true, ite_self, ↓reduceIte, m2, hw]
        rfl
      · cases hs'
        refine ⟨?_, up2_e ⟨rfl, rfl⟩, ?_⟩
        · unfold hWt
          rw [up2_o (by omega), up2_e ⟨rfl, rfl⟩, m1]
          rfl
        · dsimp only
          rw [List.reverse_cons]
          unfold hWt
          refine At3_app.mpr ⟨At3_congr m3 (fun i hi => ?_) (fun i hi => ?_), ?_, ?_⟩
          · rw [List.length_reverse] at hi
            rw [up2_o (by omega), up2_o (by omega), up2_o (by omega), up2_o (by omega)]
          · rw [List.length_reverse] at hi
            rw [up2_o (by omega), up2_o (by omega), up2_o (by omega), up2_o (by omega)]
          · rw [List.length_reverse, up2_o (by omega), up2_o (by omega), up2_o (by omega), up2_e ⟨rfl, m1.symm⟩]
          · rw [List.length_reverse, up2_o (by omega), up2_o (by omega), up2_e ⟨rfl, m1.symm⟩]
      · funext j
        unfold hWt
        rw [up2_o (by omega), up2_o (by omega), up2_o (by omega), up2_o (by omega)]
    · have hs : hS x (0, l) = none := if_neg q
      rw [if_neg (by omega), if_neg (by omega)] at hw
      rw [hs]
      refine ⟨N, ?_, fun s' hs' => (by simp at hs'), fun a ha => rfl⟩
      simp (disch := omega) only [r_X0_accepts_0, r_X0_accepts_1, r_X0_accepts_4_0, r_X0_accepts_4_1, r_X0_accepts_4_2, r_X0_accepts_32, r_X0_accepts_33, r_X0_accepts_34, r_X0_accepts_37, r_X0_accepts_38, r_X0_accepts_39, r_X0_accepts_40, r_X0_accepts_42, r_X0_accepts_45, r_X0_accepts_46, r_X0_accepts_49, r_X0_accepts_50, r_X0_accepts_53, r_X0_accepts_54, r_X0_accepts_56, r_X0_accepts_59, r_X0_accepts_60, r_X0_accepts_63, r_X0_accepts_64, r_X0_accepts_65, r_X0_accepts_66, r_X0_accepts_68, r_X0_accepts_71, r_X0_accepts_72, r_X0_accepts_75, r_X0_accepts_78, r_X0_accepts_79, r_X0_accepts_80, r_X0_accepts_83, r0, up2_o, up2_e, iN_ap, iN_up, i_ix, i_inb, i_lt, i_lt0, i_0lt, i_eq, i_ne0, i_00, i_11, i_01, i_10, i_b, i_rem2, n_rem, i_add, i_mul, i_sub, i_div, i_max, i_min, rdk_0, rdk_3, kp_none, kp_int, kp_ref, kp_long, kp_double, aK_v, aK_0, aK_ite, if_true, if_false, and_self, and_true, true_and, or_false, false_or, not_true_eq_false, not_false_eq_true, ite_self, ↓reduceIte, m2, hw]
      rfl
  · by_cases q : x = 58
    · subst q
      have hs : hS 58 (1, l) = some (2, l) := rfl
      rw [hs]
      refine ⟨up2 N r 3 2, ?_, fun s' hs' => (by cases hs'; exact HC_aw hm), fun a ha => (by funext j; exact up2_o (by omega))⟩
      simp (disch := omega) only [r_X0_accepts_0, r_X0_accepts_1, r_X0_accepts_4_0, r_X0_accepts_4_1, r_X0_accepts_4_2, r_X0_accepts_32, r_X0_accepts_33, r_X0_accepts_34, r_X0_accepts_37, r_X0_accepts_38, r_X0_accepts_39, r_X0_accepts_40, r_X0_accepts_42, r_X0_accepts_45, r_X0_accepts_46, r_X0_accepts_49, r_X0_accepts_50, r_X0_accepts_53, r_X0_accepts_54, r_X0_accepts_56, r_X0_accepts_59, r_X0_accepts_60, r_X0_accepts_63, r_X0_accepts_64, r_X0_accepts_65, r_X0_accepts_66, r_X0_accepts_68, r_X0_accepts_71, r_X0_accepts_72, r_X0_accepts_75, r_X0_accepts_78, r_X0_accepts_79, r_X0_accepts_80, r_X0_accepts_83, r0, up2_o, up2_e, iN_ap, iN_up, i_ix, i_inb, i_lt, i_lt0, i_0lt, i_eq, i_ne0, i_00, i_11, i_01, i_10, i_b, i_rem2, n_rem, i_add, i_mul, i_sub, i_div, i_max, i_min, rdk_0, rdk_3, kp_none, kp_int, kp_ref, kp_long, kp_double, aK_v, aK_0, aK_ite, if_true, if_false, and_self, and_true, true_and, or_false, false_or, not_true_eq_false, not_false_eq_true, ite_self, ↓reduceIte, m2]
      rfl
    · have hs : hS x (1, l) = none := by
        show (if x = 58 then some ((2 : Nat), l) else none) = none
        rw [if_neg q]
      rw [hs]
      refine ⟨up2 N r 3 1, ?_, fun s' hs' => (by simp at hs'), fun a ha => (by funext j; exact up2_o (by omega))⟩
      simp (disch := omega) only [r_X0_accepts_0, r_X0_accepts_1, r_X0_accepts_4_0, r_X0_accepts_4_1, r_X0_accepts_4_2, r_X0_accepts_32, r_X0_accepts_33, r_X0_accepts_34, r_X0_accepts_37, r_X0_accepts_38, r_X0_accepts_39, r_X0_accepts_40, r_X0_accepts_42, r_X0_accepts_45, r_X0_accepts_46, r_X0_accepts_49, r_X0_accepts_50, r_X0_accepts_53, r_X0_accepts_54, r_X0_accepts_56, r_X0_accepts_59, r_X0_accepts_60, r_X0_accepts_63, r_X0_accepts_64, r_X0_accepts_65, r_X0_accepts_66, r_X0_accepts_68, r_X0_accepts_71, r_X0_accepts_72, r_X0_accepts_75, r_X0_accepts_78, r_X0_accepts_79, r_X0_accepts_80, r_X0_accepts_83, r0, up2_o, up2_e, iN_ap, iN_up, i_ix, i_inb, i_lt, i_lt0, i_0lt, i_eq, i_ne0, i_00, i_11, i_01, i_10, i_b, i_rem2, n_rem, i_add, i_mul, i_sub, i_div, i_max, i_min, rdk_0, rdk_3, kp_none, kp_int, kp_ref, kp_long, kp_double, aK_v, aK_0, aK_ite, if_true, if_false, and_self, and_true, true_and, or_false, false_or, not_true_eq_false, not_false_eq_true, ite_self, ↓reduceIte, m2, i_eq, q]
      rfl
  · obtain ⟨e, l', hl, k1, k2⟩ := b5 (by omega)
    clear b5
    subst hl
    obtain ⟨w, p⟩ := e
    obtain ⟨l1, l2, l3⟩ := HC_last hm
    have bp := (b3 _ List.mem_cons_self).2
    dsimp only at bp
    have bl : l'.length ≤ 5 := by simp at b2; omega
    have hlp := s_hLastPrice (N := N) (L := L) (c := c) hr (by omega)
    rw [l3, if_neg (by omega), Nat.add_sub_cancel, l2] at hlp
    have hsd : hS x (2, (w, p) :: l') = if x = 44 then (if 1 ≤ p ∧ l'.length + 1 < 6 then some (0, (w, p) :: l') else none) else if (48 ≤ x ∧ x ≤ 57) ∧ 1 ≤ p * 10 + (x - 48) ∧ p * 10 + (x - 48) ≤ 9999 then some (2, (w, p * 10 + (x - 48)) :: l') else none := rfl
    by_cases q44 : x = 44
    · subst q44
      rw [if_pos rfl] at hsd
      by_cases q1 : p < 1
      · rw [if_neg (by omega)] at hsd
        rw [hsd]
        refine ⟨N, ?_, fun s' hs' => (by simp at hs'), fun a ha => rfl⟩
        simp (disch := omega) only [r_X0_accepts_0, r_X0_accepts_1, r_X0_accepts_4_0, r_X0_accepts_4_1, r_X0_accepts_4_2, r_X0_accepts_32, r_X0_accepts_33, r_X0_accepts_34, r_X0_accepts_37, r_X0_accepts_38, r_X0_accepts_39, r_X0_accepts_40, r_X0_accepts_42, r_X0_accepts_45, r_X0_accepts_46, r_X0_accepts_49, r_X0_accepts_50, r_X0_accepts_53, r_X0_accepts_54, r_X0_accepts_56, r_X0_accepts_59, r_X0_accepts_60, r_X0_accepts_63, r_X0_accepts_64, r_X0_accepts_65, r_X0_accepts_66, r_X0_accepts_68, r_X0_accepts_71, r_X0_accepts_72, r_X0_accepts_75, r_X0_accepts_78, r_X0_accepts_79, r_X0_accepts_80, r_X0_accepts_83, r_X0_acceptsComma_0, r_X0_acceptsComma_1, r_X0_acceptsComma_4, r_X0_acceptsComma_5, r_X0_acceptsComma_8, r_X0_acceptsComma_9, r_X0_acceptsComma_12, r_X0_acceptsComma_14, r_X0_acceptsComma_17, r_X0_acceptsComma_18, r_X0_acceptsComma_19, r_X0_acceptsComma_20, r_X0_acceptsComma_21, r_X0_acceptsComma_24, r_X0_acceptsComma_25, r0, up2_o, up2_e, iN_ap, iN_up, i_ix, i_inb, i_lt, i_lt0, i_0lt, i_eq, i_ne0, i_00, i_11, i_01, i_10, i_b, i_rem2, n_rem, i_add, i_mul, i_sub, i_div, i_max, i_min, rdk_0, rdk_3, kp_none, kp_int, kp_ref, kp_long, kp_double, aK_v, aK_0, aK_ite, if_true, if_false, and_self, and_true, true_and, or_false, false_or, not_true_eq_false, not_false_eq_true, ite_self, ↓reduceIte, m2, hlp, q1]
        rfl
      · by_cases q2 : l'.length + 1 < 6
        · rw [if_pos (by omega)] at hsd
          rw [hsd]
          refine ⟨up2 N r 3 0, ?_, fun s' hs' => (by cases hs'; exact HC_aw hm), fun a ha => (by funext j; exact up2_o (by omega))⟩
          simp (disch := omega) only [r_X0_accepts_0, r_X0_accepts_1, r_X0_accepts_4_0, r_X0_accepts_4_1, r_X0_accepts_4_2, r_X0_accepts_32, r_X0_accepts_33, r_X0_accepts_34, r_X0_accepts_37, r_X0_accepts_38, r_X0_accepts_39, r_X0_accepts_40, r_X0_accepts_42, r_X0_accepts_45, r_X0_accepts_46, r_X0_accepts_49, r_X0_accepts_50, r_X0_accepts_53, r_X0_accepts_54, r_X0_accepts_56, r_X0_accepts_59, r_X0_accepts_60, r_X0_accepts_63, r_X0_accepts_64, r_X0_accepts_65, r_X0_accepts_66, r_X0_accepts_68, r_X0_accepts_71, r_X0_accepts_72, r_X0_accepts_75, r_X0_accepts_78, r_X0_accepts_79, r_X0_accepts_80, r_X0_accepts_83, r_X0_acceptsComma_0, r_X0_acceptsComma_1, r_X0_acceptsComma_4, r_X0_acceptsComma_5, r_X0_acceptsComma_8, r_X0_acceptsComma_9, r_X0_acceptsComma_12, r_X0_acceptsComma_14, r_X0_acceptsComma_17, r_X0_acceptsComma_18, r_X0_acceptsComma_19, r_X0_acceptsComma_20, r_X0_acceptsComma_21, r_X0_acceptsComma_24, r_X0_acceptsComma_25, r0, up2_o, up2_e, iN_ap, iN_up, i_ix, i_inb, i_lt, i_lt0, i_0lt, i_eq, i_ne0, i_00, i_11, i_01, i_10, i_b, i_rem2, n_rem, i_add, i_mul, i_sub, i_div, i_max, i_min, rdk_0, rdk_3, kp_none, kp_int, kp_ref, kp_long, kp_double, aK_v, aK_0, aK_ite, if_true, if_false, and_self, and_true, true_and, or_false, false_or, not_true_eq_false, not_false_eq_true, ite_self, ↓reduceIte, m2, hlp, q1, l3, q2]
          rfl
        · rw [if_neg (by omega)] at hsd
          rw [hsd]
          refine ⟨N, ?_, fun s' hs' => (by simp at hs'), fun a ha => rfl⟩
          simp (disch := omega) only [r_X0_accepts_0, r_X0_accepts_1, r_X0_accepts_4_0, r_X0_accepts_4_1, r_X0_accepts_4_2, r_X0_accepts_32, r_X0_accepts_33, r_X0_accepts_34, r_X0_accepts_37, r_X0_accepts_38, r_X0_accepts_39, r_X0_accepts_40, r_X0_accepts_42, r_X0_accepts_45, r_X0_accepts_46, r_X0_accepts_49, r_X0_accepts_50, r_X0_accepts_53, r_X0_accepts_54, r_X0_accepts_56, r_X0_accepts_59, r_X0_accepts_60, r_X0_accepts_63, r_X0_accepts_64, r_X0_accepts_65, r_X0_accepts_66, r_X0_accepts_68, r_X0_accepts_71, r_X0_accepts_72, r_X0_accepts_75, r_X0_accepts_78, r_X0_accepts_79, r_X0_accepts_80, r_X0_accepts_83, r_X0_acceptsComma_0, r_X0_acceptsComma_1, r_X0_acceptsComma_4, r_X0_acceptsComma_5, r_X0_acceptsComma_8, r_X0_acceptsComma_9, r_X0_acceptsComma_12, r_X0_acceptsComma_14, r_X0_acceptsComma_17, r_X0_acceptsComma_18, r_X0_acceptsComma_19, r_X0_acceptsComma_20, r_X0_acceptsComma_21, r_X0_acceptsComma_24, r_X0_acceptsComma_25, r0, up2_o, up2_e, iN_ap, iN_up, i_ix, i_inb, i_lt, i_lt0, i_0lt, i_eq, i_ne0, i_00, i_11, i_01, i_10, i_b, i_rem2, n_rem, i_add, i_mul, i_sub, i_div, i_max, i_min, rdk_0, rdk_3, kp_none, kp_int, kp_ref, kp_long, kp_double, aK_v, aK_0, aK_ite, if_true, if_false, and_self, and_true, true_and, or_false, false_or, not_true_eq_false, not_false_eq_true, ite_self, ↓reduceIte, m2, hlp, q1, l3, q2]
          rfl
    · rw [if_neg q44] at hsd
      have hdg := s_isDigit (x := x) (h := (Z, iN N, L, c)) (by omega)
      by_cases q5 : 48 ≤ x ∧ x ≤ 57
      · rw [if_pos q5] at hdg
        have q6 : ¬ l'.length + 1 < 1 := by omega
        have ev : nI (p * 10) + nI x - nI 48 = nI (p * 10 + (x - 48)) := by
          rw [i_add, i_sub (by omega), Nat.add_sub_assoc q5.1]
        have hv : p * 10 + (x - 48) < 2147483648 := by omega
        obtain ⟨v, hvd⟩ : ∃ v, v = p * 10 + (x - 48) := ⟨_, rfl⟩
        rw [← hvd] at ev hv hsd
        by_cases q7 : v < 1
        · rw [if_neg (by omega)] at hsd
          rw [hsd]
          refine ⟨N, ?_, fun s' hs' => (by simp at hs'), fun a ha => rfl⟩
          simp (disch := omega) only [r_X0_accepts_0, r_X0_accepts_1, r_X0_accepts_4_0, r_X0_accepts_4_1, r_X0_accepts_4_2, r_X0_accepts_32, r_X0_accepts_33, r_X0_accepts_34, r_X0_accepts_37, r_X0_accepts_38, r_X0_accepts_39, r_X0_accepts_40, r_X0_accepts_42, r_X0_accepts_45, r_X0_accepts_46, r_X0_accepts_49, r_X0_accepts_50, r_X0_accepts_53, r_X0_accepts_54, r_X0_accepts_56, r_X0_accepts_59, r_X0_accepts_60, r_X0_accepts_63, r_X0_accepts_64, r_X0_accepts_65, r_X0_accepts_66, r_X0_accepts_68, r_X0_accepts_71, r_X0_accepts_72, r_X0_accepts_75, r_X0_accepts_78, r_X0_accepts_79, r_X0_accepts_80, r_X0_accepts_83, r_X0_acceptsPriceDigit_0, r_X0_acceptsPriceDigit_1, r_X0_acceptsPriceDigit_4, r_X0_acceptsPriceDigit_7, r_X0_acceptsPriceDigit_8, r_X0_acceptsPriceDigit_11, r_X0_acceptsPriceDigit_12, r_X0_acceptsPriceDigit_15, r_X0_acceptsPriceDigit_16, r_X0_acceptsPriceDigit_17, r_X0_acceptsPriceDigit_18, r_X0_acceptsPriceDigit_21, r_X0_acceptsPriceDigit_23, r_X0_acceptsPriceDigit_30, r_X0_acceptsPriceDigit_31, r_X0_acceptsPriceDigit_32, r_X0_acceptsPriceDigit_35, r_X0_acceptsPriceDigit_36, r_X0_acceptsPriceDigit_39, r_X0_acceptsPriceDigit_42, r_X0_acceptsPriceDigit_43, r_X0_acceptsPriceDigit_44, r_X0_acceptsPriceDigit_45, r_X0_acceptsPriceDigit_48, r_X0_acceptsPriceDigit_49, r_X0_acceptsPriceDigit_52, r_X0_acceptsPriceDigit_53, r_X0_acceptsPriceDigit_54, r_X0_acceptsPriceDigit_55, r_X0_acceptsPriceDigit_56, r_X0_acceptsPriceDigit_57, r0, up2_o, up2_e, iN_ap, iN_up, i_ix, i_inb, i_lt, i_lt0, i_0lt, i_eq, i_ne0, i_00, i_11, i_01, i_10, i_b, i_rem2, n_rem, i_add, i_mul, i_sub, i_div, i_max, i_min, rdk_0, rdk_3, kp_none, kp_int, kp_ref, kp_long, kp_double, aK_v, aK_0, aK_ite, if_true, if_false, and_self, and_true, true_and, or_false, false_or, not_true_eq_false, not_false_eq_true, ite_self, ↓reduceIte, m2, i_eq, q44, hdg, l3, q6, hlp]
          simp (disch := omega) only [r_X0_accepts_0, r_X0_accepts_1, r_X0_accepts_4_0, r_X0_accepts_4_1, r_X0_accepts_4_2, r_X0_accepts_32, r_X0_accepts_33, r_X0_accepts_34, r_X0_accepts_37, r_X0_accepts_38, r_X0_accepts_39, r_X0_accepts_40, r_X0_accepts_42, r_X0_accepts_45, r_X0_accepts_46, r_X0_accepts_49, r_X0_accepts_50, r_X0_accepts_53, r_X0_accepts_54, r_X0_accepts_56, r_X0_accepts_59, r_X0_accepts_60, r_X0_accepts_63, r_X0_accepts_64, r_X0_accepts_65, r_X0_accepts_66, r_X0_accepts_68, r_X0_accepts_71, r_X0_accepts_72, r_X0_accepts_75, r_X0_accepts_78, r_X0_accepts_79, r_X0_accepts_80, r_X0_accepts_83, r_X0_acceptsPriceDigit_24, r_X0_acceptsPriceDigit_25, r_X0_acceptsPriceDigit_26, r_X0_acceptsPriceDigit_28, r_X0_acceptsPriceDigit_29, ev]
          simp (disch := omega) only [r_X0_accepts_0, r_X0_accepts_1, r_X0_accepts_4_0, r_X0_accepts_4_1, r_X0_accepts_4_2, r_X0_accepts_32, r_X0_accepts_33, r_X0_accepts_34, r_X0_accepts_37, r_X0_accepts_38, r_X0_accepts_39, r_X0_accepts_40, r_X0_accepts_42, r_X0_accepts_45, r_X0_accepts_46, r_X0_accepts_49, r_X0_accepts_50, r_X0_accepts_53, r_X0_accepts_54, r_X0_accepts_56, r_X0_accepts_59, r_X0_accepts_60, r_X0_accepts_63, r_X0_accepts_64, r_X0_accepts_65, r_X0_accepts_66, r_X0_accepts_68, r_X0_accepts_71, r_X0_accepts_72, r_X0_accepts_75, r_X0_accepts_78, r_X0_accepts_79, r_X0_accepts_80, r_X0_accepts_83, r_X0_acceptsPriceDigit_30, r_X0_acceptsPriceDigit_31, r_X0_acceptsPriceDigit_32, r_X0_acceptsPriceDigit_35, r_X0_acceptsPriceDigit_36, r_X0_acceptsPriceDigit_39, r_X0_acceptsPriceDigit_42, r_X0_acceptsPriceDigit_43, r_X0_acceptsPriceDigit_44, r_X0_acceptsPriceDigit_45, r_X0_acceptsPriceDigit_48, r_X0_acceptsPriceDigit_49, r_X0_acceptsPriceDigit_52, r_X0_acceptsPriceDigit_53, r_X0_acceptsPriceDigit_54, r_X0_acceptsPriceDigit_55, r_X0_acceptsPriceDigit_56, r_X0_acceptsPriceDigit_57, r0, up2_o, up2_e, iN_ap, iN_up, i_ix, i_inb, i_lt, i_lt0, i_0lt, i_eq, i_ne0, i_00, i_11, i_01, i_10, i_b, i_rem2, n_rem, i_add, i_mul, i_sub, i_div, i_max, i_min, rdk_0, rdk_3, kp_none, kp_int, kp_ref, kp_long, kp_double, aK_v, aK_0, aK_ite, if_true, if_false, and_self, and_true, true_and, or_false, false_or, not_true_eq_false, not_false_eq_true, ite_self, ↓reduceIte, q7]
          rfl
        · by_cases q8 : 9999 < v
          · rw [if_neg (by omega)] at hsd
            rw [hsd]
            refine ⟨N, ?_, fun s' hs' => (by simp at hs'), fun a ha => rfl⟩
            simp (disch := omega) only [r_X0_accepts_0, r_X0_accepts_1, r_X0_accepts_4_0, r_X0_accepts_4_1, r_X0_accepts_4_2, r_X0_accepts_32, r_X0_accepts_33, r_X0_accepts_34, r_X0_accepts_37, r_X0_accepts_38, r_X0_accepts_39, r_X0_accepts_40, r_X0_accepts_42, r_X0_accepts_45, r_X0_accepts_46, r_X0_accepts_49, r_X0_accepts_50, r_X0_accepts_53, r_X0_accepts_54, r_X0_accepts_56, r_X0_accepts_59, r_X0_accepts_60, r_X0_accepts_63, r_X0_accepts_64, r_X0_accepts_65, r_X0_accepts_66, r_X0_accepts_68, r_X0_accepts_71, r_X0_accepts_72, r_X0_accepts_75, r_X0_accepts_78, r_X0_accepts_79, r_X0_accepts_80, r_X0_accepts_83, r_X0_acceptsPriceDigit_0, r_X0_acceptsPriceDigit_1, r_X0_acceptsPriceDigit_4, r_X0_acceptsPriceDigit_7, r_X0_acceptsPriceDigit_8, r_X0_acceptsPriceDigit_11, r_X0_acceptsPriceDigit_12, r_X0_acceptsPriceDigit_15, r_X0_acceptsPriceDigit_16, r_X0_acceptsPriceDigit_17, r_X0_acceptsPriceDigit_18, r_X0_acceptsPriceDigit_21, r_X0_acceptsPriceDigit_23, r_X0_acceptsPriceDigit_30, r_X0_acceptsPriceDigit_31, r_X0_acceptsPriceDigit_32, r_X0_acceptsPriceDigit_35, r_X0_acceptsPriceDigit_36, r_X0_acceptsPriceDigit_39, r_X0_acceptsPriceDigit_42, r_X0_acceptsPriceDigit_43, r_X0_acceptsPriceDigit_44, r_X0_acceptsPriceDigit_45, r_X0_acceptsPriceDigit_48, r_X0_acceptsPriceDigit_49, r_X0_acceptsPriceDigit_52, r_X0_acceptsPriceDigit_53, r_X0_acceptsPriceDigit_54, r_X0_acceptsPriceDigit_55, r_X0_acceptsPriceDigit_56, r_X0_acceptsPriceDigit_57, r0, up2_o, up2_e, iN_ap, iN_up, i_ix, i_inb, i_lt, i_lt0, i_0lt, i_eq, i_ne0, i_00, i_11, i_01, i_10, i_b, i_rem2, n_rem, i_add, i_mul, i_sub, i_div, i_max, i_min, rdk_0, rdk_3, kp_none, kp_int, kp_ref, kp_long, kp_double, aK_v, aK_0, aK_ite, if_true, if_false, and_self, and_true, true_and, or_false, false_or, not_true_eq_false, not_false_eq_true, ite_self, ↓reduceIte, m2, i_eq, q44, hdg, l3, q6, hlp]
            simp (disch := omega) only [r_X0_accepts_0, r_X0_accepts_1, r_X0_accepts_4_0, r_X0_accepts_4_1, r_X0_accepts_4_2, r_X0_accepts_32, r_X0_accepts_33, r_X0_accepts_34, r_X0_accepts_37, r_X0_accepts_38, r_X0_accepts_39, r_X0_accepts_40, r_X0_accepts_42, r_X0_accepts_45, r_X0_accepts_46, r_X0_accepts_49, r_X0_accepts_50, r_X0_accepts_53, r_X0_accepts_54, r_X0_accepts_56, r_X0_accepts_59, r_X0_accepts_60, r_X0_accepts_63, r_X0_accepts_64, r_X0_accepts_65, r_X0_accepts_66, r_X0_accepts_68, r_X0_accepts_71, r_X0_accepts_72, r_X0_accepts_75, r_X0_accepts_78, r_X0_accepts_79, r_X0_accepts_80, r_X0_accepts_83, r_X0_acceptsPriceDigit_24, r_X0_acceptsPriceDigit_25, r_X0_acceptsPriceDigit_26, r_X0_acceptsPriceDigit_28, r_X0_acceptsPriceDigit_29, ev]
            simp (disch := omega) only [r_X0_accepts_0, r_X0_accepts_1, r_X0_accepts_4_0, r_X0_accepts_4_1, r_X0_accepts_4_2, r_X0_accepts_32, r_X0_accepts_33, r_X0_accepts_34, r_X0_accepts_37, r_X0_accepts_38, r_X0_accepts_39, r_X0_accepts_40, r_X0_accepts_42, r_X0_accepts_45, r_X0_accepts_46, r_X0_accepts_49, r_X0_accepts_50, r_X0_accepts_53, r_X0_accepts_54, r_X0_accepts_56, r_X0_accepts_59, r_X0_accepts_60, r_X0_accepts_63, r_X0_accepts_64, r_X0_accepts_65, r_X0_accepts_66, r_X0_accepts_68, r_X0_accepts_71, r_X0_accepts_72, r_X0_accepts_75, r_X0_accepts_78, r_X0_accepts_79, r_X0_accepts_80, r_X0_accepts_83, r_X0_acceptsPriceDigit_30, r_X0_acceptsPriceDigit_31, r_X0_acceptsPriceDigit_32, r_X0_acceptsPriceDigit_35, r_X0_acceptsPriceDigit_36, r_X0_acceptsPriceDigit_39, r_X0_acceptsPriceDigit_42, r_X0_acceptsPriceDigit_43, r_X0_acceptsPriceDigit_44, r_X0_acceptsPriceDigit_45, r_X0_acceptsPriceDigit_48, r_X0_acceptsPriceDigit_49, r_X0_acceptsPriceDigit_52, r_X0_acceptsPriceDigit_53, r_X0_acceptsPriceDigit_54, r_X0_acceptsPriceDigit_55, r_X0_acceptsPriceDigit_56, r_X0_acceptsPriceDigit_57, r0, up2_o, up2_e, iN_ap, iN_up, i_ix, i_inb, i_lt, i_lt0, i_0lt, i_eq, i_ne0, i_00, i_11, i_01, i_10, i_b, i_rem2, n_rem, i_add, i_mul, i_sub, i_div, i_max, i_min, rdk_0, rdk_3, kp_none, kp_int, kp_ref, kp_long, kp_double, aK_v, aK_0, aK_ite, if_true, if_false, and_self, and_true, true_and, or_false, false_or, not_true_eq_false, not_false_eq_true, ite_self, ↓reduceIte, q7, q8]
            rfl
          · rw [if_pos (by omega)] at hsd
            rw [hsd]
            obtain ⟨-, r1, r2, r3, r4, r5, r6⟩ := hr
            refine ⟨up2 N (r + 2) l'.length v, ?_, fun s' hs' => ?_, fun a ha => (by funext j; exact up2_o (by omega))⟩
            · simp (disch := omega) only [r_X0_accepts_0, r_X0_accepts_1, r_X0_accepts_4_0, r_X0_accepts_4_1, r_X0_accepts_4_2, r_X0_accepts_32, r_X0_accepts_33, r_X0_accepts_34, r_X0_accepts_37, r_X0_accepts_38, r_X0_accepts_39, r_X0_accepts_40, r_X0_accepts_42, r_X0_accepts_45, r_X0_accepts_46, r_X0_accepts_49, r_X0_accepts_50, r_X0_accepts_53, r_X0_accepts_54, r_X0_accepts_56, r_X0_accepts_59, r_X0_accepts_60, r_X0_accepts_63, r_X0_accepts_64, r_X0_accepts_65, r_X0_accepts_66, r_X0_accepts_68, r_X0_accepts_71, r_X0_accepts_72, r_X0_accepts_75, r_X0_accepts_78, r_X0_accepts_79, r_X0_accepts_80, r_X0_accepts_83, r_X0_acceptsPriceDigit_0, r_X0_acceptsPriceDigit_1, r_X0_acceptsPriceDigit_4, r_X0_acceptsPriceDigit_7, r_X0_acceptsPriceDigit_8, r_X0_acceptsPriceDigit_11, r_X0_acceptsPriceDigit_12, r_X0_acceptsPriceDigit_15, r_X0_acceptsPriceDigit_16, r_X0_acceptsPriceDigit_17, r_X0_acceptsPriceDigit_18, r_X0_acceptsPriceDigit_21, r_X0_acceptsPriceDigit_23, r_X0_acceptsPriceDigit_30, r_X0_acceptsPriceDigit_31, r_X0_acceptsPriceDigit_32, r_X0_acceptsPriceDigit_35, r_X0_acceptsPriceDigit_36, r_X0_acceptsPriceDigit_39, r_X0_acceptsPriceDigit_42, r_X0_acceptsPriceDigit_43, r_X0_acceptsPriceDigit_44, r_X0_acceptsPriceDigit_45, r_X0_acceptsPriceDigit_48, r_X0_acceptsPriceDigit_49, r_X0_acceptsPriceDigit_52, r_X0_acceptsPriceDigit_53, r_X0_acceptsPriceDigit_54, r_X0_acceptsPriceDigit_55, r_X0_acceptsPriceDigit_56, r_X0_acceptsPriceDigit_57, r0, up2_o, up2_e, iN_ap, iN_up, i_ix, i_inb, i_lt, i_lt0, i_0lt, i_eq, i_ne0, i_00, i_11, i_01, i_10, i_b, i_rem2, n_rem, i_add, i_mul, i_sub, i_div, i_max, i_min, rdk_0, rdk_3, kp_none, kp_int, kp_ref, kp_long, kp_double, aK_v, aK_0, aK_ite, if_true, if_false, and_self, and_true, true_and, or_false, false_or, not_true_eq_false, not_false_eq_true, ite_self, ↓reduceIte, m2, i_eq, q44, hdg, l3, q6, hlp]
              simp (disch := omega) only [r_X0_accepts_0, r_X0_accepts_1, r_X0_accepts_4_0, r_X0_accepts_4_1, r_X0_accepts_4_2, r_X0_accepts_32, r_X0_accepts_33, r_X0_accepts_34, r_X0_accepts_37, r_X0_accepts_38, r_X0_accepts_39, r_X0_accepts_40, r_X0_accepts_42, r_X0_accepts_45, r_X0_accepts_46, r_X0_accepts_49, r_X0_accepts_50, r_X0_accepts_53, r_X0_accepts_54, r_X0_accepts_56, r_X0_accepts_59, r_X0_accepts_60, r_X0_accepts_63, r_X0_accepts_64, r_X0_accepts_65, r_X0_accepts_66, r_X0_accepts_68, r_X0_accepts_71, r_X0_accepts_72, r_X0_accepts_75, r_X0_accepts_78, r_X0_accepts_79, r_X0_accepts_80, r_X0_accepts_83, r_X0_acceptsPriceDigit_24, r_X0_acceptsPriceDigit_25, r_X0_acceptsPriceDigit_26, r_X0_acceptsPriceDigit_28, r_X0_acceptsPriceDigit_29, ev]
              simp (disch := omega) only [r_X0_accepts_0, r_X0_accepts_1, r_X0_accepts_4_0, r_X0_accepts_4_1, r_X0_accepts_4_2, r_X0_accepts_32, r_X0_accepts_33, r_X0_accepts_34, r_X0_accepts_37, r_X0_accepts_38, r_X0_accepts_39, r_X0_accepts_40, r_X0_accepts_42, r_X0_accepts_45, r_X0_accepts_46, r_X0_accepts_49, r_X0_accepts_50, r_X0_accepts_53, r_X0_accepts_54, r_X0_accepts_56, r_X0_accepts_59, r_X0_accepts_60, r_X0_accepts_63, r_X0_accepts_64, r_X0_accepts_65, r_X0_accepts_66, r_X0_accepts_68, r_X0_accepts_71, r_X0_accepts_72, r_X0_accepts_75, r_X0_accepts_78, r_X0_accepts_79, r_X0_accepts_80, r_X0_accepts_83, r_X0_acceptsPriceDigit_30, r_X0_acceptsPriceDigit_31, r_X0_acceptsPriceDigit_32, r_X0_acceptsPriceDigit_35, r_X0_acceptsPriceDigit_36, r_X0_acceptsPriceDigit_39, r_X0_acceptsPriceDigit_42, r_X0_acceptsPriceDigit_43, r_X0_acceptsPriceDigit_44, r_X0_acceptsPriceDigit_45, r_X0_acceptsPriceDigit_48, r_X0_acceptsPriceDigit_49, r_X0_acceptsPriceDigit_52, r_X0_acceptsPriceDigit_53, r_X0_acceptsPriceDigit_54, r_X0_acceptsPriceDigit_55, r_X0_acceptsPriceDigit_56, r_X0_acceptsPriceDigit_57, r0, r2, r4, r6, up2_o, up2_e, iN_ap, iN_up, i_ix, i_inb, i_lt, i_lt0, i_0lt, i_eq, i_ne0, i_00, i_11, i_01, i_10, i_b, i_rem2, n_rem, i_add, i_mul, i_sub, i_div, i_max, i_min, rdk_0, rdk_3, kp_none, kp_int, kp_ref, kp_long, kp_double, aK_v, aK_0, aK_ite, if_true, if_false, and_self, and_true, true_and, or_false, false_or, not_true_eq_false, not_false_eq_true, ite_self, ↓reduceIte, q7, q8, l3, Nat.add_sub_cancel]
              rfl
            · cases hs'
              have := HC_put (aw' := 2) (p' := v) hm
              refine ⟨?_, ?_, ?_⟩
              · have := this.1
                rw [up2_o (by omega)] at this
                exact this
              · rw [up2_o (by omega)]
                exact m2
              · refine At3_congr this.2.2 (fun i _ => ?_) (fun i _ => ?_)
                · rw [up2_o (a := r) (by omega)]
                · rw [up2_o (a := r) (by omega)]
      · rw [if_neg q5] at hdg
        rw [if_neg (fun z => q5 z.1)] at hsd
        rw [hsd]
        refine ⟨N, ?_, fun s' hs' => (by simp at hs'), fun a ha => rfl⟩
        simp (disch := omega) only [r_X0_accepts_0, r_X0_accepts_1, r_X0_accepts_4_0, r_X0_accepts_4_1, r_X0_accepts_4_2, r_X0_accepts_32, r_X0_accepts_33, r_X0_accepts_34, r_X0_accepts_37, r_X0_accepts_38, r_X0_accepts_39, r_X0_accepts_40, r_X0_accepts_42, r_X0_accepts_45, r_X0_accepts_46, r_X0_accepts_49, r_X0_accepts_50, r_X0_accepts_53, r_X0_accepts_54, r_X0_accepts_56, r_X0_accepts_59, r_X0_accepts_60, r_X0_accepts_63, r_X0_accepts_64, r_X0_accepts_65, r_X0_accepts_66, r_X0_accepts_68, r_X0_accepts_71, r_X0_accepts_72, r_X0_accepts_75, r_X0_accepts_78, r_X0_accepts_79, r_X0_accepts_80, r_X0_accepts_83, r_X0_acceptsPriceDigit_0, r_X0_acceptsPriceDigit_1, r_X0_acceptsPriceDigit_4, r_X0_acceptsPriceDigit_7, r_X0_acceptsPriceDigit_8, r_X0_acceptsPriceDigit_11, r_X0_acceptsPriceDigit_12, r_X0_acceptsPriceDigit_15, r_X0_acceptsPriceDigit_16, r_X0_acceptsPriceDigit_17, r_X0_acceptsPriceDigit_18, r_X0_acceptsPriceDigit_21, r_X0_acceptsPriceDigit_23, r_X0_acceptsPriceDigit_24, r_X0_acceptsPriceDigit_25, r_X0_acceptsPriceDigit_26, r_X0_acceptsPriceDigit_28, r_X0_acceptsPriceDigit_29, r_X0_acceptsPriceDigit_30, r_X0_acceptsPriceDigit_31, r_X0_acceptsPriceDigit_32, r_X0_acceptsPriceDigit_35, r_X0_acceptsPriceDigit_36, r_X0_acceptsPriceDigit_39, r_X0_acceptsPriceDigit_42, r_X0_acceptsPriceDigit_43, r_X0_acceptsPriceDigit_44, r_X0_acceptsPriceDigit_45, r_X0_acceptsPriceDigit_48, r_X0_acceptsPriceDigit_49, r_X0_acceptsPriceDigit_52, r_X0_acceptsPriceDigit_53, r_X0_acceptsPriceDigit_54, r_X0_acceptsPriceDigit_55, r_X0_acceptsPriceDigit_56, r_X0_acceptsPriceDigit_57, r0, up2_o, up2_e, iN_ap, iN_up, i_ix, i_inb, i_lt, i_lt0, i_0lt, i_eq, i_ne0, i_00, i_11, i_01, i_10, i_b, i_rem2, n_rem, i_add, i_mul, i_sub, i_div, i_max, i_min, rdk_0, rdk_3, kp_none, kp_int, kp_ref, kp_long, kp_double, aK_v, aK_0, aK_ite, if_true, if_false, and_self, and_true, true_and, or_false, false_or, not_true_eq_false, not_false_eq_true, ite_self, ↓reduceIte, m2, i_eq, q44, hdg]
        rfl
end Ce
