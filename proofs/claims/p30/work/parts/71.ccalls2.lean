/-! the class: unbook, set, pass, undo, money -/
theorem ubX_at {y p : Nat} : ∀ (rs l : List Nat) (k : Nat) (N : Nat → Nat → Nat), l.length = k → AtL (N (y + 15)) l → AtL ((ubX y p rs k N).2 (y + 15)) (l ++ rs.filter (fun x => !Nat.beq x p)) ∧ (ubX y p rs k N).1 = (l ++ rs.filter (fun x => !Nat.beq x p)).length
  | [], l, k, N, hk, h => by
    unfold ubX
    rw [List.filter_nil, List.append_nil]
    exact ⟨h, hk.symm⟩
  | x :: rs, l, k, N, hk, h => by
    unfold ubX
    by_cases q : x = p
    · rw [if_pos q, List.filter_cons_of_neg (p := fun x => !Nat.beq x p) (fun w => nbeq.mp w q)]
      exact ubX_at rs l k N hk h
    · rw [if_neg q, List.filter_cons_of_pos (p := fun x => !Nat.beq x p) (nbeq.mpr q)]
      have := ubX_at (y := y) (p := p) rs (l ++ [x]) (k + 1) (up2 N (y + 15) k x) (by simp [hk]) (AtL_app.mpr ⟨fun i z hz => by
        have := AtL_lt hz
        rw [up2_o (by omega)]
        exact h i z hz, by rw [hk]; exact up2_e ⟨rfl, rfl⟩⟩)
      rw [List.append_assoc, List.singleton_append] at this
      exact this
section Cc
variable {Z : aZ} {N : Nat → Nat → Nat} {L : Nat → Nat → Int64} {c : Nat × Nat}
theorem CY_unb {R : aY} {q : List Nat} {p : Nat} (hc : CY N 1 R q) (hp : p < 36) : CY (yUnb N 1 p q) 1 (ubR R p) (q.filter (fun x => !Nat.beq x p)) := by
  obtain ⟨a, b⟩ := ubX_at (y := 1) (p := p) q [] 0 N rfl (fun i x h => by simp at h)
  have hr : rg (ubX 1 p q 0 N).2 1 = R := by
    rw [← hc.1]
    exact rg_congr (fun k i hk _ => ubX_o _ _ _ _ _ (by omega))
  unfold yUnb
  dsimp only
  refine ⟨?_, QH_of ?_ (fun i x hx => ?_)⟩
  · rw [rg_up (n := 36) rfl hp, rg_up (n := 6) rfl (by omega), rg_3, hr, ubX_o _ _ _ _ _ (by omega), CY_at hc 4 (n := 6) rfl (by omega)]
    rfl
  · rw [up2_o (by omega), up2_o (by omega), up2_e ⟨rfl, rfl⟩]
    exact b
  · rw [up2_o (by omega), up2_o (by omega), up2_o (by omega)]
    exact a i x hx
theorem yUnb_o {q : List Nat} {p a : Nat} (h : a < 1 ∨ 16 < a) : yUnb N 1 p q a = N a := by
  funext j
  show up2 (up2 (up2 (ubX 1 p q 0 N).2 1 3 _) (1 + 4) (p / 6) _) (1 + 8) p 4294967295 a j = N a j
  rw [up2_o (by omega), up2_o (by omega), up2_o (by omega), ubX_o _ _ _ _ _ (by omega)]
/-- a call that saves and then changes the yard alone -/
theorem CR_ok {S : aSt} {N1 N2 : Nat → Nat → Nat} {kd : Nat → Nat} {R' : aY} {q' : List Nat} {v : Nat} (hI : CI N S) (s2 : VS N1 (push S.2.1 S.1)) (s3 : ∀ a, (a < 33 ∨ 131 ≤ a) → N1 a = N a) (hc : CY N2 1 R' q') (h2 : ∀ a, 17 ≤ a → N2 a = N1 a) :
    CR Z L c N kd (some (.inl (some (.int (nI v))), (Z, iN N2, L, c))) (0, v, (R', q'), push S.2.1 S.1, S.2.2) :=
  ⟨N2, by rw [if_pos rfl], CI_up hI hc (VS_congr s2 (fun a h1 _ => h2 a (by omega))) ⟨by rw [h2 136 (by omega), s3 136 (by omega)], by rw [h2 137 (by omega), s3 137 (by omega)]⟩ (SH_congr hI.2.2.2.1 (fun a j h1 _ => by rw [h2 a (by omega), s3 a (by omega)])) (fun a ha => by rw [h2 a (by omega), s3 a (by omega)]), fun a ha => by rw [h2 a (by omega), s3 a (by omega)]⟩
theorem q_unbook {S : aSt} {h : Nat} (hC : ZC Z) (hI : CI N S) (hS : SOK S) (hh : h < 4294967296) :
    CR Z L c N (fun k => if k = 1 then 0 else 2) (ex 59 0 [some (.ref 0), some (.int (nI h))] [] (Z, iN N, L, c)) (oUnb S h) := by
  obtain ⟨⟨R, q⟩, sv, tx⟩ := S
  have hw := hS.1.1
  have h0 := hw.1.1.1
  have kh := q_reqHouse (L := L) (c := c) hC hI hw hh
  have hc := hI.1
  unfold oUnb
  dsimp only at hw h0 kh hc ⊢
  by_cases q1 : h < R 0 1
  · rw [if_pos q1] at kh
    rw [if_neg (not_not_intro q1)]
    have hh6 : h < 6 := by omega
    have hh1 := hw.2.1 h hh6
    have e4 : N (1 + 4) h = R 4 h := CY_at hc 4 (n := 6) rfl hh6
    have e5 : N (1 + 5) h = R 5 h := CY_at hc 5 (n := 6) rfl hh6
    by_cases q2 : R 5 h < R 4 h
    · rw [if_neg (by omega)]
      obtain ⟨p, hp⟩ : ∃ p, p = 6 * h + (R 4 h - 1) := ⟨_, rfl⟩
      have hp36 : p < 36 := by omega
      rw [← hp]
      obtain ⟨N2, s1, s2, s3⟩ := q_save (L := L) (c := c) hC hI hS.2.1 (WF_len hw)
      have hc2 : CY N2 1 R q := CY_congr hc (fun a h1 h2 => s3 a (by omega))
      have e42 : N2 (1 + 4) h = R 4 h := CY_at hc2 4 (n := 6) rfl hh6
      have hpl := s_placeOf (p := h) (t := R 4 h - 1) (h := (Z, iN N2, L, c))
      rw [show h * 6 + (R 4 h - 1) = p by omega] at hpl
      have hu := s_unbookPlace (L := L) (c := c) hC.2.1 hp36 hc2.2 (WF_len hw) (fun x hx => ((hw.2.2.2.2.2.2.1 x).mp hx).1) (by rw [show p / 6 = h by omega, e42]; omega)
      rw [CY_at hc2 8 (n := 36) rfl hp36] at hu
      have fin := CR_ok (Z := Z) (L := L) (c := c) (kd := fun k => if k = 1 then 0 else 2) (v := R 8 p) hI s2 s3 (CY_unb hc2 hp36) (fun a ha => yUnb_o (by omega))
      simp (disch := omega) only [r_X7_unbook_0, r_X7_unbook_1, r_X7_unbook_2, r_X7_unbook_5, r_X7_unbook_6, r_X7_unbook_9, r_X7_unbook_12, r_X7_unbook_13, r_X7_unbook_14, r_X7_unbook_15, r_X7_unbook_18, r_X7_unbook_21, r_X7_unbook_22, r_X7_unbook_23, r_X7_unbook_26, r_X7_unbook_36, r_X7_unbook_37, r_X7_unbook_40, r_X7_unbook_41, r_X7_unbook_44, r_X7_unbook_47, r_X7_unbook_48, r_X7_unbook_51, r_X7_unbook_52, r_X7_unbook_53, r_X7_unbook_56, r_X7_unbook_59, r_X7_unbook_60, r_X7_unbook_61, r_X7_unbook_62, r_X7_unbook_63, r_X7_unbook_66, r_X7_unbook_69, @id (Z.1 0 = 10) hC.1.1, @id (Z.2.2.1 0 0 = .ref 1) hC.1.2.1, @id (Z.2.2.1 0 1 = .ref 17) hC.1.2.2.1, @id (Z.2.2.1 0 2 = .ref 33) hC.1.2.2.2.1, @id (Z.2.2.1 0 3 = .ref 131) hC.1.2.2.2.2.1, @id (Z.2.2.1 0 4 = .ref 136) hC.1.2.2.2.2.2.1, @id (Z.2.2.1 0 5 = .ref 138) hC.1.2.2.2.2.2.2.1, @id (Z.2.2.1 0 6 = .ref 141) hC.1.2.2.2.2.2.2.2, @id (Z.1 1 = 9) hC.2.1.1, @id (Z.1 17 = 9) hC.2.2.1.1, @id (Z.1 33 = 6) hC.2.2.2.1.1, @id (Z.1 131 = 7) hC.2.2.2.2.1.1, @id (Z.1 136 = 5) hC.2.2.2.2.2.1.1, @id (Z.1 138 = 4) hC.2.2.2.2.2.2.1.1, @id (Z.1 141 = 8) hC.2.2.2.2.2.2.2.1.1, hC.2.1.1, @id (Z.1 (1 + 4) = 0) (yK hC.2.1 4 rfl), @id (Z.2.1 (1 + 4) = 6) (yL hC.2.1 4 rfl), @id (Z.2.2.1 1 7 = .ref (1 + 4)) (yR hC.2.1 4 rfl), @id (Z.1 (1 + 5) = 0) (yK hC.2.1 5 rfl), @id (Z.2.1 (1 + 5) = 6) (yL hC.2.1 5 rfl), @id (Z.2.2.1 1 8 = .ref (1 + 5)) (yR hC.2.1 5 rfl), up2_o, up2_e, iN_ap, iN_up, i_ix, i_inb, i_lt, i_lt0, i_0lt, i_eq, i_ne0, i_00, i_11, i_01, i_10, i_b, i_rem2, n_rem, i_add, i_mul, i_sub, i_div, i_max, i_min, rdk_0, rdk_3, kp_none, kp_int, kp_ref, kp_long, kp_double, aK_v, aK_0, aK_ite, if_true, if_false, and_self, and_true, true_and, or_false, false_or, not_true_eq_false, not_false_eq_true, ite_self, ↓reduceIte, kh, e4, e5, q2, s1, e42, hpl, hu]
      exact fin
    · rw [if_pos (by omega)]
      simp (disch := omega) only [r_X7_unbook_0, r_X7_unbook_1, r_X7_unbook_2, r_X7_unbook_5, r_X7_unbook_6, r_X7_unbook_9, r_X7_unbook_12, r_X7_unbook_13, r_X7_unbook_14, r_X7_unbook_15, r_X7_unbook_18, r_X7_unbook_21, r_X7_unbook_22, r_X7_unbook_23, r_X7_unbook_26, r_X7_unbook_36, r_X7_unbook_37, r_X7_unbook_40, r_X7_unbook_41, r_X7_unbook_44, r_X7_unbook_47, r_X7_unbook_48, r_X7_unbook_51, r_X7_unbook_52, r_X7_unbook_53, r_X7_unbook_56, r_X7_unbook_59, r_X7_unbook_60, r_X7_unbook_61, r_X7_unbook_62, r_X7_unbook_63, r_X7_unbook_66, r_X7_unbook_69, @id (Z.1 0 = 10) hC.1.1, @id (Z.2.2.1 0 0 = .ref 1) hC.1.2.1, @id (Z.2.2.1 0 1 = .ref 17) hC.1.2.2.1, @id (Z.2.2.1 0 2 = .ref 33) hC.1.2.2.2.1, @id (Z.2.2.1 0 3 = .ref 131) hC.1.2.2.2.2.1, @id (Z.2.2.1 0 4 = .ref 136) hC.1.2.2.2.2.2.1, @id (Z.2.2.1 0 5 = .ref 138) hC.1.2.2.2.2.2.2.1, @id (Z.2.2.1 0 6 = .ref 141) hC.1.2.2.2.2.2.2.2, @id (Z.1 1 = 9) hC.2.1.1, @id (Z.1 17 = 9) hC.2.2.1.1, @id (Z.1 33 = 6) hC.2.2.2.1.1, @id (Z.1 131 = 7) hC.2.2.2.2.1.1, @id (Z.1 136 = 5) hC.2.2.2.2.2.1.1, @id (Z.1 138 = 4) hC.2.2.2.2.2.2.1.1, @id (Z.1 141 = 8) hC.2.2.2.2.2.2.2.1.1, hC.2.1.1, @id (Z.1 (1 + 4) = 0) (yK hC.2.1 4 rfl), @id (Z.2.1 (1 + 4) = 6) (yL hC.2.1 4 rfl), @id (Z.2.2.1 1 7 = .ref (1 + 4)) (yR hC.2.1 4 rfl), @id (Z.1 (1 + 5) = 0) (yK hC.2.1 5 rfl), @id (Z.2.1 (1 + 5) = 6) (yL hC.2.1 5 rfl), @id (Z.2.2.1 1 8 = .ref (1 + 5)) (yR hC.2.1 5 rfl), up2_o, up2_e, iN_ap, iN_up, i_ix, i_inb, i_lt, i_lt0, i_0lt, i_eq, i_ne0, i_00, i_11, i_01, i_10, i_b, i_rem2, n_rem, i_add, i_mul, i_sub, i_div, i_max, i_min, rdk_0, rdk_3, kp_none, kp_int, kp_ref, kp_long, kp_double, aK_v, aK_0, aK_ite, if_true, if_false, and_self, and_true, true_and, or_false, false_or, not_true_eq_false, not_false_eq_true, ite_self, ↓reduceIte, kh, e4, e5, q2, bmp_e]
      exact CR_fail hI (by omega) rfl
  · rw [if_neg q1] at kh
    rw [if_pos q1]
    simp (disch := omega) only [r_X7_unbook_0, r_X7_unbook_1, r_X7_unbook_2, r_X7_unbook_5, r_X7_unbook_6, r_X7_unbook_9, r_X7_unbook_12, r_X7_unbook_13, r_X7_unbook_14, r_X7_unbook_15, r_X7_unbook_18, r_X7_unbook_21, r_X7_unbook_22, r_X7_unbook_23, r_X7_unbook_26, r_X7_unbook_36, r_X7_unbook_37, r_X7_unbook_40, r_X7_unbook_41, r_X7_unbook_44, r_X7_unbook_47, r_X7_unbook_48, r_X7_unbook_51, r_X7_unbook_52, r_X7_unbook_53, r_X7_unbook_56, r_X7_unbook_59, r_X7_unbook_60, r_X7_unbook_61, r_X7_unbook_62, r_X7_unbook_63, r_X7_unbook_66, r_X7_unbook_69, @id (Z.1 0 = 10) hC.1.1, @id (Z.2.2.1 0 0 = .ref 1) hC.1.2.1, @id (Z.2.2.1 0 1 = .ref 17) hC.1.2.2.1, @id (Z.2.2.1 0 2 = .ref 33) hC.1.2.2.2.1, @id (Z.2.2.1 0 3 = .ref 131) hC.1.2.2.2.2.1, @id (Z.2.2.1 0 4 = .ref 136) hC.1.2.2.2.2.2.1, @id (Z.2.2.1 0 5 = .ref 138) hC.1.2.2.2.2.2.2.1, @id (Z.2.2.1 0 6 = .ref 141) hC.1.2.2.2.2.2.2.2, @id (Z.1 1 = 9) hC.2.1.1, @id (Z.1 17 = 9) hC.2.2.1.1, @id (Z.1 33 = 6) hC.2.2.2.1.1, @id (Z.1 131 = 7) hC.2.2.2.2.1.1, @id (Z.1 136 = 5) hC.2.2.2.2.2.1.1, @id (Z.1 138 = 4) hC.2.2.2.2.2.2.1.1, @id (Z.1 141 = 8) hC.2.2.2.2.2.2.2.1.1, up2_o, up2_e, iN_ap, iN_up, i_ix, i_inb, i_lt, i_lt0, i_0lt, i_eq, i_ne0, i_00, i_11, i_01, i_10, i_b, i_rem2, n_rem, i_add, i_mul, i_sub, i_div, i_max, i_min, rdk_0, rdk_3, kp_none, kp_int, kp_ref, kp_long, kp_double, aK_v, aK_0, aK_ite, if_true, if_false, and_self, and_true, true_and, or_false, false_or, not_true_eq_false, not_false_eq_true, ite_self, ↓reduceIte, kh, aT_X7_unbook]
    exact CR_fail hI (by omega) rfl
theorem q_set {S : aSt} {s v : Nat} (hC : ZC Z) (hI : CI N S) (hS : SOK S) (hs : s < 4294967296) (hv : v < 4294967296) :
    CR Z L c N (fun k => k - 1) (ex 60 0 [some (.ref 0), some (.int (nI s)), some (.int (nI v)), none] [] (Z, iN N, L, c)) (oSet S s v) := by
  obtain ⟨⟨R, q⟩, sv, tx⟩ := S
  have hw := hS.1.1
  have hc := hI.1
  have ks := q_reqSetting (Z := Z) (I := iN N) (L := L) (c := c) hs
  obtain ⟨z1, z2, z3, z4⟩ := hC.2.2.2.2.2.2.2.2
  unfold oSet
  dsimp only at hw hc ⊢
  by_cases q1 : s < 5
  · rw [if_pos q1] at ks
    rw [if_neg (not_not_intro q1)]
    obtain ⟨elo, ehi⟩ := hI.2.2.2.2 s q1
    have blo : stLo s ≤ 3 := by unfold stLo; (repeat' split) <;> omega
    have bhi : stHi s ≤ 100 := by unfold stHi; (repeat' split) <;> omega
    by_cases q2 : v < stLo s ∨ stHi s < v
    · rw [if_pos q2]
      by_cases q21 : nI v < nI (stLo s)
      · simp (disch := omega) only [r_X7_set_0, r_X7_set_1, r_X7_set_4, r_X7_set_5, r_X7_set_8, r_X7_set_9, r_X7_set_10, r_X7_set_13, r_X7_set_14, r_X7_set_17, r_X7_set_18, r_X7_set_19, r_X7_set_22, r_X7_set_32, r_X7_set_33, r_X7_set_36, r_X7_set_37, r_X7_set_40, r_X7_set_43, r_X7_set_44, r_X7_set_47, r_X7_set_50, r_X7_set_51, r_X7_set_52, r_X7_set_53, r_X7_set_54, r_X7_set_57, r_X7_set_60, r_X7_set_61, r_X7_set_62, r_X7_set_63, r_X7_set_64, @id (Z.1 0 = 10) hC.1.1, @id (Z.2.2.1 0 0 = .ref 1) hC.1.2.1, @id (Z.2.2.1 0 1 = .ref 17) hC.1.2.2.1, @id (Z.2.2.1 0 2 = .ref 33) hC.1.2.2.2.1, @id (Z.2.2.1 0 3 = .ref 131) hC.1.2.2.2.2.1, @id (Z.2.2.1 0 4 = .ref 136) hC.1.2.2.2.2.2.1, @id (Z.2.2.1 0 5 = .ref 138) hC.1.2.2.2.2.2.2.1, @id (Z.2.2.1 0 6 = .ref 141) hC.1.2.2.2.2.2.2.2, @id (Z.1 1 = 9) hC.2.1.1, @id (Z.1 17 = 9) hC.2.2.1.1, @id (Z.1 33 = 6) hC.2.2.2.1.1, @id (Z.1 131 = 7) hC.2.2.2.2.1.1, @id (Z.1 136 = 5) hC.2.2.2.2.2.1.1, @id (Z.1 138 = 4) hC.2.2.2.2.2.2.1.1, @id (Z.1 141 = 8) hC.2.2.2.2.2.2.2.1.1, up2_o, up2_e, iN_ap, iN_up, i_ix, i_inb, i_lt, i_lt0, i_0lt, i_eq, i_ne0, i_00, i_11, i_01, i_10, i_b, i_rem2, n_rem, i_add, i_mul, i_sub, i_div, i_max, i_min, rdk_0, rdk_3, kp_none, kp_int, kp_ref, kp_long, kp_double, aK_v, aK_0, aK_ite, if_true, if_false, and_self, and_true, true_and, or_false, false_or, not_true_eq_false, not_false_eq_true, ite_self, ↓reduceIte, ks, z1, z3, elo, q21, bmp_e]
        exact CR_fail hI (by omega) rfl
      · have q22 : nI (stHi s) < nI v := by
          rw [i_ltU hv (by omega)] at q21
          rw [i_gtU hv (by omega)]
          omega
        simp (disch := omega) only [r_X7_set_0, r_X7_set_1, r_X7_set_4, r_X7_set_5, r_X7_set_8, r_X7_set_9, r_X7_set_10, r_X7_set_13, r_X7_set_14, r_X7_set_17, r_X7_set_18, r_X7_set_19, r_X7_set_22, r_X7_set_32, r_X7_set_33, r_X7_set_36, r_X7_set_37, r_X7_set_40, r_X7_set_43, r_X7_set_44, r_X7_set_47, r_X7_set_50, r_X7_set_51, r_X7_set_52, r_X7_set_53, r_X7_set_54, r_X7_set_57, r_X7_set_60, r_X7_set_61, r_X7_set_62, r_X7_set_63, r_X7_set_64, @id (Z.1 0 = 10) hC.1.1, @id (Z.2.2.1 0 0 = .ref 1) hC.1.2.1, @id (Z.2.2.1 0 1 = .ref 17) hC.1.2.2.1, @id (Z.2.2.1 0 2 = .ref 33) hC.1.2.2.2.1, @id (Z.2.2.1 0 3 = .ref 131) hC.1.2.2.2.2.1, @id (Z.2.2.1 0 4 = .ref 136) hC.1.2.2.2.2.2.1, @id (Z.2.2.1 0 5 = .ref 138) hC.1.2.2.2.2.2.2.1, @id (Z.2.2.1 0 6 = .ref 141) hC.1.2.2.2.2.2.2.2, @id (Z.1 1 = 9) hC.2.1.1, @id (Z.1 17 = 9) hC.2.2.1.1, @id (Z.1 33 = 6) hC.2.2.2.1.1, @id (Z.1 131 = 7) hC.2.2.2.2.1.1, @id (Z.1 136 = 5) hC.2.2.2.2.2.1.1, @id (Z.1 138 = 4) hC.2.2.2.2.2.2.1.1, @id (Z.1 141 = 8) hC.2.2.2.2.2.2.2.1.1, up2_o, up2_e, iN_ap, iN_up, i_ix, i_inb, i_lt, i_lt0, i_0lt, i_eq, i_ne0, i_00, i_11, i_01, i_10, i_b, i_rem2, n_rem, i_add, i_mul, i_sub, i_div, i_max, i_min, rdk_0, rdk_3, kp_none, kp_int, kp_ref, kp_long, kp_double, aK_v, aK_0, aK_ite, if_true, if_false, and_self, and_true, true_and, or_false, false_or, not_true_eq_false, not_false_eq_true, ite_self, ↓reduceIte, ks, z1, z2, z3, z4, elo, ehi, q21, q22, bmp_e]
        exact CR_fail hI (by omega) rfl
    · rw [if_neg q2]
      have q21 : ¬ nI v < nI (stLo s) := by rw [i_ltU hv (by omega)]; omega
      have q22 : ¬ nI (stHi s) < nI v := by rw [i_gtU hv (by omega)]; omega
      obtain ⟨N2, s1, s2, s3⟩ := q_save (L := L) (c := c) hC hI hS.2.1 (WF_len hw)
      have hc2 : CY N2 1 R q := CY_congr hc (fun a h1 h2 => s3 a (by omega))
      have e2 : N2 (1 + 2) s = R 2 s := CY_at hc2 2 (n := 5) rfl q1
      have hc3 : CY (up2 N2 (1 + 2) s v) 1 (up2 R 2 s v) q := ⟨by rw [rg_up (n := 5) rfl q1, hc2.1], QH_congr hc2.2 (up2_o (by omega)) (fun i => up2_o (by omega))⟩
      have fin := CR_ok (Z := Z) (L := L) (c := c) (kd := fun k => k - 1) (v := R 2 s) hI s2 s3 hc3 (fun a ha => by funext i; exact up2_o (by omega))
      simp (disch := omega) only [r_X7_set_0, r_X7_set_1, r_X7_set_4, r_X7_set_5, r_X7_set_8, r_X7_set_9, r_X7_set_10, r_X7_set_13, r_X7_set_14, r_X7_set_17, r_X7_set_18, r_X7_set_19, r_X7_set_22, r_X7_set_32, r_X7_set_33, r_X7_set_36, r_X7_set_37, r_X7_set_40, r_X7_set_43, r_X7_set_44, r_X7_set_47, r_X7_set_50, r_X7_set_51, r_X7_set_52, r_X7_set_53, r_X7_set_54, r_X7_set_57, r_X7_set_60, r_X7_set_61, r_X7_set_62, r_X7_set_63, r_X7_set_64, @id (Z.1 0 = 10) hC.1.1, @id (Z.2.2.1 0 0 = .ref 1) hC.1.2.1, @id (Z.2.2.1 0 1 = .ref 17) hC.1.2.2.1, @id (Z.2.2.1 0 2 = .ref 33) hC.1.2.2.2.1, @id (Z.2.2.1 0 3 = .ref 131) hC.1.2.2.2.2.1, @id (Z.2.2.1 0 4 = .ref 136) hC.1.2.2.2.2.2.1, @id (Z.2.2.1 0 5 = .ref 138) hC.1.2.2.2.2.2.2.1, @id (Z.2.2.1 0 6 = .ref 141) hC.1.2.2.2.2.2.2.2, @id (Z.1 1 = 9) hC.2.1.1, @id (Z.1 17 = 9) hC.2.2.1.1, @id (Z.1 33 = 6) hC.2.2.2.1.1, @id (Z.1 131 = 7) hC.2.2.2.2.1.1, @id (Z.1 136 = 5) hC.2.2.2.2.2.1.1, @id (Z.1 138 = 4) hC.2.2.2.2.2.2.1.1, @id (Z.1 141 = 8) hC.2.2.2.2.2.2.2.1.1, hC.2.1.1, @id (Z.1 (1 + 2) = 0) (yK hC.2.1 2 rfl), @id (Z.2.1 (1 + 2) = 5) (yL hC.2.1 2 rfl), @id (Z.2.2.1 1 5 = .ref (1 + 2)) (yR hC.2.1 2 rfl), up2_o, up2_e, iN_ap, iN_up, i_ix, i_inb, i_lt, i_lt0, i_0lt, i_eq, i_ne0, i_00, i_11, i_01, i_10, i_b, i_rem2, n_rem, i_add, i_mul, i_sub, i_div, i_max, i_min, rdk_0, rdk_3, kp_none, kp_int, kp_ref, kp_long, kp_double, aK_v, aK_0, aK_ite, if_true, if_false, and_self, and_true, true_and, or_false, false_or, not_true_eq_false, not_false_eq_true, ite_self, ↓reduceIte, ks, z1, z2, z3, z4, elo, ehi, q21, q22, s1, e2]
      exact fin
  · rw [if_neg q1] at ks
    rw [if_pos q1]
    simp (disch := omega) only [r_X7_set_0, r_X7_set_1, r_X7_set_4, r_X7_set_5, r_X7_set_8, r_X7_set_9, r_X7_set_10, r_X7_set_13, r_X7_set_14, r_X7_set_17, r_X7_set_18, r_X7_set_19, r_X7_set_22, r_X7_set_32, r_X7_set_33, r_X7_set_36, r_X7_set_37, r_X7_set_40, r_X7_set_43, r_X7_set_44, r_X7_set_47, r_X7_set_50, r_X7_set_51, r_X7_set_52, r_X7_set_53, r_X7_set_54, r_X7_set_57, r_X7_set_60, r_X7_set_61, r_X7_set_62, r_X7_set_63, r_X7_set_64, @id (Z.1 0 = 10) hC.1.1, @id (Z.2.2.1 0 0 = .ref 1) hC.1.2.1, @id (Z.2.2.1 0 1 = .ref 17) hC.1.2.2.1, @id (Z.2.2.1 0 2 = .ref 33) hC.1.2.2.2.1, @id (Z.2.2.1 0 3 = .ref 131) hC.1.2.2.2.2.1, @id (Z.2.2.1 0 4 = .ref 136) hC.1.2.2.2.2.2.1, @id (Z.2.2.1 0 5 = .ref 138) hC.1.2.2.2.2.2.2.1, @id (Z.2.2.1 0 6 = .ref 141) hC.1.2.2.2.2.2.2.2, @id (Z.1 1 = 9) hC.2.1.1, @id (Z.1 17 = 9) hC.2.2.1.1, @id (Z.1 33 = 6) hC.2.2.2.1.1, @id (Z.1 131 = 7) hC.2.2.2.2.1.1, @id (Z.1 136 = 5) hC.2.2.2.2.2.1.1, @id (Z.1 138 = 4) hC.2.2.2.2.2.2.1.1, @id (Z.1 141 = 8) hC.2.2.2.2.2.2.2.1.1, up2_o, up2_e, iN_ap, iN_up, i_ix, i_inb, i_lt, i_lt0, i_0lt, i_eq, i_ne0, i_00, i_11, i_01, i_10, i_b, i_rem2, n_rem, i_add, i_mul, i_sub, i_div, i_max, i_min, rdk_0, rdk_3, kp_none, kp_int, kp_ref, kp_long, kp_double, aK_v, aK_0, aK_ite, if_true, if_false, and_self, and_true, true_and, or_false, false_or, not_true_eq_false, not_false_eq_true, ite_self, ↓reduceIte, ks, aT_X7_set]
    exact CR_fail hI (by omega) rfl
theorem q_modSet {R : aY} {q : List Nat} (hC : ZC Z) (hc : CY N 1 R q) : ex 52 0 [some (.ref 1)] [] (Z, iN N, L, c) = some (.inl (some (.int (nI (sumN (R 5) 0 6)))), (Z, iN N, L, c)) := by
  rw [s_modulesSet hC.2.1, sumN_congr (f := N (1 + 5)) (g := R 5) (fun i hi => CY_at hc 5 (n := 6) rfl (by omega))]
theorem q_pass {S : aSt} {n : Nat} (hC : ZC Z) (hI : CI N S) (hS : SOK S) (hn : n < 4294967296) :
    CR Z L c N (fun k => k) (ex 61 0 [some (.ref 0), some (.int (nI n)), none] [] (Z, iN N, L, c)) (oPass S n) := by
  obtain ⟨⟨R, q⟩, sv, tx⟩ := S
  have hw := hS.1.1
  have hc := hI.1
  have ht := hS.1.2
  have ks := q_reqDays (Z := Z) (I := iN N) (L := L) (c := c) hn
  unfold oPass
  dsimp only at hw hc ht ⊢
  have e0 : N 1 0 = R 0 0 := CY_at0 hc (by omega)
  by_cases q1 : n < 1 ∨ 60 < n
  · rw [if_pos q1] at ks ⊢
    simp (disch := omega) only [r_X7_pass_0, r_X7_pass_1, r_X7_pass_4, r_X7_pass_5, r_X7_pass_8, r_X7_pass_11, r_X7_pass_12, r_X7_pass_13, r_X7_pass_16, r_X7_pass_19, r_X7_pass_29, r_X7_pass_30, r_X7_pass_33, r_X7_pass_34, r_X7_pass_37, r_X7_pass_40, r_X7_pass_41, r_X7_pass_44, r_X7_pass_47, r_X7_pass_48, r_X7_pass_49, r_X7_pass_52, r_X7_pass_53, r_X7_pass_56, r_X7_pass_57, r_X7_pass_60, r_X7_pass_61, r_X7_pass_64, r_X7_pass_67, r_X7_pass_68, r_X7_pass_69, @id (Z.1 0 = 10) hC.1.1, @id (Z.2.2.1 0 0 = .ref 1) hC.1.2.1, @id (Z.2.2.1 0 1 = .ref 17) hC.1.2.2.1, @id (Z.2.2.1 0 2 = .ref 33) hC.1.2.2.2.1, @id (Z.2.2.1 0 3 = .ref 131) hC.1.2.2.2.2.1, @id (Z.2.2.1 0 4 = .ref 136) hC.1.2.2.2.2.2.1, @id (Z.2.2.1 0 5 = .ref 138) hC.1.2.2.2.2.2.2.1, @id (Z.2.2.1 0 6 = .ref 141) hC.1.2.2.2.2.2.2.2, @id (Z.1 1 = 9) hC.2.1.1, @id (Z.1 17 = 9) hC.2.2.1.1, @id (Z.1 33 = 6) hC.2.2.2.1.1, @id (Z.1 131 = 7) hC.2.2.2.2.1.1, @id (Z.1 136 = 5) hC.2.2.2.2.2.1.1, @id (Z.1 138 = 4) hC.2.2.2.2.2.2.1.1, @id (Z.1 141 = 8) hC.2.2.2.2.2.2.2.1.1, up2_o, up2_e, iN_ap, iN_up, i_ix, i_inb, i_lt, i_lt0, i_0lt, i_eq, i_ne0, i_00, i_11, i_01, i_10, i_b, i_rem2, n_rem, i_add, i_mul, i_sub, i_div, i_max, i_min, rdk_0, rdk_3, kp_none, kp_int, kp_ref, kp_long, kp_double, aK_v, aK_0, aK_ite, if_true, if_false, and_self, and_true, true_and, or_false, false_or, not_true_eq_false, not_false_eq_true, ite_self, ↓reduceIte, ks, aT_X7_pass]
    exact CR_fail hI (by omega) rfl
  · rw [if_neg q1] at ks ⊢
    by_cases q2 : 1000 < R 0 0 + n
    · rw [if_pos q2]
      simp (disch := omega) only [r_X7_pass_0, r_X7_pass_1, r_X7_pass_4, r_X7_pass_5, r_X7_pass_8, r_X7_pass_11, r_X7_pass_12, r_X7_pass_13, r_X7_pass_16, r_X7_pass_19, r_X7_pass_29, r_X7_pass_30, r_X7_pass_33, r_X7_pass_34, r_X7_pass_37, r_X7_pass_40, r_X7_pass_41, r_X7_pass_44, r_X7_pass_47, r_X7_pass_48, r_X7_pass_49, r_X7_pass_52, r_X7_pass_53, r_X7_pass_56, r_X7_pass_57, r_X7_pass_60, r_X7_pass_61, r_X7_pass_64, r_X7_pass_67, r_X7_pass_68, r_X7_pass_69, @id (Z.1 0 = 10) hC.1.1, @id (Z.2.2.1 0 0 = .ref 1) hC.1.2.1, @id (Z.2.2.1 0 1 = .ref 17) hC.1.2.2.1, @id (Z.2.2.1 0 2 = .ref 33) hC.1.2.2.2.1, @id (Z.2.2.1 0 3 = .ref 131) hC.1.2.2.2.2.1, @id (Z.2.2.1 0 4 = .ref 136) hC.1.2.2.2.2.2.1, @id (Z.2.2.1 0 5 = .ref 138) hC.1.2.2.2.2.2.2.1, @id (Z.2.2.1 0 6 = .ref 141) hC.1.2.2.2.2.2.2.2, @id (Z.1 1 = 9) hC.2.1.1, @id (Z.1 17 = 9) hC.2.2.1.1, @id (Z.1 33 = 6) hC.2.2.2.1.1, @id (Z.1 131 = 7) hC.2.2.2.2.1.1, @id (Z.1 136 = 5) hC.2.2.2.2.2.1.1, @id (Z.1 138 = 4) hC.2.2.2.2.2.2.1.1, @id (Z.1 141 = 8) hC.2.2.2.2.2.2.2.1.1, up2_o, up2_e, iN_ap, iN_up, i_ix, i_inb, i_lt, i_lt0, i_0lt, i_eq, i_ne0, i_00, i_11, i_01, i_10, i_b, i_rem2, n_rem, i_add, i_mul, i_sub, i_div, i_max, i_min, rdk_0, rdk_3, kp_none, kp_int, kp_ref, kp_long, kp_double, aK_v, aK_0, aK_ite, if_true, if_false, and_self, and_true, true_and, or_false, false_or, not_true_eq_false, not_false_eq_true, ite_self, ↓reduceIte, ks, e0, q2, bmp_e]
      exact CR_fail hI (by omega) rfl
    · rw [if_neg q2]
      obtain ⟨N2, s1, s2, s3⟩ := q_save (L := L) (c := c) hC hI hS.2.1 (WF_len hw)
      have hc2 : CY N2 1 R q := CY_congr hc (fun a h1 h2 => s3 a (by omega))
      have hs2 : SH N2 131 := SH_congr hI.2.2.2.1 (fun a j h1 h2 => by rw [s3 a (by omega)])
      obtain ⟨N3, p1, p2, p3, p4⟩ := s_passDays (L := L) (c := c) (n := n) hC.2.1 hC.2.2.2.2.1 (Or.inr (by omega)) (by omega) hc2 hw (by omega) hs2
      have m1 := q_modSet (L := L) (c := c) hC hc2
      have m2 := q_modSet (L := L) (c := c) hC p2
      obtain ⟨w1, w2⟩ := WF_Pn n (R, q) hw (by dsimp only; omega)
      have hsum : sumN (R 5) 0 6 ≤ sumN ((aPn n (R, q)).1 5) 0 6 := sumN_mono 6 (fun i _ => aPn_5 _ n (R, q))
      have hlen := aPn_len n (R, q)
      have hval : sumN ((aPn n (R, q)).1 5) 0 6 - sumN (R 5) 0 6 = q.length - (aPn n (R, q)).2.length := by
        have x1 := hw.2.2.2.2.2.2.2.1
        have x2 := w1.2.2.2.2.2.2.2.1
        have x3 : sumN ((aPn n (R, q)).1 4) 0 6 = sumN (R 4) 0 6 := sumN_congr (fun i _ => aPn_o (by omega) (by omega) (by omega) (by omega) (by omega) (by omega) n (R, q))
        dsimp only at x1 x2 hlen
        omega
      rw [← hval]
      refine ⟨N3, ?_, CI_up (S := ((R, q), sv, tx)) hI p2 (VS_congr s2 (fun a h1 h2 => by funext j; exact p4 a j (by omega) (by omega))) ⟨?_, ?_⟩ p3 (fun a ha => ?_), fun a ha => ?_⟩
      · rw [if_pos rfl]
        simp (disch := omega) only [r_X7_pass_0, r_X7_pass_1, r_X7_pass_4, r_X7_pass_5, r_X7_pass_8, r_X7_pass_11, r_X7_pass_12, r_X7_pass_13, r_X7_pass_16, r_X7_pass_19, r_X7_pass_29, r_X7_pass_30, r_X7_pass_33, r_X7_pass_34, r_X7_pass_37, r_X7_pass_40, r_X7_pass_41, r_X7_pass_44, r_X7_pass_47, r_X7_pass_48, r_X7_pass_49, r_X7_pass_52, r_X7_pass_53, r_X7_pass_56, r_X7_pass_57, r_X7_pass_60, r_X7_pass_61, r_X7_pass_64, r_X7_pass_67, r_X7_pass_68, r_X7_pass_69, @id (Z.1 0 = 10) hC.1.1, @id (Z.2.2.1 0 0 = .ref 1) hC.1.2.1, @id (Z.2.2.1 0 1 = .ref 17) hC.1.2.2.1, @id (Z.2.2.1 0 2 = .ref 33) hC.1.2.2.2.1, @id (Z.2.2.1 0 3 = .ref 131) hC.1.2.2.2.2.1, @id (Z.2.2.1 0 4 = .ref 136) hC.1.2.2.2.2.2.1, @id (Z.2.2.1 0 5 = .ref 138) hC.1.2.2.2.2.2.2.1, @id (Z.2.2.1 0 6 = .ref 141) hC.1.2.2.2.2.2.2.2, @id (Z.1 1 = 9) hC.2.1.1, @id (Z.1 17 = 9) hC.2.2.1.1, @id (Z.1 33 = 6) hC.2.2.2.1.1, @id (Z.1 131 = 7) hC.2.2.2.2.1.1, @id (Z.1 136 = 5) hC.2.2.2.2.2.1.1, @id (Z.1 138 = 4) hC.2.2.2.2.2.2.1.1, @id (Z.1 141 = 8) hC.2.2.2.2.2.2.2.1.1, up2_o, up2_e, iN_ap, iN_up, i_ix, i_inb, i_lt, i_lt0, i_0lt, i_eq, i_ne0, i_00, i_11, i_01, i_10, i_b, i_rem2, n_rem, i_add, i_mul, i_sub, i_div, i_max, i_min, rdk_0, rdk_3, kp_none, kp_int, kp_ref, kp_long, kp_double, aK_v, aK_0, aK_ite, if_true, if_false, and_self, and_true, true_and, or_false, false_or, not_true_eq_false, not_false_eq_true, ite_self, ↓reduceIte, ks, e0, q2, s1, m1, p1, m2]
      · funext j
        rw [p4 _ _ (by omega) (by omega), s3 136 (by omega)]
      · funext j
        rw [p4 _ _ (by omega) (by omega), s3 137 (by omega)]
      · funext j
        rw [p4 _ _ (by omega) (by omega), s3 a (by omega)]
      · funext j
        rw [p4 _ _ (by omega) (by omega), s3 a (by omega)]
end Cc
