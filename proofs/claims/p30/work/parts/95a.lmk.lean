/-! rows that are made for what would be -/
theorem iN_u1 {N : Nat → Nat → Nat} {a : Nat} : up1 (iN N) a (fun _ => 0) = iN (up1 N a (fun _ => 0)) := by
  funext b j
  unfold iN up1
  by_cases q : b = a
  · rw [if_pos q, if_pos q, nI_0]
  · rw [if_neg q, if_neg q]
theorem ZC_cg {Z Z' : aZ} (h : ZC Z) (p : ∀ a, (a < 144 ∨ 1000 ≤ a) → Z'.1 a = Z.1 a ∧ Z'.2.1 a = Z.2.1 a ∧ Z'.2.2.1 a = Z.2.2.1 a) : ZC Z' := by
  obtain ⟨⟨a1, a2, a3, a4, a5, a6, a7, a8⟩, b1, b2, b3, b4, b5, b6, b7, c1, c2, c3, c4⟩ := h
  have p0 := p 0 (by omega)
  have q1 := p 100001 (by omega)
  have q2 := p 100002 (by omega)
  refine ⟨⟨by rw [p0.1]; exact a1, by rw [p0.2.2]; exact a2, by rw [p0.2.2]; exact a3, by rw [p0.2.2]; exact a4, by rw [p0.2.2]; exact a5, by rw [p0.2.2]; exact a6, by rw [p0.2.2]; exact a7, by rw [p0.2.2]; exact a8⟩, YAt_cg b1 (fun a h1 h2 => p a (by omega)), YAt_cg b2 (fun a h1 h2 => p a (by omega)), VAt_cg b3 (fun a h1 h2 => p a (by omega)), SAt_cg b4 (fun a h1 h2 => p a (by omega)), TAt_cg b5 (fun a h1 h2 => p a (by omega)), RAt_cg b6 (fun a h1 h2 => p a (by omega)), RAt_cg b7 (fun a h1 h2 => p a (by omega)), by rw [q1.1]; exact c1, by rw [q2.1]; exact c2, by rw [q1.2.1]; exact c3, by rw [q2.2.1]; exact c4⟩
theorem LZ_cg {Z Z' : aZ} (h : LZ Z) (p : ∀ a, (a < 152 ∨ 1000 ≤ a) → Z'.1 a = Z.1 a ∧ Z'.2.1 a = Z.2.1 a ∧ Z'.2.2.1 a = Z.2.2.1 a) : LZ Z' := by
  obtain ⟨h1, h2, h3, h4⟩ := h
  refine ⟨ZC_cg h1 (fun a ha => p a (by omega)), ?_, ?_, ?_⟩
  · unfold LA
    rw [(p 144 (by omega)).1, (p 144 (by omega)).2.1, (p 145 (by omega)).1, (p 145 (by omega)).2.1, (p 146 (by omega)).1, (p 146 (by omega)).2.1, (p 151 (by omega)).1, (p 151 (by omega)).2.1, (p 149 (by omega)).1, (p 149 (by omega)).2.1, (p 150 (by omega)).1, (p 150 (by omega)).2.1]
    exact h2
  · rw [(p 147 (by omega)).1, (p 147 (by omega)).2.1]
    exact h3
  · rw [(p 148 (by omega)).1, (p 148 (by omega)).2.1]
    exact h4
theorem CI_cg {N N' : Nat → Nat → Nat} {S : aSt} (h : CI N S) (he : ∀ a, (a < 144 ∨ 1000 ≤ a) → N' a = N a) : CI N' S := by
  obtain ⟨a, b, d, f, e⟩ := h
  refine ⟨CY_congr a (fun x _ _ => he x (by omega)), VS_congr b (fun x _ _ => he x (by omega)), by rw [he 136 (by omega), he 137 (by omega)]; exact d, SH_congr f (fun x j _ _ => by rw [he x (by omega)]), fun i hi => ?_⟩
  rw [he 100001 (by omega), he 100002 (by omega)]
  exact e i hi
theorem LW_cg2 {N N' : Nat → Nat → Nat} {S : aSt} {B : Nat → Nat} {o : Nat} (h : LW N S B o) (he : ∀ a, (a < 152 ∨ 1000 ≤ a) → N' a = N a) : LW N' S B o := by
  refine ⟨LM_cg h.1 (fun a _ => he a (by omega)), ?_, CI_cg h.2.2.1 (fun a ha => he a (by omega)), h.2.2.2⟩
  unfold LT
  rw [he 147 (by omega), he 148 (by omega)]
  exact h.2.1
theorem LM_cp {N N' : Nat → Nat → Nat} {mo mi sh cc a b c d : Nat} {R : aY} {S B : Nat → Nat} {o : Nat} (h : LM N mo mi sh cc R S B o) (h1 : ∀ j, j < 60 → N' a j = N mo j) (h2 : ∀ j, j < 36 → N' b j = N mi j) (h3 : ∀ j, j < 48 → N' c j = N sh j) (h4 : ∀ j, j < 7 → N' d j = N cc j) (h5 : N' 149 = N 149) (h6 : N' 150 = N 150) : LM N' a b c d R S B o := by
  obtain ⟨⟨c0, c1, c2, c4, c5⟩, b', c', f, g, s⟩ := h
  refine ⟨⟨by rw [h4 _ (by omega)]; exact c0, by rw [h4 _ (by omega)]; exact c1, by rw [h4 _ (by omega)]; exact c2, by rw [h4 _ (by omega)]; exact c4, fun x hx => by rw [h4 _ (by omega)]; exact c5 x hx⟩, by rw [h6]; exact b', by rw [h5]; exact c', fun m hm => ?_, fun m hm => ?_, fun m hm t ht => ?_⟩
  · rw [h1 _ (by omega), h1 _ (by omega), h1 _ (by omega), h1 _ (by omega), h2 _ (by omega), h2 _ (by omega), h2 _ (by omega)]
    exact f m hm
  · rw [h1 _ (by omega)]
    exact g m hm
  · rw [h3 _ (by omega)]
    exact s m hm t ht
section Lt
variable {L : Nat → Nat → Int64}
theorem lz_mk {K G : Nat → Nat} {F : Nat → Nat → Value} {y k : Nat} {N : Nat → Nat → Nat} {x : Int32} (hy2 : y + 4 ≤ 1000) :
    ∃ Z' N' L', ex 109 0 [some (.ref 0), some (.int x), some (.ref 144), some (.ref 145), some (.ref 146), some (.ref 149), some (.ref 150), some (.ref 151), none, none, none, none, none, none, none, none, none, none, none, none] [] ((K, G, F, y), iN N, L, (0, k)) =
      ex 109 24 [some (.ref 0), some (.int x), some (.ref 144), some (.ref 145), some (.ref 146), some (.ref 149), some (.ref 150), some (.ref 151), some (.ref y), some (.ref (y + 1)), some (.ref (y + 2)), some (.ref (y + 3)), none, none, none, none, none, none, none, none] [] (Z', iN N', L', (0, k + 151)) ∧
      Z'.2.2.2 = y + 4 ∧ (∀ a, (a < y ∨ 1000 ≤ a) → Z'.1 a = K a ∧ Z'.2.1 a = G a ∧ Z'.2.2.1 a = F a) ∧ (∀ a, (a < y ∨ 1000 ≤ a) → N' a = N a) ∧ (Z'.1 y = 0 ∧ Z'.2.1 y = 60) ∧ (Z'.1 (y + 1) = 0 ∧ Z'.2.1 (y + 1) = 36) ∧ (Z'.1 (y + 2) = 0 ∧ Z'.2.1 (y + 2) = 48) ∧ (Z'.1 (y + 3) = 0 ∧ Z'.2.1 (y + 3) = 7) := by
  refine ⟨(up1 (up1 (up1 (up1 K y 0) (y + 1) 0) (y + 2) 0) (y + 3) 0, up1 (up1 (up1 (up1 G y 60) (y + 1) 36) (y + 2) 48) (y + 3) 7, up1 (up1 (up1 (up1 F y (fun _ => .null)) (y + 1) (fun _ => .null)) (y + 2) (fun _ => .null)) (y + 3) (fun _ => .null), y + 4), up1 (up1 (up1 (up1 N y (fun _ => 0)) (y + 1) (fun _ => 0)) (y + 2) (fun _ => 0)) (y + 3) (fun _ => 0), up1 (up1 (up1 (up1 L y (fun _ => 0)) (y + 1) (fun _ => 0)) (y + 2) (fun _ => 0)) (y + 3) (fun _ => 0), ?_, rfl, fun a ha => ⟨?_, ?_, ?_⟩, fun a ha => ?_, ⟨?_, ?_⟩, ⟨?_, ?_⟩, ⟨?_, ?_⟩, ⟨?_, ?_⟩⟩
  · simp (disch := omega) only [r_L_ahead_0, r_L_ahead_2, r_L_ahead_4, r_L_ahead_6, r_L_ahead_8, r_L_ahead_10, r_L_ahead_12, r_L_ahead_14, r_L_ahead_16, r_L_ahead_18, r_L_ahead_20, r_L_ahead_22, up2_o, up2_e, iN_ap, iN_up, i_ix, i_inb, i_lt, i_lt0, i_0lt, i_eq, i_ne0, i_00, i_11, i_01, i_10, i_b, i_rem2, n_rem, i_add, i_mul, i_sub, i_div, i_max, i_min, rdk_0, rdk_3, kp_none, kp_int, kp_ref, kp_long, kp_double, aK_v, aK_0, aK_ite, if_true, if_false, and_self, and_true, true_and, or_false, false_or, not_true_eq_false, not_false_eq_true, ite_self, ↓reduceIte, eq_self, Bool.false_eq_true, al_1, al_2, n_lt, kp_none, kp_ref, Nat.add_assoc, iN_u1, Nat.reduceAdd]
  all_goals simp (disch := omega) only [u1_e, u1_o]
end Lt
