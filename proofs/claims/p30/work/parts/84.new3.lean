/-! the saved yards and the whole class are made -/
theorem YAt_cg {Z Z' : aZ} {y : Nat} (h : YAt Z y) (he : ∀ a, y ≤ a → a ≤ y + 15 → Z'.1 a = Z.1 a ∧ Z'.2.1 a = Z.2.1 a ∧ Z'.2.2.1 a = Z.2.2.1 a) : YAt Z' y := by
  refine ⟨by rw [(he y (by omega) (by omega)).1]; exact h.1, fun k h1 h2 => ?_⟩
  obtain ⟨a, b, c⟩ := h.2 k h1 h2
  obtain ⟨d, e, -⟩ := he (y + k) (by omega) (by omega)
  obtain ⟨-, -, f⟩ := he y (by omega) (by omega)
  rw [d, e, f]
  exact ⟨a, b, c⟩
def Lo (n : Nat) (K G : Nat → Nat) (F : Nat → Nat → Value) (I : Nat → Nat → Int32) (K' G' : Nat → Nat) (F' : Nat → Nat → Value) (I' : Nat → Nat → Int32) : Prop := ∀ a, (a < n ∨ 1000 ≤ a) → K' a = K a ∧ G' a = G a ∧ F' a = F a ∧ I' a = I a
/-- a new object, then its making -/
theorem Lo_new {n n' k : Nat} {K G K' G' : Nat → Nat} {F F' : Nat → Nat → Value} {I I' : Nat → Nat → Int32} (h : FR n n' (up1 K n k, up1 G n 0, up1 F n (fun _ => .null), n + 1) (K', G', F', n') (up1 I n (fun _ => 0)) I') (hn : n' ≤ 1000) (hnn : n < n') : Lo n K G F I K' G' F' I' := fun a ha => by
  obtain ⟨b1, b2, b3, b4⟩ := h a (by omega)
  dsimp only at b1 b2 b3
  rw [u1_o (by omega)] at b1 b2 b3 b4
  exact ⟨b1, b2, b3, b4⟩
theorem n_saved_loop {v : Nat} (hv : v + 98 < 1000) : ∀ (k i : Nat) (K G : Nat → Nat) (F : Nat → Nat → Value) (I : Nat → Nat → Int32) (L : Nat → Nat → Int64) (u : Nat), i + k = 6 → K v = 6 → K (v + 1) = 2 → G (v + 1) = 6 → F v 0 = .ref (v + 1) → (K 100003 = 3 ∧ G 100003 = 5 ∧ I 100003 = fFirst) → (∀ j, j < i → F (v + 1) j = .ref (v + 2 + 16 * j) ∧ YAt (K, G, F, v + 2 + 16 * i) (v + 2 + 16 * j)) →
    ∃ K' G' F' I' L' u', ex 13 15 [some (.ref v), some (.int (nI i))] [] ((K, G, F, v + 2 + 16 * i), I, L, (0, u)) = some (.inl none, ((K', G', F', v + 98), I', L', (0, u'))) ∧ VAt (K', G', F', v + 98) v ∧ (∀ a, (a ≤ v ∨ 1000 ≤ a) → K' a = K a ∧ G' a = G a ∧ F' a = F a ∧ I' a = I a) ∧ u' ≤ u + 1100 * k
  | 0, i, K, G, F, I, L, u, h, h1, h2, h3, h4, _, h6 => by
    have e : i = 6 := by omega
    subst e
    refine ⟨K, G, F, I, L, u, ?_, ⟨h1, h2, h3, h4, fun j hj => h6 j hj⟩, fun _ _ => ⟨rfl, rfl, rfl, rfl⟩, by omega⟩
    simp (disch := omega) only [r_X2_init_15, r_X2_init_16, r_X2_init_18, r_X2_init_21, r_X2_init_22, r_X2_init_25, r_X2_init_26, r_X2_init_29, r_X2_init_30, r_X2_init_33, r_X2_init_34, r_X2_init_37, r_X2_init_40, up2_o, up2_e, iN_ap, iN_up, i_ix, i_inb, i_lt, i_lt0, i_0lt, i_eq, i_ne0, i_00, i_11, i_01, i_10, i_b, i_rem2, n_rem, i_add, i_mul, i_sub, i_div, i_max, i_min, rdk_0, rdk_3, kp_none, kp_int, kp_ref, kp_long, kp_double, aK_v, aK_0, aK_ite, if_true, if_false, and_self, and_true, true_and, or_false, false_or, not_true_eq_false, not_false_eq_true, ite_self, ↓reduceIte, Nat.lt_irrefl]
  | k + 1, i, K, G, F, I, L, u, h, h1, h2, h3, h4, ⟨s1, s2, s3⟩, h6 => by
    have e : i < 6 := by omega
    obtain ⟨y, hy⟩ : ∃ y, y = v + 2 + 16 * i := ⟨_, rfl⟩
    obtain ⟨K1, G1, F1, I1, L1, u1, e1, e2, e3, e4, e5⟩ := n_yard (K := up1 K y 9) (G := up1 G y 0) (F := up1 F y (fun _ => .null)) (I := up1 I y (fun _ => 0)) (L := up1 L y (fun _ => 0)) (u := u + 19) (y := y) (u1_e rfl) (by omega) (u1_e rfl) (by rw [u1_o (by omega)]; exact s1) (by rw [u1_o (by omega)]; exact s2) (by rw [u1_o (by omega)]; exact s3)
    have lo := Lo_new e3 (by omega) (by omega)
    obtain ⟨v1, v2, v3, v4⟩ := lo (v + 1) (by omega)
    obtain ⟨w1, w2, w3, w4⟩ := lo v (by omega)
    obtain ⟨t1, t2, t3, t4⟩ := lo 100003 (by omega)
    have hyk : K1 y = 9 := e2.1
    obtain ⟨K', G', F', I', L', u', f1, f2, f3, f4⟩ := n_saved_loop hv k (i + 1) K1 G1 (up2 F1 (v + 1) i (.ref y)) I1 L1 u1 (by omega) (by rw [w1]; exact h1) (by rw [v1]; exact h2) (by rw [v2]; exact h3) (by rw [u2_j (by omega), w3]; exact h4) ⟨by rw [t1]; exact s1, by rw [t2]; exact s2, by rw [t4]; exact s3⟩ (fun j hj => by
      by_cases q : j = i
      · subst q
        refine ⟨by rw [← hy]; exact up2_e ⟨rfl, rfl⟩, ?_⟩
        rw [← hy]
        exact YAt_cg e2 (fun a h1 h2 => ⟨rfl, rfl, u2_f (by omega)⟩)
      · obtain ⟨a1, a2⟩ := h6 j (by omega)
        refine ⟨by rw [u2_j (by omega), v3]; exact a1, YAt_cg a2 (fun a h1 h2 => ?_)⟩
        obtain ⟨b1, b2, b3, -⟩ := lo a (by omega)
        exact ⟨b1, b2, by show up2 F1 (v + 1) i (.ref y) a = F a; rw [u2_f (by omega)]; exact b3⟩)
    refine ⟨K', G', F', I', L', u', ?_, f2, fun a ha => ?_, by omega⟩
    · rw [show v + 2 + 16 * (i + 1) = y + 16 by omega] at f1
      rw [← hy, r_X2_init_15]
      simp (disch := omega) only [r_X2_init_16, r_X2_init_18, r_X2_init_21, r_X2_init_22, r_X2_init_25, r_X2_init_26, r_X2_init_29, r_X2_init_30, r_X2_init_33, r_X2_init_34, r_X2_init_37, up2_o, up2_e, iN_ap, iN_up, i_ix, i_inb, i_lt, i_lt0, i_0lt, i_eq, i_ne0, i_00, i_11, i_01, i_10, i_b, i_rem2, n_rem, i_add, i_mul, i_sub, i_div, i_max, i_min, rdk_0, rdk_3, kp_none, kp_int, kp_ref, kp_long, kp_double, aK_v, aK_0, aK_ite, if_true, if_false, and_self, and_true, true_and, or_false, false_or, not_true_eq_false, not_false_eq_true, ite_self, ↓reduceIte, n_lt, n_ne, u1_e, u1_o, h1, h2, h3, h4, e, e1, v1, v2, hyk, eq_self, f1]
    · obtain ⟨b1, b2, b3, b4⟩ := lo a (by omega)
      obtain ⟨c1, c2, c3, c4⟩ := f3 a ha
      rw [u2_f (by omega)] at c3
      exact ⟨c1.trans b1, c2.trans b2, c3.trans b3, c4.trans b4⟩
theorem n_saved {K G : Nat → Nat} {F : Nat → Nat → Value} {I : Nat → Nat → Int32} {L : Nat → Nat → Int64} {u v : Nat} (hy : K v = 6) (hb : v + 98 < 1000) (hs : K 100003 = 3 ∧ G 100003 = 5 ∧ I 100003 = fFirst) :
    ∃ K' G' F' I' L' u', ex 13 0 [some (.ref v), none] [] ((K, G, F, v + 1), I, L, (0, u)) = some (.inl none, ((K', G', F', v + 98), I', L', (0, u'))) ∧ VAt (K', G', F', v + 98) v ∧ (∀ a, (a < v ∨ 1000 ≤ a) → K' a = K a ∧ G' a = G a ∧ F' a = F a ∧ I' a = I a) ∧ I' v = I v ∧ u' ≤ u + 7000 := by
  obtain ⟨s1, s2, s3⟩ := hs
  obtain ⟨K', G', F', I', L', u', f1, f2, f3, f4⟩ := n_saved_loop hb 6 0 (up1 K (v + 1) 2) (up1 G (v + 1) 6) (up2 (up1 F (v + 1) (fun _ => .null)) v 0 (.ref (v + 1))) (up1 I (v + 1) (fun _ => 0)) (up1 L (v + 1) (fun _ => 0)) (u + 6) rfl (by rw [u1_o (by omega)]; exact hy) (u1_e rfl) (u1_e rfl) (up2_e ⟨rfl, rfl⟩) ⟨by rw [u1_o (by omega)]; exact s1, by rw [u1_o (by omega)]; exact s2, by rw [u1_o (by omega)]; exact s3⟩ (fun j hj => by omega)
  refine ⟨K', G', F', I', L', u', ?_, f2, fun a ha => ?_, ?_, by omega⟩
  · rw [Nat.mul_zero, Nat.add_zero] at f1
    simp (disch := omega) only [r_X2_init_0, r_X2_init_1, r_X2_init_4, r_X2_init_5, r_X2_init_7, r_X2_init_10, r_X2_init_13, r_X2_init_14, up2_o, up2_e, iN_ap, iN_up, i_ix, i_inb, i_lt, i_lt0, i_0lt, i_eq, i_ne0, i_00, i_11, i_01, i_10, i_b, i_rem2, n_rem, i_add, i_mul, i_sub, i_div, i_max, i_min, rdk_0, rdk_3, kp_none, kp_int, kp_ref, kp_long, kp_double, aK_v, aK_0, aK_ite, if_true, if_false, and_self, and_true, true_and, or_false, false_or, not_true_eq_false, not_false_eq_true, ite_self, ↓reduceIte, al_1, al_2, n_lt, n_ne, u1_e, u1_o, hy, eq_self, Nat.add_assoc, Nat.reduceAdd]
    exact f1
  · obtain ⟨b1, b2, b3, b4⟩ := f3 a (by omega)
    rw [u1_o (by omega)] at b1 b2 b4
    rw [u2_f (by omega), u1_o (by omega)] at b3
    exact ⟨b1, b2, b3, b4⟩
  · rw [(f3 v (by omega)).2.2.2, u1_o (by omega)]
