/-! where the law starts -/
theorem VAt_cg {Z Z' : aZ} {v : Nat} (h : VAt Z v) (p : ∀ a, v ≤ a → a < v + 98 → Z'.1 a = Z.1 a ∧ Z'.2.1 a = Z.2.1 a ∧ Z'.2.2.1 a = Z.2.2.1 a) : VAt Z' v := by
  obtain ⟨q1, q2, q3, q4, q5⟩ := h
  refine ⟨(p v (by omega) (by omega)).1.trans q1, (p (v + 1) (by omega) (by omega)).1.trans q2, (p (v + 1) (by omega) (by omega)).2.1.trans q3, (congrFun (p v (by omega) (by omega)).2.2 0).trans q4, fun k hk => ⟨(congrFun (p (v + 1) (by omega) (by omega)).2.2 k).trans (q5 k hk).1, YAt_cg (q5 k hk).2 (fun a h1 h2 => p a (by omega) (by omega))⟩⟩
theorem SAt_cg {Z Z' : aZ} {s : Nat} (h : SAt Z s) (p : ∀ a, s ≤ a → a ≤ s + 4 → Z'.1 a = Z.1 a ∧ Z'.2.1 a = Z.2.1 a ∧ Z'.2.2.1 a = Z.2.2.1 a) : SAt Z' s := by
  obtain ⟨q1, q2, q3, q4, q5, q6, q7, q8, q9, q10, q11, q12, q13⟩ := h
  exact ⟨(p _ (by omega) (by omega)).1.trans q1, (p _ (by omega) (by omega)).1.trans q2, (p _ (by omega) (by omega)).1.trans q3, (p _ (by omega) (by omega)).1.trans q4, (p _ (by omega) (by omega)).1.trans q5, (p _ (by omega) (by omega)).2.1.trans q6, (p _ (by omega) (by omega)).2.1.trans q7, (p _ (by omega) (by omega)).2.1.trans q8, (p _ (by omega) (by omega)).2.1.trans q9, (congrFun (p s (by omega) (by omega)).2.2 0).trans q10, (congrFun (p s (by omega) (by omega)).2.2 1).trans q11, (congrFun (p s (by omega) (by omega)).2.2 2).trans q12, (congrFun (p s (by omega) (by omega)).2.2 4).trans q13⟩
theorem TAt_cg {Z Z' : aZ} {s : Nat} (h : TAt Z s) (p : ∀ a, s ≤ a → a ≤ s + 1 → Z'.1 a = Z.1 a ∧ Z'.2.1 a = Z.2.1 a ∧ Z'.2.2.1 a = Z.2.2.1 a) : TAt Z' s := by
  obtain ⟨q1, q2, q3, q4⟩ := h
  exact ⟨(p _ (by omega) (by omega)).1.trans q1, (p _ (by omega) (by omega)).1.trans q2, (p _ (by omega) (by omega)).2.1.trans q3, (congrFun (p s (by omega) (by omega)).2.2 0).trans q4⟩
theorem RAt_cg {Z Z' : aZ} {s k n : Nat} (h : RAt Z s k n) (p : ∀ a, s ≤ a → a ≤ s + 2 → Z'.1 a = Z.1 a ∧ Z'.2.1 a = Z.2.1 a ∧ Z'.2.2.1 a = Z.2.2.1 a) : RAt Z' s k n := by
  obtain ⟨q1, q2, q3, q4, q5, q6, q7⟩ := h
  exact ⟨(p _ (by omega) (by omega)).1.trans q1, (p _ (by omega) (by omega)).1.trans q2, (p _ (by omega) (by omega)).1.trans q3, (p _ (by omega) (by omega)).2.1.trans q4, (p _ (by omega) (by omega)).2.1.trans q5, (congrFun (p s (by omega) (by omega)).2.2 0).trans q6, (congrFun (p s (by omega) (by omega)).2.2 1).trans q7⟩
theorem MAt_cg {Z Z' : aZ} (h : MAt Z) (p : ∀ a, 144 ≤ a → a ≤ 151 → Z'.1 a = Z.1 a ∧ Z'.2.1 a = Z.2.1 a ∧ Z'.2.2.1 a = Z.2.2.1 a) : MAt Z' := by
  obtain ⟨⟨q1, q2, q3, q4, q5, q6, q7, q8⟩, ⟨r1, r2, r3, r4, r5, r6, r7⟩, ⟨s1, s2, s3, s4, s5, s6, s7⟩⟩ := h
  have f := (p 144 (by omega) (by omega)).2.2
  exact ⟨⟨(p _ (by omega) (by omega)).1.trans q1, (congrFun f 0).trans q2, (congrFun f 1).trans q3, (congrFun f 2).trans q4, (congrFun f 3).trans q5, (congrFun f 4).trans q6, (congrFun f 5).trans q7, (congrFun f 6).trans q8⟩, ⟨(p _ (by omega) (by omega)).1.trans r1, (p _ (by omega) (by omega)).1.trans r2, (p _ (by omega) (by omega)).1.trans r3, (p _ (by omega) (by omega)).1.trans r4, (p _ (by omega) (by omega)).1.trans r5, (p _ (by omega) (by omega)).1.trans r6, (p _ (by omega) (by omega)).1.trans r7⟩, ⟨(p _ (by omega) (by omega)).2.1.trans s1, (p _ (by omega) (by omega)).2.1.trans s2, (p _ (by omega) (by omega)).2.1.trans s3, (p _ (by omega) (by omega)).2.1.trans s4, (p _ (by omega) (by omega)).2.1.trans s5, (p _ (by omega) (by omega)).2.1.trans s6, (p _ (by omega) (by omega)).2.1.trans s7⟩⟩
theorem n_law {Ls : Nat} {xs : Nat → Int32} : ∃ Z' I' L' u', ex 211 0 (lay 9 [.ref 100000]) [] (h00 Ls xs) = ex 211 23 [some (.ref 100000), some (.ref 0), some (.ref 144), some (.ref 152), some (.int (nI 0)), none, none, none, none] [] (Z', I', L', (0, u')) ∧ ZC Z' ∧ MAt Z' ∧ (Z'.1 152 = 1 ∧ Z'.2.1 152 = 1) ∧ (Z'.1 100000 = 3 ∧ Z'.2.1 100000 = Ls) ∧ Z'.2.2.2 = 153 ∧
    (∀ k i, k < 16 → I' (1 + k) i = y00 k i) ∧ (∀ i, I' 33 i = 0) ∧ (∀ k i, k < 5 → I' (131 + k) i = 0) ∧ (∀ i, I' 136 i = 0) ∧ (∀ i, I' 144 i = 0) ∧ (∀ i, I' 145 i = m00 i) ∧ I' 100000 = xs ∧ I' 100001 = fLow ∧ I' 100002 = fHigh ∧ u' ≤ 50000 := by
  obtain ⟨K, hK⟩ : ∃ K : Nat → Nat, K = fun a => if 100000 ≤ a ∧ a < 100004 then 3 else 99 := ⟨_, rfl⟩
  obtain ⟨G, hG⟩ : ∃ G : Nat → Nat, G = fun a => if a = 100000 then Ls else 5 := ⟨_, rfl⟩
  obtain ⟨I, hI⟩ : ∃ I : Nat → Nat → Int32, I = fun a => if a = 100000 then xs else if a = 100001 then fLow else if a = 100002 then fHigh else fFirst := ⟨_, rfl⟩
  have h0 : h00 Ls xs = ((K, G, fun _ _ => .null, 0), I, fun _ _ => 0, (0, 0)) := by rw [hK, hG, hI]; rfl
  have k0 : K 100000 = 3 := by rw [hK]; rfl
  have k1 : K 100001 = 3 := by rw [hK]; rfl
  have k2 : K 100002 = 3 := by rw [hK]; rfl
  have k3 : K 100003 = 3 := by rw [hK]; rfl
  have g0 : G 100000 = Ls := by rw [hG]; rfl
  have g1 : G 100001 = 5 := by rw [hG]; rfl
  have g2 : G 100002 = 5 := by rw [hG]; rfl
  have g3 : G 100003 = 5 := by rw [hG]; rfl
  have i0 : I 100000 = xs := by rw [hI]; rfl
  have i1 : I 100001 = fLow := by rw [hI]; rfl
  have i2 : I 100002 = fHigh := by rw [hI]; rfl
  have i3 : I 100003 = fFirst := by rw [hI]; rfl
  rw [h0]
  clear h0 hK hG hI
  obtain ⟨K1, G1, F1, I1, L1, u1, e1, ⟨z0, z1⟩, c1, c2, c3, c4, c5, c6, c7, d1, d2, d3, d4, d5, d6⟩ := n_class (K := up1 K 0 10) (G := up1 G 0 0) (F := up1 (fun _ _ => .null) 0 (fun _ => .null)) (I := up1 I 0 (fun _ => 0)) (L := up1 (fun _ _ => 0) 0 (fun _ => 0)) (u := 0 + 7) (u1_e rfl) ⟨by rw [u1_o (by omega)]; exact k3, by rw [u1_o (by omega)]; exact g3, by rw [u1_o (by omega)]; exact i3⟩
  obtain ⟨K2, G2, F2, I2, L2, u2, e2, m1, m2, m3, m4, m5⟩ := n_model (K := up1 K1 144 11) (G := up1 G1 144 0) (F := up1 F1 144 (fun _ => .null)) (I := up1 I1 144 (fun _ => 0)) (L := up1 L1 144 (fun _ => 0)) (u := u1 + 13) (u1_e rfl) (u1_e rfl)
  have lo : ∀ a, (a < 144 ∨ 153 ≤ a) → up1 K2 152 1 a = K1 a ∧ up1 G2 152 1 a = G1 a ∧ up1 F2 152 (fun _ => .null) a = F1 a ∧ up1 I2 152 (fun _ => 0) a = I1 a := fun a ha => by
    obtain ⟨b1, b2, b3, b4⟩ := m2 a (by omega)
    dsimp only at b1 b2 b3
    rw [u1_o (by omega)] at b1 b2 b3 b4
    rw [u1_o (by omega), u1_o (by omega), u1_o (by omega), u1_o (by omega)]
    exact ⟨b1, b2, b3, b4⟩
  have p : ∀ a, a < 144 → up1 K2 152 1 a = K1 a ∧ up1 G2 152 1 a = G1 a ∧ up1 F2 152 (fun _ => .null) a = F1 a := fun a ha => by
    obtain ⟨b1, b2, b3, b4⟩ := lo a (by omega)
    exact ⟨b1, b2, b3⟩
  have hi : ∀ a, 1000 ≤ a → up1 K2 152 1 a = K a ∧ up1 G2 152 1 a = G a ∧ up1 I2 152 (fun _ => 0) a = I a := fun a ha => by
    obtain ⟨b1, b2, b3, b4⟩ := lo a (by omega)
    obtain ⟨f1, f2, f3, f4⟩ := d5 a ha
    rw [u1_o (by omega)] at f1 f2 f4
    exact ⟨b1.trans f1, b2.trans f2, b4.trans f4⟩
  simp only [Nat.reduceAdd] at e1 e2
  refine ⟨(up1 K2 152 1, up1 G2 152 1, up1 F2 152 (fun _ => .null), 153), up1 I2 152 (fun _ => 0), up1 L2 152 (fun _ => 0), u2 + 1, ?_, ⟨?_, ?_, ?_, ?_, ?_, ?_, ?_, ?_, ?_⟩, ?_, ⟨show up1 K2 152 1 152 = 1 from u1_e rfl, show up1 G2 152 1 152 = 1 from u1_e rfl⟩, ⟨(hi 100000 (by omega)).1.trans k0, (hi 100000 (by omega)).2.1.trans g0⟩, rfl, ?_, ?_, ?_, ?_, ?_, ?_, (hi 100000 (by omega)).2.2.trans i0, (hi 100001 (by omega)).2.2.trans i1, (hi 100002 (by omega)).2.2.trans i2, by omega⟩
  · rw [show lay 9 [.ref 100000] = [some (.ref 100000), none, none, none, none, none, none, none, none] from rfl]
    simp (disch := omega) only [r_L_law_0, r_L_law_3, r_L_law_4, r_L_law_7, r_L_law_8, r_L_law_11, r_L_law_12, r_L_law_15, r_L_law_16, r_L_law_17, r_L_law_19, r_L_law_20, r_L_law_21, up2_o, up2_e, iN_ap, iN_up, i_ix, i_inb, i_lt, i_lt0, i_0lt, i_eq, i_ne0, i_00, i_11, i_01, i_10, i_b, i_rem2, n_rem, i_add, i_mul, i_sub, i_div, i_max, i_min, rdk_0, rdk_3, kp_none, kp_int, kp_ref, kp_long, kp_double, aK_v, aK_0, aK_ite, if_true, if_false, and_self, and_true, true_and, or_false, false_or, not_true_eq_false, not_false_eq_true, ite_self, ↓reduceIte, al_1, al_2, n_lt, n_ne, u1_e, u1_o, z0, e1, e2, eq_self, Nat.reduceAdd, Nat.zero_add]
  · obtain ⟨y1, y2, y3, y4, y5, y6, y7⟩ := z1
    have f := (p 0 (by omega)).2.2
    exact ⟨(p 0 (by omega)).1.trans z0, (congrFun f 0).trans y1, (congrFun f 1).trans y2, (congrFun f 2).trans y3, (congrFun f 3).trans y4, (congrFun f 4).trans y5, (congrFun f 5).trans y6, (congrFun f 6).trans y7⟩
  · exact YAt_cg c1 (fun a h1 h2 => p a (by omega))
  · exact YAt_cg c2 (fun a h1 h2 => p a (by omega))
  · exact VAt_cg c3 (fun a h1 h2 => p a (by omega))
  · exact SAt_cg c4 (fun a h1 h2 => p a (by omega))
  · exact TAt_cg c5 (fun a h1 h2 => p a (by omega))
  · exact RAt_cg c6 (fun a h1 h2 => p a (by omega))
  · exact RAt_cg c7 (fun a h1 h2 => p a (by omega))
  · exact ⟨(hi 100001 (by omega)).1.trans k1, (hi 100002 (by omega)).1.trans k2, (hi 100001 (by omega)).2.1.trans g1, (hi 100002 (by omega)).2.1.trans g2⟩
  · exact MAt_cg m1 (fun a h1 h2 => ⟨show up1 K2 152 1 a = K2 a from u1_o (by omega), show up1 G2 152 1 a = G2 a from u1_o (by omega), show up1 F2 152 (fun _ => .null) a = F2 a from u1_o (by omega)⟩)
  · intro k i hk
    rw [(lo (1 + k) (by omega)).2.2.2]
    exact d1 k i hk
  · intro i
    rw [(lo 33 (by omega)).2.2.2]
    exact d2 i
  · intro k i hk
    rw [(lo (131 + k) (by omega)).2.2.2]
    exact d3 k i hk
  · intro i
    rw [(lo 136 (by omega)).2.2.2]
    exact d4 i
  · intro i
    rw [u1_o (by omega)]
    exact m3 i
  · intro i
    rw [u1_o (by omega)]
    exact m4 i
