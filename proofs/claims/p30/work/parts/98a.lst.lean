/-! the law starts -/
theorem i_ex (a : Int32) : ∃ x, x < 4294967296 ∧ a = nI x := by
  refine ⟨a.toUInt32.toNat, a.toUInt32.toNat_lt, ?_⟩
  show a = Int32.ofNat _
  apply Int32.toBitVec_inj.mp
  simp [Int32.ofNat]
theorem LW_st {N1 W : Nat → Nat → Nat} (h1 : ∀ k i, k < 16 → N1 (1 + k) i = y0N k i) (h33 : ∀ i, N1 33 i = 0) (h131 : ∀ k i, k < 5 → N1 (131 + k) i = 0) (h136 : ∀ i, N1 136 i = 0) (hl : ∀ i, i < 5 → N1 100001 i = stLo i ∧ N1 100002 i = stHi i) (w1 : ∀ a, (a < 144 ∨ 1000 ≤ a) → W a = N1 a) (w2 : ∀ a i, 144 ≤ a → a ≤ 148 → W a i = 0) (w3 : ∀ i, i < 5 → W 149 i = yfr i) (w4 : W 150 0 = 3) (w5 : W 151 3 = 1) (w6 : ∀ i, i ≠ 3 → W 151 i = 0) :
    ∃ S, LW W S (fun _ => 0) 0 ∧ LS1 S.1.1 ∧ S.1.1 0 0 = 0 ∧ S.1.1 0 1 = 0 := by
  have hR : ∀ k i, i < yW k → rg N1 1 k i = y0N k i := fun k i hi => by
    have hk : k < 16 := by
      rcases Nat.lt_or_ge k 15 with q | q
      · omega
      · rw [yW_hi q] at hi
        omega
    rw [rg_at rfl hi]
    exact h1 k i hk
  have hw := WF_st hR
  obtain ⟨R, hRd⟩ : ∃ R, R = rg N1 1 := ⟨_, rfl⟩
  rw [← hRd] at hR hw
  have z : ∀ k i, 3 ≤ k → k ≠ 8 → i < yW k → R k i = 0 := fun k i h1 h2 h3 => by
    rw [hR k i h3]
    unfold y0N
    rw [if_neg (by omega), if_neg (by omega), if_neg (by omega), if_neg (by omega)]
  have r00 : R 0 0 = 0 := hR 0 0 (by decide)
  have r01 : R 0 1 = 0 := hR 0 1 (by decide)
  have r02 : R 0 2 = 1 := hR 0 2 (by decide)
  have r10 : R 1 0 = 3 := hR 1 0 (by decide)
  have z3 : ∀ h, h < 6 → R 3 h = 0 := fun h hh => z 3 h (by omega) (by omega) hh
  have z4 : ∀ h, h < 6 → R 4 h = 0 := fun h hh => z 4 h (by omega) (by omega) hh
  have z5 : ∀ h, h < 6 → R 5 h = 0 := fun h hh => z 5 h (by omega) (by omega) hh
  have hCI : CI N1 ((R, []), [], []) := by
    refine ⟨⟨hRd.symm, ?_, fun i hi => ?_⟩, ⟨?_, ?_, fun k s hk => by simp at hk⟩, ⟨h136 1, fun i x hi => by simp at hi⟩, ⟨?_, ?_, fun e => Or.inl ⟨h131 1 e (by omega), h131 2 e (by omega)⟩⟩, hl⟩
    · exact h1 0 3 (by omega)
    · simp at hi
    · rw [h33]; omega
    · exact h33 2
    · rw [h131 0 3 (by omega)]; omega
    · intro j hj
      rw [h131 0 3 (by omega)] at hj
      omega
  have hS : SOK ((R, []), [], []) := by
    refine ⟨⟨hw, ?_⟩, Nat.zero_le _, fun s hs => by simp at hs, Nat.zero_le _, fun x hx => by simp at hx⟩
    show R 0 0 ≤ 1000
    omega
  refine ⟨((R, []), [], []), ⟨⟨⟨?_, ?_, ?_, ?_, fun h hh => ?_⟩, fun i hi => ?_, fun i hi => ?_, fun m hm => ?_, fun m hm => ?_, fun m hm t ht => ?_⟩, ⟨fun m hm t ht => ?_, fun i hi => ?_⟩, CI_cg hCI w1, hS, ⟨?_, fun h hh => ?_⟩, ⟨List.Pairwise.nil, fun _ _ => Nat.zero_le _, fun x hx => by simp at hx, by omega⟩⟩, fun h hh => ?_, r00, r01⟩
  · rw [w6 0 (by omega)]; exact r01.symm
  · rw [w6 1 (by omega)]; exact r00.symm
  · exact w6 2 (by omega)
  · rw [w5]; exact r02.symm
  · rw [w6 _ (by omega)]; exact (z3 h (by omega)).symm
  · have hi : i < R 0 2 := hi
    have e : i = 0 := by omega
    subst e
    rw [w4]; exact r10.symm
  · rw [w3 i hi]
    show _ = R 2 i
    rw [hR 2 i (show i < 5 from hi)]
    unfold y0N
    rw [if_neg (by omega), if_neg (by omega), if_pos ⟨rfl, hi⟩]
  · have hp := (pl_lt hm).1
    have hs : stg R (pl m) = 0 := by
      unfold stg
      rw [z5 _ (by omega), z4 _ (by omega), if_neg (by omega), if_neg (by omega)]
    rw [w2 144 _ (by omega) (by omega), w2 144 _ (by omega) (by omega), w2 144 _ (by omega) (by omega), w2 144 _ (by omega) (by omega), w2 145 _ (by omega) (by omega), w2 145 _ (by omega) (by omega), w2 145 _ (by omega) (by omega)]
    exact ⟨(z 6 _ (by omega) (by omega) (show pl m < 36 by omega)).symm, (z 7 _ (by omega) (by omega) (show pl m < 36 by omega)).symm, hs.symm, rfl, (z 9 _ (by omega) (by omega) (show pl m < 36 by omega)).symm, (z 11 _ (by omega) (by omega) (show pl m < 36 by omega)).symm, (z 10 _ (by omega) (by omega) (show pl m < 36 by omega)).symm⟩
  · have hp := (pl_lt hm).1
    rw [w2 144 _ (by omega) (by omega)]
    refine ⟨by omega, fun hh => ?_⟩
    have hh : pl m % 6 < R 4 (pl m / 6) := hh
    rw [z4 _ (by omega)] at hh
    omega
  · have hp := (pl_lt hm).1
    rw [w2 146 _ (by omega) (by omega)]
    exact (z 12 _ (by omega) (by omega) (show pl m * 4 + t < 144 by omega)).symm
  · have hp := (pl_lt hm).1
    rw [w2 147 _ (by omega) (by omega)]
    exact (z 13 _ (by omega) (by omega) (show pl m * 4 + t < 144 by omega)).symm
  · rw [w2 148 _ (by omega) (by omega)]
    exact (z 14 _ (by omega) (by omega) (show i < 16 from hi)).symm
  · show R 0 1 ≤ 3
    omega
  · show R 3 h ≤ 4
    rw [z3 h hh]
    omega
  · have hh : h < R 0 1 := hh
    omega
theorem n_law {Ls : Nat} {xs : Nat → Int32} : ∃ Z N L u S, ex 115 0 (lay 14 [.ref 100000]) [] (h00 Ls xs) = ex 115 90 [some (.ref 100000), some (.ref 0), some (.ref 144), some (.ref 145), some (.ref 146), some (.ref 147), some (.ref 148), some (.ref 149), some (.ref 150), some (.ref 151), none, none, none, none] [] (Z, iN N, L, (0, u)) ∧ LZ Z ∧ LW N S (fun _ => 0) 0 ∧ LS1 S.1.1 ∧ S.1.1 0 0 = 0 ∧ S.1.1 0 1 = 0 ∧ Z.2.2.2 = 152 ∧ (Z.1 100000 = 3 ∧ Z.2.1 100000 = Ls) ∧ u ≤ 30000 := by
  obtain ⟨K, hK⟩ : ∃ K : Nat → Nat, K = fun a => if 100000 ≤ a ∧ a < 100004 then 3 else 99 := ⟨_, rfl⟩
  obtain ⟨G, hG⟩ : ∃ G : Nat → Nat, G = fun a => if a = 100000 then Ls else 5 := ⟨_, rfl⟩
  obtain ⟨I, hI⟩ : ∃ I : Nat → Nat → Int32, I = fun a => if a = 100000 then xs else if a = 100001 then fLow else if a = 100002 then fHigh else fFirst := ⟨_, rfl⟩
  have h0 : h00 Ls xs = ((K, G, fun _ _ => .null, 0), I, fun _ _ => 0, (0, 0)) := by rw [hK, hG, hI]; rfl
  have k0 : K 100000 = 3 := by rw [hK]; rfl
  have k1 : K 100001 = 3 := by rw [hK]; rfl
  have k2 : K 100002 = 3 := by rw [hK]; rfl
  have k3 : K 100003 = 3 := by rw [hK]; rfl
  have g0 : G 100000 = Ls := by rw [hG]; rfl
  have g1 : G 100001 = 5 := by rw [hG]; rfl
  have g2 : G 100002 = 5 := by rw [hG]; rfl
  have g3 : G 100003 = 5 := by rw [hG]; rfl
  have i1 : I 100001 = fLow := by rw [hI]; rfl
  have i2 : I 100002 = fHigh := by rw [hI]; rfl
  have i3 : I 100003 = fFirst := by rw [hI]; rfl
  rw [h0]
  clear h0 hK hG hI
  obtain ⟨K1, G1, F1, I1, L1, u1, e1, ⟨z0, z1⟩, c1, c2, c3, c4, c5, c6, c7, d1, d2, d3, d4, d5, d6⟩ := n_class (K := up1 K 0 10) (G := up1 G 0 0) (F := up1 (fun _ _ => .null) 0 (fun _ => .null)) (I := up1 I 0 (fun _ => 0)) (L := up1 (fun _ _ => 0) 0 (fun _ => 0)) (u := 0 + 7) (u1_e rfl) ⟨by rw [u1_o (by omega)]; exact k3, by rw [u1_o (by omega)]; exact g3, by rw [u1_o (by omega)]; exact i3⟩
  obtain ⟨N1, n1, n2⟩ : ∃ N : Nat → Nat → Nat, I1 = iN N ∧ ∀ a j, N a j < 4294967296 := ⟨fun a j => Classical.choose (i_ex (I1 a j)), by
    funext a j
    exact (Classical.choose_spec (i_ex (I1 a j))).2, fun a j => (Classical.choose_spec (i_ex (I1 a j))).1⟩
  have hv : ∀ a j v, v < 4294967296 → I1 a j = nI v → N1 a j = v := fun a j v hv e => by
    rw [n1] at e
    have e : nI (N1 a j) = nI v := e
    rw [i_eqU (n2 a j) hv] at e
    exact e
  have hz : ∀ a j, I1 a j = 0 → N1 a j = 0 := fun a j e => hv a j 0 (by omega) (by rw [e]; rfl)
  have hi : ∀ a, 1000 ≤ a → K1 a = K a ∧ G1 a = G a ∧ I1 a = I a := fun a ha => by
    obtain ⟨f1, f2, f3, f4⟩ := d5 a ha
    rw [u1_o (by omega)] at f1 f2 f4
    exact ⟨f1, f2, f4⟩
  have hl1 : I1 100001 = fLow := (hi 100001 (by omega)).2.2.trans i1
  have hl2 : I1 100002 = fHigh := (hi 100002 (by omega)).2.2.trans i2
  obtain ⟨W, hW⟩ : ∃ W, W = up2 (up2 (up2 (up2 (up2 (up2 (up2 (up1 (up1 (up1 (up1 (up1 (up1 (up1 (up1 (N1) 144 (fun _ => 0)) 145 (fun _ => 0)) 146 (fun _ => 0)) 147 (fun _ => 0)) 148 (fun _ => 0)) 149 (fun _ => 0)) 150 (fun _ => 0)) 151 (fun _ => 0)) 149 0 2) 149 1 5) 149 2 10) 149 3 20) 149 4 5) 150 0 3) 151 3 1 := ⟨_, rfl⟩
  obtain ⟨S, s1, s2, s3, s4⟩ := LW_st (N1 := N1) (W := W) (fun k i hk => hv _ _ _ y00_N.2 ((d1 k i hk).trans y00_N.1)) (fun i => hz _ _ (d2 i)) (fun k i hk => hz _ _ (d3 k i hk)) (fun i => hz _ _ (d4 i)) (fun i hi => by
    rcases (show i = 0 ∨ i = 1 ∨ i = 2 ∨ i = 3 ∨ i = 4 by omega) with rfl | rfl | rfl | rfl | rfl
    all_goals exact ⟨hv _ _ _ (by decide) ((congrFun hl1 _).trans (by decide)), hv _ _ _ (by decide) ((congrFun hl2 _).trans (by decide))⟩) (fun a ha => by
    rw [hW, up2_ne (by omega), up2_ne (by omega), up2_ne (by omega), up2_ne (by omega), up2_ne (by omega), up2_ne (by omega), up2_ne (by omega), u1_o (by omega), u1_o (by omega), u1_o (by omega), u1_o (by omega), u1_o (by omega), u1_o (by omega), u1_o (by omega), u1_o (by omega)]) (fun a i h1 h2 => by
    rw [hW, up2_ne (by omega), up2_ne (by omega), up2_ne (by omega), up2_ne (by omega), up2_ne (by omega), up2_ne (by omega), up2_ne (by omega)]
    rcases (show a = 144 ∨ a = 145 ∨ a = 146 ∨ a = 147 ∨ a = 148 by omega) with rfl | rfl | rfl | rfl | rfl
    all_goals simp (disch := omega) only [u1_e, u1_o]) (fun i hi => by
    rw [hW]
    rcases (show i = 0 ∨ i = 1 ∨ i = 2 ∨ i = 3 ∨ i = 4 by omega) with rfl | rfl | rfl | rfl | rfl
    all_goals simp (disch := omega) only [up2_o, up2_e]
    all_goals rfl) (by
    rw [hW]
    simp (disch := omega) only [up2_o, up2_e]) (by
    rw [hW]
    simp (disch := omega) only [up2_e]) (fun i hi => by
    rw [hW]
    simp (disch := omega) only [up2_o, u1_e])
  clear hv hz hl1 hl2
  subst n1
  simp only [Nat.reduceAdd] at e1
  have p : ∀ a, a < 144 ∨ 1000 ≤ a → up1 (up1 (up1 (up1 (up1 (up1 (up1 (up1 (K1) 144 0) 145 0) 146 0) 147 0) 148 0) 149 0) 150 0) 151 0 a = K1 a ∧ up1 (up1 (up1 (up1 (up1 (up1 (up1 (up1 (G1) 144 60) 145 36) 146 48) 147 48) 148 16) 149 5) 150 60) 151 7 a = G1 a ∧ up1 (up1 (up1 (up1 (up1 (up1 (up1 (up1 (F1) 144 (fun _ => .null)) 145 (fun _ => .null)) 146 (fun _ => .null)) 147 (fun _ => .null)) 148 (fun _ => .null)) 149 (fun _ => .null)) 150 (fun _ => .null)) 151 (fun _ => .null) a = F1 a := fun a ha => by
    refine ⟨?_, ?_, ?_⟩
    all_goals rw [u1_o (by omega), u1_o (by omega), u1_o (by omega), u1_o (by omega), u1_o (by omega), u1_o (by omega), u1_o (by omega), u1_o (by omega)]
  obtain ⟨KK, hKK⟩ : ∃ X, X = up1 (up1 (up1 (up1 (up1 (up1 (up1 (up1 (K1) 144 0) 145 0) 146 0) 147 0) 148 0) 149 0) 150 0) 151 0 := ⟨_, rfl⟩
  obtain ⟨GG, hGG⟩ : ∃ X, X = up1 (up1 (up1 (up1 (up1 (up1 (up1 (up1 (G1) 144 60) 145 36) 146 48) 147 48) 148 16) 149 5) 150 60) 151 7 := ⟨_, rfl⟩
  obtain ⟨FF, hFF⟩ : ∃ X, X = up1 (up1 (up1 (up1 (up1 (up1 (up1 (up1 (F1) 144 (fun _ => .null)) 145 (fun _ => .null)) 146 (fun _ => .null)) 147 (fun _ => .null)) 148 (fun _ => .null)) 149 (fun _ => .null)) 150 (fun _ => .null)) 151 (fun _ => .null) := ⟨_, rfl⟩
  have al : (KK 144 = 0 ∧ GG 144 = 60) ∧ (KK 145 = 0 ∧ GG 145 = 36) ∧ (KK 146 = 0 ∧ GG 146 = 48) ∧ (KK 147 = 0 ∧ GG 147 = 48) ∧ (KK 148 = 0 ∧ GG 148 = 16) ∧ (KK 149 = 0 ∧ GG 149 = 5) ∧ (KK 150 = 0 ∧ GG 150 = 60) ∧ (KK 151 = 0 ∧ GG 151 = 7) := by
    rw [hKK, hGG]
    refine ⟨⟨?_, ?_⟩, ⟨?_, ?_⟩, ⟨?_, ?_⟩, ⟨?_, ?_⟩, ⟨?_, ?_⟩, ⟨?_, ?_⟩, ⟨?_, ?_⟩, ⟨?_, ?_⟩⟩
    all_goals simp (disch := omega) only [u1_e, u1_o]
  rw [← hKK, ← hGG, ← hFF] at p
  obtain ⟨al0, al1, al2, al3, al4, al5, al6, al7⟩ := al
  refine ⟨(KK, GG, FF, 152), W, up1 (up1 (up1 (up1 (up1 (up1 (up1 (up1 (L1) 144 (fun _ => 0)) 145 (fun _ => 0)) 146 (fun _ => 0)) 147 (fun _ => 0)) 148 (fun _ => 0)) 149 (fun _ => 0)) 150 (fun _ => 0)) 151 (fun _ => 0), u1 + 280, S, ?_, ⟨⟨?_, ?_, ?_, ?_, ?_, ?_, ?_, ?_, ?_⟩, ⟨al0, al1, al2, al7, al5, al6⟩, al3, al4⟩, s1, s2, s3, s4, rfl, ⟨(p 100000 (by omega)).1.trans ((hi 100000 (by omega)).1.trans k0), (p 100000 (by omega)).2.1.trans ((hi 100000 (by omega)).2.1.trans g0)⟩, by omega⟩
  · rw [show lay 14 [.ref 100000] = [some (.ref 100000), none, none, none, none, none, none, none, none, none, none, none, none, none] from rfl]
    simp (disch := omega) only [r_L_law_0, r_L_law_3, r_L_law_4, r_L_law_7, r_L_law_8, r_L_law_10, r_L_law_12, r_L_law_13, r_L_law_15, r_L_law_17, r_L_law_18, r_L_law_20, r_L_law_22, r_L_law_24, r_L_law_26, r_L_law_28, r_L_law_30, r_L_law_32, r_L_law_34, r_L_law_36, r_L_law_37, r_L_law_39, r_L_law_41, r_L_law_43, r_L_law_45, r_L_law_47, r_L_law_49, r_L_law_51, up2_o, up2_e, iN_ap, iN_up, i_ix, i_inb, i_lt, i_lt0, i_0lt, i_eq, i_ne0, i_00, i_11, i_01, i_10, i_b, i_rem2, n_rem, i_add, i_mul, i_sub, i_div, i_max, i_min, rdk_0, rdk_3, kp_none, kp_int, kp_ref, kp_long, kp_double, aK_v, aK_0, aK_ite, if_true, if_false, and_self, and_true, true_and, or_false, false_or, not_true_eq_false, not_false_eq_true, ite_self, ↓reduceIte, eq_self, Bool.false_eq_true, al_1, al_2, n_lt, n_ne, u1_e, u1_o, z0, e1, eq_self, Nat.reduceAdd, Nat.zero_add, Nat.add_assoc, iN_u1, kp_none, kp_ref]
    rw [← hKK, ← hGG, ← hFF]
    simp (disch := omega) only [r_L_law_53, r_L_law_55, r_L_law_56, r_L_law_57, r_L_law_58, r_L_law_60, r_L_law_61, r_L_law_62, r_L_law_63, r_L_law_65, r_L_law_66, r_L_law_68, r_L_law_69, r_L_law_71, r_L_law_72, r_L_law_74, r_L_law_75, r_L_law_77, r_L_law_78, r_L_law_79, r_L_law_80, r_L_law_82, r_L_law_83, r_L_law_84, r_L_law_85, r_L_law_87, r_L_law_88, r_L_law_89, up2_o, up2_e, iN_ap, iN_up, i_ix, i_inb, i_lt, i_lt0, i_0lt, i_eq, i_ne0, i_00, i_11, i_01, i_10, i_b, i_rem2, n_rem, i_add, i_mul, i_sub, i_div, i_max, i_min, rdk_0, rdk_3, kp_none, kp_int, kp_ref, kp_long, kp_double, aK_v, aK_0, aK_ite, if_true, if_false, and_self, and_true, true_and, or_false, false_or, not_true_eq_false, not_false_eq_true, ite_self, ↓reduceIte, eq_self, Bool.false_eq_true, al5, al6, al7, kp_none, kp_ref]
    rw [← hW]
  · obtain ⟨y1, y2, y3, y4, y5, y6, y7⟩ := z1
    have f := (p 0 (by omega)).2.2
    exact ⟨(p 0 (by omega)).1.trans z0, (congrFun f 0).trans y1, (congrFun f 1).trans y2, (congrFun f 2).trans y3, (congrFun f 3).trans y4, (congrFun f 4).trans y5, (congrFun f 5).trans y6, (congrFun f 6).trans y7⟩
  · exact YAt_cg c1 (fun a h1 h2 => p a (by omega))
  · exact YAt_cg c2 (fun a h1 h2 => p a (by omega))
  · exact VAt_cg c3 (fun a h1 h2 => p a (by omega))
  · exact SAt_cg c4 (fun a h1 h2 => p a (by omega))
  · exact TAt_cg c5 (fun a h1 h2 => p a (by omega))
  · exact RAt_cg c6 (fun a h1 h2 => p a (by omega))
  · exact RAt_cg c7 (fun a h1 h2 => p a (by omega))
  · exact ⟨(p 100001 (by omega)).1.trans ((hi 100001 (by omega)).1.trans k1), (p 100002 (by omega)).1.trans ((hi 100002 (by omega)).1.trans k2), (p 100001 (by omega)).2.1.trans ((hi 100001 (by omega)).2.1.trans g1), (p 100002 (by omega)).2.1.trans ((hi 100002 (by omega)).2.1.trans g2)⟩
