/-! the class is made -/
def Ls (n : Nat) (K G : Nat → Nat) (F : Nat → Nat → Value) (I : Nat → Nat → Int32) (K' G' : Nat → Nat) (F' : Nat → Nat → Value) (I' : Nat → Nat → Int32) : Prop := ∀ a, 0 < a → (a < n ∨ 1000 ≤ a) → K' a = K a ∧ G' a = G a ∧ F' a = F a ∧ I' a = I a
theorem Lo_st {n j : Nat} {v : Value} {K G K' G' : Nat → Nat} {F F' : Nat → Nat → Value} {I I' : Nat → Nat → Int32} (h : Lo n K G (up2 F 0 j v) I K' G' F' I') : Ls n K G F I K' G' F' I' := fun a h0 ha => by
  obtain ⟨b1, b2, b3, b4⟩ := h a ha
  rw [u2_f (by omega)] at b3
  exact ⟨b1, b2, b3, b4⟩
theorem Ls_tr {n m : Nat} {K G K1 G1 K2 G2 : Nat → Nat} {F F1 F2 : Nat → Nat → Value} {I I1 I2 : Nat → Nat → Int32} (h1 : Ls n K G F I K1 G1 F1 I1) (h2 : Ls m K1 G1 F1 I1 K2 G2 F2 I2) (h : n ≤ m) : Ls n K G F I K2 G2 F2 I2 := fun a h0 ha => by
  obtain ⟨a1, a2, a3, a4⟩ := h1 a h0 ha
  obtain ⟨b1, b2, b3, b4⟩ := h2 a h0 (by omega)
  exact ⟨b1.trans a1, b2.trans a2, b3.trans a3, b4.trans a4⟩
theorem n_class {K G : Nat → Nat} {F : Nat → Nat → Value} {I : Nat → Nat → Int32} {L : Nat → Nat → Int64} {u : Nat} (hy : K 0 = 10) (hs : K 100003 = 3 ∧ G 100003 = 5 ∧ I 100003 = fFirst) :
    ∃ K' G' F' I' L' u', ex 57 0 [some (.ref 0)] [] ((K, G, F, 1), I, L, (0, u)) = some (.inl none, ((K', G', F', 144), I', L', (0, u'))) ∧
      (K' 0 = 10 ∧ F' 0 0 = .ref 1 ∧ F' 0 1 = .ref 17 ∧ F' 0 2 = .ref 33 ∧ F' 0 3 = .ref 131 ∧ F' 0 4 = .ref 136 ∧ F' 0 5 = .ref 138 ∧ F' 0 6 = .ref 141) ∧ YAt (K', G', F', 144) 1 ∧ YAt (K', G', F', 144) 17 ∧ VAt (K', G', F', 144) 33 ∧ SAt (K', G', F', 144) 131 ∧ TAt (K', G', F', 144) 136 ∧ RAt (K', G', F', 144) 138 4 6 ∧ RAt (K', G', F', 144) 141 8 60 ∧
      (∀ k i, k < 16 → I' (1 + k) i = y00 k i) ∧ (∀ i, I' 33 i = 0) ∧ (∀ k i, k < 5 → I' (131 + k) i = 0) ∧ (∀ i, I' 136 i = 0) ∧ (∀ a, 1000 ≤ a → K' a = K a ∧ G' a = G a ∧ F' a = F a ∧ I' a = I a) ∧ u' ≤ u + 25000 := by
  obtain ⟨s1, s2, s3⟩ := hs
  obtain ⟨K1, G1, F1, I1, L1, u1, e1, a1, b1, c1, d1⟩ := n_yard (K := up1 K 1 9) (G := up1 G 1 0) (F := up1 F 1 (fun _ => .null)) (I := up1 I 1 (fun _ => 0)) (L := up1 L 1 (fun _ => 0)) (u := u + 19) (y := 1) (u1_e rfl) (by omega) (u1_e rfl) (by rw [u1_o (by omega)]; exact s1) (by rw [u1_o (by omega)]; exact s2) (by rw [u1_o (by omega)]; exact s3)
  have lo1 : Lo 1 K G (F) I K1 G1 F1 I1 := Lo_new b1 (by omega) (by omega)
  obtain ⟨zk1, zg1, zf1, -⟩ := lo1 0 (by omega)
  obtain ⟨sk1, sg1, -, si1⟩ := lo1 100003 (by omega)
  rw [s1] at sk1
  rw [s2] at sg1
  rw [s3] at si1
  rw [hy] at zk1
  obtain ⟨K2, G2, F2, I2, L2, u2, e2, a2, b2, c2, d2⟩ := n_yard (K := up1 K1 17 9) (G := up1 G1 17 0) (F := up1 (up2 F1 0 0 (.ref 1)) 17 (fun _ => .null)) (I := up1 I1 17 (fun _ => 0)) (L := up1 L1 17 (fun _ => 0)) (u := u1 + 19) (y := 17) (u1_e rfl) (by omega) (u1_e rfl) (by rw [u1_o (by omega)]; exact sk1) (by rw [u1_o (by omega)]; exact sg1) (by rw [u1_o (by omega)]; exact si1)
  have lo2 : Lo 17 K1 G1 (up2 F1 0 0 (.ref 1)) I1 K2 G2 F2 I2 := Lo_new b2 (by omega) (by omega)
  obtain ⟨zk2, zg2, zf2, -⟩ := lo2 0 (by omega)
  obtain ⟨sk2, sg2, -, si2⟩ := lo2 100003 (by omega)
  rw [sk1] at sk2
  rw [sg1] at sg2
  rw [si1] at si2
  rw [zk1] at zk2
  obtain ⟨K3, G3, F3, I3, L3, u3, e3, a3, b3, c3, d3⟩ := n_saved (K := up1 K2 33 6) (G := up1 G2 33 0) (F := up1 (up2 F2 0 1 (.ref 17)) 33 (fun _ => .null)) (I := up1 I2 33 (fun _ => 0)) (L := up1 L2 33 (fun _ => 0)) (u := u2 + 3) (v := 33) (u1_e rfl) (by omega) ⟨by rw [u1_o (by omega)]; exact sk2, by rw [u1_o (by omega)]; exact sg2, by rw [u1_o (by omega)]; exact si2⟩
  have lo3 : Lo 33 K2 G2 (up2 F2 0 1 (.ref 17)) I2 K3 G3 F3 I3 := fun a ha => by
    obtain ⟨b1, b2, b3, b4⟩ := b3 a (by omega)
    rw [u1_o (by omega)] at b1 b2 b3 b4
    exact ⟨b1, b2, b3, b4⟩
  obtain ⟨zk3, zg3, zf3, -⟩ := lo3 0 (by omega)
  obtain ⟨sk3, sg3, -, si3⟩ := lo3 100003 (by omega)
  rw [sk2] at sk3
  rw [sg2] at sg3
  rw [si2] at si3
  rw [zk2] at zk3
  obtain ⟨K4, G4, F4, I4, L4, u4, e4, a4, b4, c4, d4⟩ := n_slots (K := up1 K3 131 7) (G := up1 G3 131 0) (F := up1 (up2 F3 0 2 (.ref 33)) 131 (fun _ => .null)) (I := up1 I3 131 (fun _ => 0)) (L := up1 L3 131 (fun _ => 0)) (u := u3 + 5) (y := 131) (u1_e rfl) (by omega) (u1_e rfl)
  have lo4 : Lo 131 K3 G3 (up2 F3 0 2 (.ref 33)) I3 K4 G4 F4 I4 := Lo_new b4 (by omega) (by omega)
  obtain ⟨zk4, zg4, zf4, -⟩ := lo4 0 (by omega)
  obtain ⟨sk4, sg4, -, si4⟩ := lo4 100003 (by omega)
  rw [sk3] at sk4
  rw [sg3] at sg4
  rw [si3] at si4
  rw [zk3] at zk4
  obtain ⟨K5, G5, F5, I5, L5, u5, e5, a5, b5, c5, d5⟩ := n_text (K := up1 K4 136 5) (G := up1 G4 136 0) (F := up1 (up2 F4 0 3 (.ref 131)) 136 (fun _ => .null)) (I := up1 I4 136 (fun _ => 0)) (L := up1 L4 136 (fun _ => 0)) (u := u4 + 2) (y := 136) (u1_e rfl) (by omega) (u1_e rfl)
  have lo5 : Lo 136 K4 G4 (up2 F4 0 3 (.ref 131)) I4 K5 G5 F5 I5 := Lo_new b5 (by omega) (by omega)
  obtain ⟨zk5, zg5, zf5, -⟩ := lo5 0 (by omega)
  obtain ⟨sk5, sg5, -, si5⟩ := lo5 100003 (by omega)
  rw [sk4] at sk5
  rw [sg4] at sg5
  rw [si4] at si5
  rw [zk4] at zk5
  obtain ⟨K6, G6, F6, I6, L6, u6, e6, a6, b6, d6⟩ := n_hread (K := up1 K5 138 4) (G := up1 G5 138 0) (F := up1 (up2 F5 0 4 (.ref 136)) 138 (fun _ => .null)) (I := up1 I5 138 (fun _ => 0)) (L := up1 L5 138 (fun _ => 0)) (u := u5 + 4) (y := 138) (u1_e rfl) (by omega)
  have lo6 : Lo 138 K5 G5 (up2 F5 0 4 (.ref 136)) I5 K6 G6 F6 I6 := Lo_new b6 (by omega) (by omega)
  obtain ⟨zk6, zg6, zf6, -⟩ := lo6 0 (by omega)
  obtain ⟨sk6, sg6, -, si6⟩ := lo6 100003 (by omega)
  rw [sk5] at sk6
  rw [sg5] at sg6
  rw [si5] at si6
  rw [zk5] at zk6
  obtain ⟨K7, G7, F7, I7, L7, u7, e7, a7, b7, d7⟩ := n_wread (K := up1 K6 141 8) (G := up1 G6 141 0) (F := up1 (up2 F6 0 5 (.ref 138)) 141 (fun _ => .null)) (I := up1 I6 141 (fun _ => 0)) (L := up1 L6 141 (fun _ => 0)) (u := u6 + 4) (y := 141) (u1_e rfl) (by omega)
  have lo7 : Lo 141 K6 G6 (up2 F6 0 5 (.ref 138)) I6 K7 G7 F7 I7 := Lo_new b7 (by omega) (by omega)
  obtain ⟨zk7, zg7, zf7, -⟩ := lo7 0 (by omega)
  obtain ⟨sk7, sg7, -, si7⟩ := lo7 100003 (by omega)
  rw [sk6] at sk7
  rw [sg6] at sg7
  rw [si6] at si7
  rw [zk6] at zk7
  simp only [Nat.reduceAdd] at e1 e2 e3 e4 e5 e6 e7
  have t2 := Lo_st lo2
  have t3 := Lo_st lo3
  have t4 := Lo_st lo4
  have t5 := Lo_st lo5
  have t6 := Lo_st lo6
  have t7 := Lo_st lo7
  have t67 := t7
  have x6 := Ls_tr t6 t7 (by omega)
  have x5 := Ls_tr t5 x6 (by omega)
  have x4 := Ls_tr t4 x5 (by omega)
  have x3 := Ls_tr t3 x4 (by omega)
  have x2 := Ls_tr t2 x3 (by omega)
  have fin : ∀ a, 0 < a → (up2 F7 0 6 (.ref 141)) a = F7 a := fun a ha => u2_f (by omega)
  refine ⟨K7, G7, up2 F7 0 6 (.ref 141), I7, L7, u7, ?_, ⟨zk7, ?_, ?_, ?_, ?_, ?_, ?_, ?_⟩, ?_, ?_, ?_, ?_, ?_, ?_, ?_, ?_, ?_, ?_, ?_, ?_, by omega⟩
  · simp (disch := omega) only [r_X7_init_0, r_X7_init_1, r_X7_init_4, r_X7_init_5, r_X7_init_8, r_X7_init_9, r_X7_init_12, r_X7_init_15, r_X7_init_16, r_X7_init_19, r_X7_init_20, r_X7_init_23, r_X7_init_26, r_X7_init_27, r_X7_init_30, r_X7_init_31, r_X7_init_34, r_X7_init_37, r_X7_init_38, r_X7_init_41, r_X7_init_42, r_X7_init_45, r_X7_init_48, r_X7_init_49, r_X7_init_52, r_X7_init_53, r_X7_init_56, r_X7_init_59, r_X7_init_60, r_X7_init_63, r_X7_init_64, r_X7_init_67, r_X7_init_70, r_X7_init_71, r_X7_init_74, r_X7_init_75, r_X7_init_78, r_X7_init_81, up2_o, up2_e, iN_ap, iN_up, i_ix, i_inb, i_lt, i_lt0, i_0lt, i_eq, i_ne0, i_00, i_11, i_01, i_10, i_b, i_rem2, n_rem, i_add, i_mul, i_sub, i_div, i_max, i_min, rdk_0, rdk_3, kp_none, kp_int, kp_ref, kp_long, kp_double, aK_v, aK_0, aK_ite, if_true, if_false, and_self, and_true, true_and, or_false, false_or, not_true_eq_false, not_false_eq_true, ite_self, ↓reduceIte, n_lt, n_ne, u1_e, u1_o, u2_j, hy, zk1, zk2, zk3, zk4, zk5, zk6, zk7, e1, e2, e3, e4, e5, e6, e7, eq_self, Nat.reduceAdd]
  · simp (disch := omega) only [u2_j, up2_e, zf1, zf2, zf3, zf4, zf5, zf6, zf7]
  · simp (disch := omega) only [u2_j, up2_e, zf1, zf2, zf3, zf4, zf5, zf6, zf7]
  · simp (disch := omega) only [u2_j, up2_e, zf1, zf2, zf3, zf4, zf5, zf6, zf7]
  · simp (disch := omega) only [u2_j, up2_e, zf1, zf2, zf3, zf4, zf5, zf6, zf7]
  · simp (disch := omega) only [u2_j, up2_e, zf1, zf2, zf3, zf4, zf5, zf6, zf7]
  · simp (disch := omega) only [u2_j, up2_e, zf1, zf2, zf3, zf4, zf5, zf6, zf7]
  · simp (disch := omega) only [u2_j, up2_e, zf1, zf2, zf3, zf4, zf5, zf6, zf7]
  · refine YAt_cg a1 (fun a h1 h2 => ?_)
    obtain ⟨p1, p2, p3, -⟩ := x2 a (by omega) (by omega)
    exact ⟨p1, p2, (fin a (by omega)).trans p3⟩
  · refine YAt_cg a2 (fun a h1 h2 => ?_)
    obtain ⟨p1, p2, p3, -⟩ := x3 a (by omega) (by omega)
    exact ⟨p1, p2, (fin a (by omega)).trans p3⟩
  · have p : ∀ a, 33 ≤ a → a < 131 → K7 a = K3 a ∧ G7 a = G3 a ∧ up2 F7 0 6 (.ref 141) a = F3 a := fun a h1 h2 => by
      obtain ⟨p1, p2, p3, -⟩ := x4 a (by omega) (by omega)
      exact ⟨p1, p2, (fin a (by omega)).trans p3⟩
    obtain ⟨q1, q2, q3, q4, q5⟩ := a3
    refine ⟨(p 33 (by omega) (by omega)).1.trans q1, (p 34 (by omega) (by omega)).1.trans q2, (p 34 (by omega) (by omega)).2.1.trans q3, ?_, fun k hk => ⟨?_, YAt_cg (q5 k hk).2 (fun a h1 h2 => p a (by omega) (by omega))⟩⟩
    · show up2 F7 0 6 (.ref 141) 33 0 = _
      rw [(p 33 (by omega) (by omega)).2.2]
      exact q4
    · show up2 F7 0 6 (.ref 141) 34 k = _
      rw [(p 34 (by omega) (by omega)).2.2]
      exact (q5 k hk).1
  · have p : ∀ a, 131 ≤ a → a < 136 → K7 a = K4 a ∧ G7 a = G4 a ∧ up2 F7 0 6 (.ref 141) a = F4 a := fun a h1 h2 => by
      obtain ⟨p1, p2, p3, -⟩ := x5 a (by omega) (by omega)
      exact ⟨p1, p2, (fin a (by omega)).trans p3⟩
    obtain ⟨q1, q2, q3, q4, q5, q6, q7, q8, q9, q10, q11, q12, q13⟩ := a4
    exact ⟨(p 131 (by omega) (by omega)).1.trans q1, (p 132 (by omega) (by omega)).1.trans q2, (p 133 (by omega) (by omega)).1.trans q3, (p 134 (by omega) (by omega)).1.trans q4, (p 135 (by omega) (by omega)).1.trans q5, (p 132 (by omega) (by omega)).2.1.trans q6, (p 133 (by omega) (by omega)).2.1.trans q7, (p 134 (by omega) (by omega)).2.1.trans q8, (p 135 (by omega) (by omega)).2.1.trans q9, (congrFun (p 131 (by omega) (by omega)).2.2 0).trans q10, (congrFun (p 131 (by omega) (by omega)).2.2 1).trans q11, (congrFun (p 131 (by omega) (by omega)).2.2 2).trans q12, (congrFun (p 131 (by omega) (by omega)).2.2 4).trans q13⟩
  · have p : ∀ a, 136 ≤ a → a < 138 → K7 a = K5 a ∧ G7 a = G5 a ∧ up2 F7 0 6 (.ref 141) a = F5 a := fun a h1 h2 => by
      obtain ⟨p1, p2, p3, -⟩ := x6 a (by omega) (by omega)
      exact ⟨p1, p2, (fin a (by omega)).trans p3⟩
    obtain ⟨q1, q2, q3, q4⟩ := a5
    exact ⟨(p 136 (by omega) (by omega)).1.trans q1, (p 137 (by omega) (by omega)).1.trans q2, (p 137 (by omega) (by omega)).2.1.trans q3, (congrFun (p 136 (by omega) (by omega)).2.2 0).trans q4⟩
  · have p : ∀ a, 138 ≤ a → a < 141 → K7 a = K6 a ∧ G7 a = G6 a ∧ up2 F7 0 6 (.ref 141) a = F6 a := fun a h1 h2 => by
      obtain ⟨p1, p2, p3, -⟩ := t7 a (by omega) (by omega)
      exact ⟨p1, p2, (fin a (by omega)).trans p3⟩
    obtain ⟨q1, q2, q3, q4, q5, q6, q7⟩ := a6
    exact ⟨(p 138 (by omega) (by omega)).1.trans q1, (p 139 (by omega) (by omega)).1.trans q2, (p 140 (by omega) (by omega)).1.trans q3, (p 139 (by omega) (by omega)).2.1.trans q4, (p 140 (by omega) (by omega)).2.1.trans q5, (congrFun (p 138 (by omega) (by omega)).2.2 0).trans q6, (congrFun (p 138 (by omega) (by omega)).2.2 1).trans q7⟩
  · obtain ⟨q1, q2, q3, q4, q5, q6, q7⟩ := a7
    exact ⟨q1, q2, q3, q4, q5, (congrFun (fin 141 (by omega)) 0).trans q6, (congrFun (fin 141 (by omega)) 1).trans q7⟩
  · intro k i hk
    rw [(x2 (1 + k) (by omega) (by omega)).2.2.2]
    exact c1 k i hk
  · intro i
    rw [(x4 33 (by omega) (by omega)).2.2.2, c3, u1_e rfl]
  · intro k i hk
    rw [(x5 (131 + k) (by omega) (by omega)).2.2.2]
    exact c4 k i hk
  · intro i
    rw [(x6 136 (by omega) (by omega)).2.2.2]
    exact c5 i
  · intro a ha
    obtain ⟨p1, p2, p3, p4⟩ := x2 a (by omega) (by omega)
    obtain ⟨r1, r2, r3, r4⟩ := lo1 a (by omega)
    exact ⟨p1.trans r1, p2.trans r2, (fin a (by omega)).trans (p3.trans r3), p4.trans r4⟩
