/-! the reference: a house is added, winds are set -/
theorem up2_comm {f : Nat → Nat → Nat} {a i b j u v : Nat} (h : a ≠ b) : up2 (up2 f a i u) b j v = up2 (up2 f b j v) a i u := by
  funext x y
  unfold up2
  by_cases h1 : x = b ∧ y = j
  · rw [if_pos h1, if_neg (fun z => h (by omega)), if_pos h1]
  · rw [if_neg h1]
    by_cases h2 : x = a ∧ y = i
    · rw [if_pos h2, if_pos h2]
    · rw [if_neg h2, if_neg h2, if_neg h1]
theorem ahX_3 {h a v : Nat} : ∀ (l : List (Nat × Nat)) (i : Nat) (R : aY), ahX h l i (up2 R 3 a v) = up2 (ahX h l i R) 3 a v
  | [], _, _ => rfl
  | e :: l, i, R => by
    unfold ahX
    rw [← ahX_3 l (i + 1), up2_comm (f := R) (by omega), up2_comm (f := up2 R 6 (h * 6 + i) e.1) (by omega)]
theorem ahX_o {h k j : Nat} (h6 : k ≠ 6) (h7 : k ≠ 7) : ∀ (l : List (Nat × Nat)) (i : Nat) (R : aY), ahX h l i R k j = R k j
  | [], _, _ => rfl
  | e :: l, i, R => by
    unfold ahX
    rw [ahX_o h6 h7 l, up2_o (by omega), up2_o (by omega)]
theorem skX_o {v k j : Nat} (h1 : k ≠ 1) : ∀ (n p : Nat) (R : aY), skX v n p R k j = R k j
  | 0, _, _ => rfl
  | n + 1, p, R => by
    unfold skX
    rw [skX_o h1 n, up2_o (by omega)]
theorem swX_o {k j : Nat} (h1 : k ≠ 1) : ∀ (l : List (Nat × Nat)) (p : Nat) (R : aY), swX l p R k j = R k j
  | [], _, _ => rfl
  | e :: l, p, R => by
    unfold swX
    rw [swX_o h1 l, skX_o h1]
theorem hEnd_3 {N : Nat → Nat → Nat} {s : aP2} (h : HM N s) (hb : HB s) : N 144 8 ≤ 3 ∧ (N 144 8 = 3 ↔ hEnd s = true) := by
  obtain ⟨aw, l⟩ := s
  obtain ⟨b1, b2, b3, b4, b5⟩ := hb
  obtain ⟨m1, m2, m3, m4, m5⟩ := h
  dsimp only at b1 b2 b3 b4 b5 m1 m2 m3 m4 m5
  rcases (show aw = 0 ∨ aw = 1 ∨ aw = 2 by omega) with rfl | rfl | rfl
  · have := (m2 rfl).1
    rw [this]
    exact ⟨by omega, ⟨fun z => by omega, fun z => by cases z⟩⟩
  · have := m4 rfl
    rw [this]
    exact ⟨by omega, ⟨fun z => by omega, fun z => by cases z⟩⟩
  · obtain ⟨e, l', hl, -⟩ := b5 (by omega)
    have := m5 rfl _ _ hl
    subst hl
    obtain ⟨w, p⟩ := e
    rw [this]
    have hd : hEnd (2, (w, p) :: l') = Nat.ble 1 p := rfl
    rw [hd]
    dsimp only
    split
    · rename_i z
      subst z
      exact ⟨by omega, ⟨fun z => by omega, fun z => by cases z⟩⟩
    · rename_i z
      exact ⟨by omega, ⟨fun _ => Nat.ble_eq_true_of_le (by omega), fun _ => rfl⟩⟩
theorem hEnd_all {s : aP2} (hb : HB s) (he : hEnd s = true) : s.1 = 2 ∧ 1 ≤ s.2.length ∧ s.2.length ≤ 6 ∧ ∀ e ∈ s.2, 1 ≤ e.2 ∧ e.1 ≤ 3 ∧ e.2 ≤ 9999 := by
  obtain ⟨aw, l⟩ := s
  obtain ⟨b1, b2, b3, b4, b5⟩ := hb
  dsimp only at b1 b2 b3 b4 b5
  rcases (show aw = 0 ∨ aw = 1 ∨ aw = 2 by omega) with rfl | rfl | rfl
  · cases he
  · cases he
  · obtain ⟨e, l', hl, k1, -⟩ := b5 (by omega)
    subst hl
    obtain ⟨w, p⟩ := e
    have h1 : 1 ≤ p := Nat.le_of_ble_eq_true he
    refine ⟨rfl, by simp, b2, fun e he => ?_⟩
    have := b3 e he
    refine ⟨?_, this⟩
    rcases List.mem_cons.mp he with z | z
    · rw [z]; exact h1
    · exact k1 e z
theorem wEnd_3 {N : Nat → Nat → Nat} {s : aP2} {k : Nat} (h : WM N s) (hb : WB s k) : N 144 8 ≤ 5 ∧ ((N 144 8 = 1 ∨ 3 < N 144 8) ↔ wEnd s = true) := by
  obtain ⟨aw, l⟩ := s
  obtain ⟨b1, b3, b4, b5⟩ := hb
  obtain ⟨m1, m2, m3, m4, m5⟩ := h
  dsimp only at b1 b3 b4 b5 m1 m2 m3 m4 m5
  rcases (show aw = 0 ∨ aw = 1 ∨ aw = 2 by omega) with rfl | rfl | rfl
  · have := (m2 rfl).1
    rw [this]
    exact ⟨by omega, ⟨fun z => by omega, fun z => by cases z⟩⟩
  · have := m4 rfl
    rw [this]
    exact ⟨by omega, ⟨fun z => rfl, fun z => Or.inl rfl⟩⟩
  · obtain ⟨-, e, l', hl, -⟩ := b5 (by omega)
    have := m5 rfl _ _ hl
    subst hl
    obtain ⟨w, p⟩ := e
    rw [this]
    have hd : wEnd (2, (w, p) :: l') = Nat.ble 2 p := rfl
    rw [hd]
    dsimp only
    split
    · rename_i z
      subst z
      exact ⟨by omega, ⟨fun z => by omega, fun z => by cases z⟩⟩
    · split
      · rename_i z
        subst z
        exact ⟨by omega, ⟨fun z => by omega, fun z => by cases z⟩⟩
      · split
        · exact ⟨by omega, ⟨fun _ => Nat.ble_eq_true_of_le (by omega), fun _ => Or.inr (by omega)⟩⟩
        · exact ⟨by omega, ⟨fun _ => Nat.ble_eq_true_of_le (by omega), fun _ => Or.inr (by omega)⟩⟩
theorem wEnd_all {s : aP2} {k : Nat} (hb : WB s k) (he : wEnd s = true) : s.1 ≠ 0 ∧ 1 ≤ s.2.length ∧ 2 * s.2.length ≤ k + 1 ∧ ∀ e ∈ s.2, 1 ≤ e.2 ∧ e.1 ≤ 9 ∧ e.2 ≤ 60 := by
  obtain ⟨aw, l⟩ := s
  obtain ⟨b1, b3, b4, b5⟩ := hb
  dsimp only at b1 b3 b4 b5
  have ha : aw ≠ 0 := fun z => by subst z; cases he
  obtain ⟨lk, e, l', hl, k1, k2⟩ := b5 ha
  subst hl
  obtain ⟨w, p⟩ := e
  have h1 : 1 ≤ p := by
    rcases (show aw = 1 ∨ aw = 2 by omega) with rfl | rfl
    · have := k2 rfl
      dsimp only at this
      omega
    · have : 2 ≤ p := Nat.le_of_ble_eq_true he
      omega
  refine ⟨ha, by simp, lk, fun e he => ?_⟩
  have := b3 e he
  refine ⟨?_, this⟩
  rcases List.mem_cons.mp he with z | z
  · rw [z]; exact h1
  · exact k1 e z
section Mz
variable {Z : aZ} {N : Nat → Nat → Nat} {L : Nat → Nat → Int64} {c : Nat × Nat}
theorem s_mAdd_loop {h n : Nat} {B : Nat → Nat} {o : Nat} (hM : MAt Z) (hh : h < 6) (hn : n ≤ 6) : ∀ (ls : List (Nat × Nat)) (k : Nat) (N : Nat → Nat → Nat) (R : aY), k + ls.length = n → N 144 7 + 1 = n → (∀ i e, ls[i]? = some e → N 149 (k + i) = e.1 ∧ N 150 (k + i) = e.2) → MZ (N 145) R B o →
    ∃ N', ex 151 76 [some (.ref 144), some (.int (nI h)), some (.int (nI k))] [] (Z, iN N, L, c) = ex 151 122 [some (.ref 144), some (.int (nI h)), some (.int (nI n))] [] (Z, iN N', L, c) ∧ MZ (N' 145) (ahX h ls k R) B o ∧ ∀ a, a ≠ 145 → N' a = N a
  | [], k, N, R, h1, h7, _, hz => by
    have e : k = n := by simpa using h1
    subst e
    refine ⟨N, ?_, hz, fun _ _ => rfl⟩
    have q : N 144 7 < k := by omega
    rw [r_X8_addHouse_76]
    simp (disch := omega) only [r_X8_addHouse_77, r_X8_addHouse_78, r_X8_addHouse_81, r_X8_addHouse_84, r_X8_addHouse_85, r_X8_addHouse_86, r_X8_addHouse_87, r_X8_addHouse_90, r_X8_addHouse_91, r_X8_addHouse_92, r_X8_addHouse_95, r_X8_addHouse_96, r_X8_addHouse_97, r_X8_addHouse_100, r_X8_addHouse_101, r_X8_addHouse_102, r_X8_addHouse_103, r_X8_addHouse_106, r_X8_addHouse_107, r_X8_addHouse_108, r_X8_addHouse_111, r_X8_addHouse_112, r_X8_addHouse_113, r_X8_addHouse_116, r_X8_addHouse_119, hM.1.1, @id (Z.2.2.1 144 0 = .ref 145) hM.1.2.1, @id (Z.2.2.1 144 1 = .ref 146) hM.1.2.2.1, @id (Z.2.2.1 144 2 = .ref 147) hM.1.2.2.2.1, @id (Z.2.2.1 144 3 = .ref 148) hM.1.2.2.2.2.1, @id (Z.2.2.1 144 4 = .ref 149) hM.1.2.2.2.2.2.1, @id (Z.2.2.1 144 5 = .ref 150) hM.1.2.2.2.2.2.2.1, @id (Z.2.2.1 144 6 = .ref 151) hM.1.2.2.2.2.2.2.2, @id (Z.1 145 = 0) hM.2.1.1, @id (Z.1 146 = 0) hM.2.1.2.1, @id (Z.1 147 = 0) hM.2.1.2.2.1, @id (Z.1 148 = 0) hM.2.1.2.2.2.1, @id (Z.1 149 = 0) hM.2.1.2.2.2.2.1, @id (Z.1 150 = 0) hM.2.1.2.2.2.2.2.1, @id (Z.1 151 = 0) hM.2.1.2.2.2.2.2.2, @id (Z.2.1 145 = 667) hM.2.2.1, @id (Z.2.1 146 = 667) hM.2.2.2.1, @id (Z.2.1 147 = 4002) hM.2.2.2.2.1, @id (Z.2.1 148 = 60) hM.2.2.2.2.2.1, @id (Z.2.1 149 = 32) hM.2.2.2.2.2.2.1, @id (Z.2.1 150 = 32) hM.2.2.2.2.2.2.2.1, @id (Z.2.1 151 = 36) hM.2.2.2.2.2.2.2.2, up2_o, up2_e, iN_ap, iN_up, i_ix, i_inb, i_lt, i_lt0, i_0lt, i_eq, i_ne0, i_00, i_11, i_01, i_10, i_b, i_rem2, n_rem, i_add, i_mul, i_sub, i_div, i_max, i_min, rdk_0, rdk_3, kp_none, kp_int, kp_ref, kp_long, kp_double, aK_v, aK_0, aK_ite, if_true, if_false, and_self, and_true, true_and, or_false, false_or, not_true_eq_false, not_false_eq_true, ite_self, ↓reduceIte, q]
  | e :: ls, k, N, R, h1, h7, hc, hz => by
    have hk : k < n := by simp at h1; omega
    obtain ⟨c1, c2⟩ := hc 0 e rfl
    rw [Nat.add_zero] at c1 c2
    have q : ¬ N 144 7 < k := by omega
    have l0 := s_mLay (N := N) (L := L) (c := c) (v := e.1) hM (show 91 + 16 * (6 * h + k) + 0 < 667 by omega)
    have l1 := s_mLay (N := up2 N 145 (91 + 16 * (6 * h + k) + 0) e.1) (L := L) (c := c) (v := e.2) hM (show 91 + 16 * (6 * h + k) + 1 < 667 by omega)
    have z1 := MZ_w7 (v := e.2) (MZ_w6 (v := e.1) hz (show 6 * h + k < 36 by omega)) (show 6 * h + k < 36 by omega)
    rw [Nat.mul_comm 6 h] at z1 l0 l1
    have hr : ∀ a, a ≠ 145 → up2 (up2 N 145 (91 + 16 * (h * 6 + k) + 0) e.1) 145 (91 + 16 * (h * 6 + k) + 1) e.2 a = N a := fun a ha => by rw [up145 ha, up145 ha]
    obtain ⟨N', ih, h2, h3⟩ := s_mAdd_loop hM hh hn ls (k + 1) _ _ (by simp at h1; omega) (by rw [hr 144 (by omega)]; exact h7) (fun i e' he => by
      rw [hr 149 (by omega), hr 150 (by omega), show k + 1 + i = k + (i + 1) by omega]
      exact hc (i + 1) e' he) z1
    refine ⟨N', ?_, h2, fun a ha => (h3 a ha).trans (hr a ha)⟩
    have ha := s_mAt (h := h) (k := k) (x := (Z, iN N, L, c))
    have ha2 := s_mAt (h := h) (k := k) (x := (Z, iN (up2 N 145 (91 + 16 * (h * 6 + k) + 0) e.1), L, c))
    rw [Nat.mul_comm 6 h] at ha ha2
    rw [r_X8_addHouse_76]
    simp (disch := omega) only [r_X8_addHouse_77, r_X8_addHouse_78, r_X8_addHouse_81, r_X8_addHouse_84, r_X8_addHouse_85, r_X8_addHouse_86, r_X8_addHouse_87, r_X8_addHouse_90, r_X8_addHouse_91, r_X8_addHouse_92, r_X8_addHouse_95, r_X8_addHouse_96, r_X8_addHouse_97, r_X8_addHouse_100, r_X8_addHouse_101, r_X8_addHouse_102, r_X8_addHouse_103, r_X8_addHouse_106, r_X8_addHouse_107, r_X8_addHouse_108, r_X8_addHouse_111, r_X8_addHouse_112, r_X8_addHouse_113, r_X8_addHouse_116, r_X8_addHouse_119, hM.1.1, @id (Z.2.2.1 144 0 = .ref 145) hM.1.2.1, @id (Z.2.2.1 144 1 = .ref 146) hM.1.2.2.1, @id (Z.2.2.1 144 2 = .ref 147) hM.1.2.2.2.1, @id (Z.2.2.1 144 3 = .ref 148) hM.1.2.2.2.2.1, @id (Z.2.2.1 144 4 = .ref 149) hM.1.2.2.2.2.2.1, @id (Z.2.2.1 144 5 = .ref 150) hM.1.2.2.2.2.2.2.1, @id (Z.2.2.1 144 6 = .ref 151) hM.1.2.2.2.2.2.2.2, @id (Z.1 145 = 0) hM.2.1.1, @id (Z.1 146 = 0) hM.2.1.2.1, @id (Z.1 147 = 0) hM.2.1.2.2.1, @id (Z.1 148 = 0) hM.2.1.2.2.2.1, @id (Z.1 149 = 0) hM.2.1.2.2.2.2.1, @id (Z.1 150 = 0) hM.2.1.2.2.2.2.2.1, @id (Z.1 151 = 0) hM.2.1.2.2.2.2.2.2, @id (Z.2.1 145 = 667) hM.2.2.1, @id (Z.2.1 146 = 667) hM.2.2.2.1, @id (Z.2.1 147 = 4002) hM.2.2.2.2.1, @id (Z.2.1 148 = 60) hM.2.2.2.2.2.1, @id (Z.2.1 149 = 32) hM.2.2.2.2.2.2.1, @id (Z.2.1 150 = 32) hM.2.2.2.2.2.2.2.1, @id (Z.2.1 151 = 36) hM.2.2.2.2.2.2.2.2, up2_o, up2_e, iN_ap, iN_up, i_ix, i_inb, i_lt, i_lt0, i_0lt, i_eq, i_ne0, i_00, i_11, i_01, i_10, i_b, i_rem2, n_rem, i_add, i_mul, i_sub, i_div, i_max, i_min, rdk_0, rdk_3, kp_none, kp_int, kp_ref, kp_long, kp_double, aK_v, aK_0, aK_ite, if_true, if_false, and_self, and_true, true_and, or_false, false_or, not_true_eq_false, not_false_eq_true, ite_self, ↓reduceIte, q, ha, ha2, c1, c2, l0, l1, ih]
theorem At2_get {f g : Nat → Nat} {l : List (Nat × Nat)} (h : At2 f g l) (h1 : ∀ e ∈ l, 1 ≤ e.2) : ∀ i e, l[i]? = some e → f i = e.1 ∧ g i = e.2 := fun i e he => by
  obtain ⟨a, b⟩ := h i e he
  exact ⟨a, b (by have := h1 e (List.mem_of_getElem? he); omega)⟩
theorem s_mAddHouse {S : aSt} {g : Nat} (hM : MAt Z) (hO : MO N S g) (hl : S.2.2.length ≤ 60) (hx : ∀ x ∈ S.2.2, x < 1000) :
    MR Z L c N g (ex 151 0 [some (.ref 144), none, none] [] (Z, iN N, L, c)) (oAdd S) := by
  obtain ⟨⟨R, q⟩, sv, tx⟩ := S
  obtain ⟨N0, hN0⟩ : ∃ N0, N0 = up2 N 144 11 0 := ⟨_, rfl⟩
  have hO0 := MO_thr (j := 11) (v := 0) hO (by omega)
  rw [← hN0] at hO0
  dsimp only at hl hx
  have h10 : N0 144 10 = tx.length := hO0.1.2.2.2.1
  have h11 : N0 144 11 = 0 := by rw [hN0]; exact up2_e ⟨rfl, rfl⟩
  obtain ⟨N1, t1, t2, t3⟩ := s_mReadHouse (L := L) (c := c) hM hl h10 hO0.1.2.2.2.2 hx
  have hO1 : MO N1 ((R, q), sv, tx) g := ⟨TF_MV hO0.1 t3, hO0.2⟩
  have h110 : N1 144 10 = tx.length := by rw [t3.2 10 (by omega) (by omega)]; exact h10
  have hF : ∀ k, MR Z L c N g (some (.inl (some (.int (nI 0))), (Z, iN (up2 N1 144 11 k), L, c))) (k, 0, (R, q), sv, tx) := fun k =>
    ⟨_, rfl, up2_e ⟨rfl, rfl⟩, MV_le (MV_thr hO1.1 (by omega)), fun a ha => by rw [up144 (by omega), t3.1 a (by omega) (by omega) (by omega), hN0, up144 (by omega)]⟩
  unfold oAdd
  dsimp only
  rw [r_X8_addHouse_0, r_X8_addHouse_1, r_X8_addHouse_2, if_pos hM.1.1, iN_up, ← hN0]
  obtain ⟨p1, p2⟩ := pF_le (f := hS) tx (0, [])
  change (pH tx).1 ≤ tx.length at p1
  change (pH tx).1 = tx.length ↔ (pH tx).2.isSome = true at p2
  cases hp : (pH tx).2 with
  | none =>
    have q1 : (pH tx).1 < tx.length := by
      rw [hp] at p2
      have : ¬ (pH tx).1 = tx.length := fun w => by cases p2.mp w
      omega
    dsimp only
    simp (disch := omega) only [r_X8_addHouse_5, r_X8_addHouse_6, r_X8_addHouse_7, r_X8_addHouse_10, r_X8_addHouse_11, r_X8_addHouse_14, r_X8_addHouse_17, r_X8_addHouse_18, r_X8_addHouse_21, r_X8_addHouse_22, r_X8_addHouse_25, r_X8_addHouse_26, r_X8_addHouse_27, r_X8_addHouse_30, r_X8_addHouse_31, r_X8_addHouse_32, r_X8_addHouse_35, r_X8_addHouse_36, r_X8_addHouse_37, r_X8_addHouse_39, r_X8_addHouse_42, r_X8_addHouse_43, r_X8_addHouse_44, r_X8_addHouse_47, r_X8_addHouse_48, r_X8_addHouse_49, r_X8_addHouse_52, r_X8_addHouse_53, r_X8_addHouse_56, r_X8_addHouse_57, r_X8_addHouse_58, r_X8_addHouse_59, r_X8_addHouse_60, r_X8_addHouse_63, r_X8_addHouse_65, r_X8_addHouse_66, r_X8_addHouse_67, r_X8_addHouse_68, r_X8_addHouse_71, r_X8_addHouse_72, r_X8_addHouse_73, r_X8_addHouse_74, r_X8_addHouse_75, r_X8_addHouse_76, r_X8_addHouse_77, r_X8_addHouse_78, r_X8_addHouse_81, r_X8_addHouse_84, r_X8_addHouse_85, r_X8_addHouse_86, r_X8_addHouse_87, r_X8_addHouse_90, r_X8_addHouse_91, r_X8_addHouse_92, r_X8_addHouse_95, r_X8_addHouse_96, r_X8_addHouse_97, r_X8_addHouse_100, r_X8_addHouse_101, r_X8_addHouse_102, r_X8_addHouse_103, r_X8_addHouse_106, r_X8_addHouse_107, r_X8_addHouse_108, r_X8_addHouse_111, r_X8_addHouse_112, r_X8_addHouse_113, r_X8_addHouse_116, r_X8_addHouse_119, r_X8_addHouse_122, r_X8_addHouse_123, r_X8_addHouse_126, r_X8_addHouse_127, r_X8_addHouse_128, r_X8_addHouse_129, r_X8_addHouse_130, r_X8_addHouse_131, r_X8_addHouse_132, r_X8_addHouse_133, r_X8_addHouse_134, r_X8_addHouse_137, r_X8_addHouse_138, hM.1.1, @id (Z.2.2.1 144 0 = .ref 145) hM.1.2.1, @id (Z.2.2.1 144 1 = .ref 146) hM.1.2.2.1, @id (Z.2.2.1 144 2 = .ref 147) hM.1.2.2.2.1, @id (Z.2.2.1 144 3 = .ref 148) hM.1.2.2.2.2.1, @id (Z.2.2.1 144 4 = .ref 149) hM.1.2.2.2.2.2.1, @id (Z.2.2.1 144 5 = .ref 150) hM.1.2.2.2.2.2.2.1, @id (Z.2.2.1 144 6 = .ref 151) hM.1.2.2.2.2.2.2.2, @id (Z.1 145 = 0) hM.2.1.1, @id (Z.1 146 = 0) hM.2.1.2.1, @id (Z.1 147 = 0) hM.2.1.2.2.1, @id (Z.1 148 = 0) hM.2.1.2.2.2.1, @id (Z.1 149 = 0) hM.2.1.2.2.2.2.1, @id (Z.1 150 = 0) hM.2.1.2.2.2.2.2.1, @id (Z.1 151 = 0) hM.2.1.2.2.2.2.2.2, @id (Z.2.1 145 = 667) hM.2.2.1, @id (Z.2.1 146 = 667) hM.2.2.2.1, @id (Z.2.1 147 = 4002) hM.2.2.2.2.1, @id (Z.2.1 148 = 60) hM.2.2.2.2.2.1, @id (Z.2.1 149 = 32) hM.2.2.2.2.2.2.1, @id (Z.2.1 150 = 32) hM.2.2.2.2.2.2.2.1, @id (Z.2.1 151 = 36) hM.2.2.2.2.2.2.2.2, up2_o, up2_e, iN_ap, iN_up, i_ix, i_inb, i_lt, i_lt0, i_0lt, i_eq, i_ne0, i_00, i_11, i_01, i_10, i_b, i_rem2, n_rem, i_add, i_mul, i_sub, i_div, i_max, i_min, rdk_0, rdk_3, kp_none, kp_int, kp_ref, kp_long, kp_double, aK_v, aK_0, aK_ite, if_true, if_false, and_self, and_true, true_and, or_false, false_or, not_true_eq_false, not_false_eq_true, ite_self, ↓reduceIte, t1, h110, q1, s_mFails hM]
    exact hF 1
  | some s =>
    have q1 : ¬ (pH tx).1 < tx.length := by
      rw [hp] at p2
      have := p2.mpr rfl
      omega
    have hm := t2 s hp
    have hb := pH_HB tx _ _ HB_0 hp
    obtain ⟨e1, e2⟩ := hEnd_3 hm hb
    dsimp only
    by_cases he : hEnd s = true
    · rw [if_pos he]
      have e3 : (nI (N1 144 8) = nI 3) = True := eq_true (by rw [e2.mpr he])
      obtain ⟨B, o, hk, hog⟩ := MK_of hO1
      dsimp only at hk
      have h0 : N1 145 0 = R 0 1 := hk.1.1.1
      have r0 := hk.2.1.1.1.1
      by_cases q2 : R 0 1 = 6
      · rw [if_pos q2]
        simp (disch := omega) only [r_X8_addHouse_5, r_X8_addHouse_6, r_X8_addHouse_7, r_X8_addHouse_10, r_X8_addHouse_11, r_X8_addHouse_14, r_X8_addHouse_17, r_X8_addHouse_18, r_X8_addHouse_21, r_X8_addHouse_22, r_X8_addHouse_25, r_X8_addHouse_26, r_X8_addHouse_27, r_X8_addHouse_30, r_X8_addHouse_31, r_X8_addHouse_32, r_X8_addHouse_35, r_X8_addHouse_36, r_X8_addHouse_37, r_X8_addHouse_39, r_X8_addHouse_42, r_X8_addHouse_43, r_X8_addHouse_44, r_X8_addHouse_47, r_X8_addHouse_48, r_X8_addHouse_49, r_X8_addHouse_52, r_X8_addHouse_53, r_X8_addHouse_56, r_X8_addHouse_57, r_X8_addHouse_58, r_X8_addHouse_59, r_X8_addHouse_60, r_X8_addHouse_63, r_X8_addHouse_65, r_X8_addHouse_66, r_X8_addHouse_67, r_X8_addHouse_68, r_X8_addHouse_71, r_X8_addHouse_72, r_X8_addHouse_73, r_X8_addHouse_74, r_X8_addHouse_75, r_X8_addHouse_76, r_X8_addHouse_77, r_X8_addHouse_78, r_X8_addHouse_81, r_X8_addHouse_84, r_X8_addHouse_85, r_X8_addHouse_86, r_X8_addHouse_87, r_X8_addHouse_90, r_X8_addHouse_91, r_X8_addHouse_92, r_X8_addHouse_95, r_X8_addHouse_96, r_X8_addHouse_97, r_X8_addHouse_100, r_X8_addHouse_101, r_X8_addHouse_102, r_X8_addHouse_103, r_X8_addHouse_106, r_X8_addHouse_107, r_X8_addHouse_108, r_X8_addHouse_111, r_X8_addHouse_112, r_X8_addHouse_113, r_X8_addHouse_116, r_X8_addHouse_119, r_X8_addHouse_122, r_X8_addHouse_123, r_X8_addHouse_126, r_X8_addHouse_127, r_X8_addHouse_128, r_X8_addHouse_129, r_X8_addHouse_130, r_X8_addHouse_131, r_X8_addHouse_132, r_X8_addHouse_133, r_X8_addHouse_134, r_X8_addHouse_137, r_X8_addHouse_138, hM.1.1, @id (Z.2.2.1 144 0 = .ref 145) hM.1.2.1, @id (Z.2.2.1 144 1 = .ref 146) hM.1.2.2.1, @id (Z.2.2.1 144 2 = .ref 147) hM.1.2.2.2.1, @id (Z.2.2.1 144 3 = .ref 148) hM.1.2.2.2.2.1, @id (Z.2.2.1 144 4 = .ref 149) hM.1.2.2.2.2.2.1, @id (Z.2.2.1 144 5 = .ref 150) hM.1.2.2.2.2.2.2.1, @id (Z.2.2.1 144 6 = .ref 151) hM.1.2.2.2.2.2.2.2, @id (Z.1 145 = 0) hM.2.1.1, @id (Z.1 146 = 0) hM.2.1.2.1, @id (Z.1 147 = 0) hM.2.1.2.2.1, @id (Z.1 148 = 0) hM.2.1.2.2.2.1, @id (Z.1 149 = 0) hM.2.1.2.2.2.2.1, @id (Z.1 150 = 0) hM.2.1.2.2.2.2.2.1, @id (Z.1 151 = 0) hM.2.1.2.2.2.2.2.2, @id (Z.2.1 145 = 667) hM.2.2.1, @id (Z.2.1 146 = 667) hM.2.2.2.1, @id (Z.2.1 147 = 4002) hM.2.2.2.2.1, @id (Z.2.1 148 = 60) hM.2.2.2.2.2.1, @id (Z.2.1 149 = 32) hM.2.2.2.2.2.2.1, @id (Z.2.1 150 = 32) hM.2.2.2.2.2.2.2.1, @id (Z.2.1 151 = 36) hM.2.2.2.2.2.2.2.2, up2_o, up2_e, iN_ap, iN_up, i_ix, i_inb, i_lt, i_lt0, i_0lt, i_eq, i_ne0, i_00, i_11, i_01, i_10, i_b, i_rem2, n_rem, i_add, i_mul, i_sub, i_div, i_max, i_min, rdk_0, rdk_3, kp_none, kp_int, kp_ref, kp_long, kp_double, aK_v, aK_0, aK_ite, if_true, if_false, and_self, and_true, true_and, or_false, false_or, not_true_eq_false, not_false_eq_true, ite_self, ↓reduceIte, t1, h110, q1, e3, h0, q2, s_mFails hM]
        exact hF 2
      · rw [if_neg q2]
        obtain ⟨a1, a2, a3, a4⟩ := hEnd_all hb he
        obtain ⟨N2, s1, s2, s3, s4⟩ := s_mSave (L := L) (c := c) hM hO1.1 hO1.2.2.2.1
        have h20 : N2 145 0 = R 0 1 := by rw [s4 145 (by omega) (by omega)]; exact h0
        have n7 : N2 144 7 + 1 = s.2.length := by rw [s3 7 (by omega)]; exact hm.2.2.1 (by omega)
        have z0 : MZ (N2 145) R B o := by rw [s4 145 (by omega) (by omega)]; exact hk.1
        have z1 := MZ_w3 (m := R 0 1) (v := N2 144 7 + 1) z0 (by omega)
        have hg := At2_get hm.1 (fun e he => (a4 e (List.mem_reverse.mp he)).1)
        obtain ⟨N3, l1, l2, l3⟩ := s_mAdd_loop (L := L) (c := c) hM (show R 0 1 < 6 by omega) a3 s.2.reverse 0 (up2 N2 145 (85 + R 0 1) (N2 144 7 + 1)) _ (by simp) (by rw [up145 (by omega)]; exact n7) (fun i e he => by
          rw [Nat.zero_add, up145 (by omega), up145 (by omega), s4 149 (by omega) (by omega), s4 150 (by omega) (by omega)]
          exact hg i e he) z1
        have h30 : N3 145 0 = R 0 1 := by
          rw [l2.1.1, ahX_o (by omega) (by omega), up2_o (by omega)]
        have z3 := MZ_w01 (v := R 0 1 + 1) l2
        rw [ahX_3, n7, ← List.length_reverse] at z3
        refine ⟨up2 (up2 N3 145 0 (R 0 1 + 1)) 144 10 0, ?_, ?_, ?_, fun a ha => ?_⟩
        · simp (disch := omega) only [r_X8_addHouse_5, r_X8_addHouse_6, r_X8_addHouse_7, r_X8_addHouse_10, r_X8_addHouse_11, r_X8_addHouse_14, r_X8_addHouse_17, r_X8_addHouse_18, r_X8_addHouse_21, r_X8_addHouse_22, r_X8_addHouse_25, r_X8_addHouse_26, r_X8_addHouse_27, r_X8_addHouse_30, r_X8_addHouse_31, r_X8_addHouse_32, r_X8_addHouse_35, r_X8_addHouse_36, r_X8_addHouse_37, r_X8_addHouse_39, r_X8_addHouse_42, r_X8_addHouse_43, r_X8_addHouse_44, r_X8_addHouse_47, r_X8_addHouse_48, r_X8_addHouse_49, r_X8_addHouse_52, r_X8_addHouse_53, r_X8_addHouse_56, r_X8_addHouse_57, r_X8_addHouse_58, r_X8_addHouse_59, r_X8_addHouse_60, r_X8_addHouse_63, r_X8_addHouse_65, r_X8_addHouse_66, r_X8_addHouse_67, r_X8_addHouse_68, r_X8_addHouse_71, r_X8_addHouse_72, r_X8_addHouse_73, r_X8_addHouse_74, r_X8_addHouse_75, hM.1.1, @id (Z.2.2.1 144 0 = .ref 145) hM.1.2.1, @id (Z.2.2.1 144 1 = .ref 146) hM.1.2.2.1, @id (Z.2.2.1 144 2 = .ref 147) hM.1.2.2.2.1, @id (Z.2.2.1 144 3 = .ref 148) hM.1.2.2.2.2.1, @id (Z.2.2.1 144 4 = .ref 149) hM.1.2.2.2.2.2.1, @id (Z.2.2.1 144 5 = .ref 150) hM.1.2.2.2.2.2.2.1, @id (Z.2.2.1 144 6 = .ref 151) hM.1.2.2.2.2.2.2.2, @id (Z.1 145 = 0) hM.2.1.1, @id (Z.1 146 = 0) hM.2.1.2.1, @id (Z.1 147 = 0) hM.2.1.2.2.1, @id (Z.1 148 = 0) hM.2.1.2.2.2.1, @id (Z.1 149 = 0) hM.2.1.2.2.2.2.1, @id (Z.1 150 = 0) hM.2.1.2.2.2.2.2.1, @id (Z.1 151 = 0) hM.2.1.2.2.2.2.2.2, @id (Z.2.1 145 = 667) hM.2.2.1, @id (Z.2.1 146 = 667) hM.2.2.2.1, @id (Z.2.1 147 = 4002) hM.2.2.2.2.1, @id (Z.2.1 148 = 60) hM.2.2.2.2.2.1, @id (Z.2.1 149 = 32) hM.2.2.2.2.2.2.1, @id (Z.2.1 150 = 32) hM.2.2.2.2.2.2.2.1, @id (Z.2.1 151 = 36) hM.2.2.2.2.2.2.2.2, up2_o, up2_e, iN_ap, iN_up, i_ix, i_inb, i_lt, i_lt0, i_0lt, i_eq, i_ne0, i_00, i_11, i_01, i_10, i_b, i_rem2, n_rem, i_add, i_mul, i_sub, i_div, i_max, i_min, rdk_0, rdk_3, kp_none, kp_int, kp_ref, kp_long, kp_double, aK_v, aK_0, aK_ite, if_true, if_false, and_self, and_true, true_and, or_false, false_or, not_true_eq_false, not_false_eq_true, ite_self, ↓reduceIte, t1, h110, q1, e3, h0, i_eq, q2, s1, h20, l1]
          simp (disch := omega) only [r_X8_addHouse_122, r_X8_addHouse_123, r_X8_addHouse_126, r_X8_addHouse_127, r_X8_addHouse_128, r_X8_addHouse_129, r_X8_addHouse_130, r_X8_addHouse_131, r_X8_addHouse_132, r_X8_addHouse_133, r_X8_addHouse_134, r_X8_addHouse_137, r_X8_addHouse_138, hM.1.1, @id (Z.2.2.1 144 0 = .ref 145) hM.1.2.1, @id (Z.2.2.1 144 1 = .ref 146) hM.1.2.2.1, @id (Z.2.2.1 144 2 = .ref 147) hM.1.2.2.2.1, @id (Z.2.2.1 144 3 = .ref 148) hM.1.2.2.2.2.1, @id (Z.2.2.1 144 4 = .ref 149) hM.1.2.2.2.2.2.1, @id (Z.2.2.1 144 5 = .ref 150) hM.1.2.2.2.2.2.2.1, @id (Z.2.2.1 144 6 = .ref 151) hM.1.2.2.2.2.2.2.2, @id (Z.1 145 = 0) hM.2.1.1, @id (Z.1 146 = 0) hM.2.1.2.1, @id (Z.1 147 = 0) hM.2.1.2.2.1, @id (Z.1 148 = 0) hM.2.1.2.2.2.1, @id (Z.1 149 = 0) hM.2.1.2.2.2.2.1, @id (Z.1 150 = 0) hM.2.1.2.2.2.2.2.1, @id (Z.1 151 = 0) hM.2.1.2.2.2.2.2.2, @id (Z.2.1 145 = 667) hM.2.2.1, @id (Z.2.1 146 = 667) hM.2.2.2.1, @id (Z.2.1 147 = 4002) hM.2.2.2.2.1, @id (Z.2.1 148 = 60) hM.2.2.2.2.2.1, @id (Z.2.1 149 = 32) hM.2.2.2.2.2.2.1, @id (Z.2.1 150 = 32) hM.2.2.2.2.2.2.2.1, @id (Z.2.1 151 = 36) hM.2.2.2.2.2.2.2.2, up2_o, up2_e, iN_ap, iN_up, i_ix, i_inb, i_lt, i_lt0, i_0lt, i_eq, i_ne0, i_00, i_11, i_01, i_10, i_b, i_rem2, n_rem, i_add, i_mul, i_sub, i_div, i_max, i_min, rdk_0, rdk_3, kp_none, kp_int, kp_ref, kp_long, kp_double, aK_v, aK_0, aK_ite, if_true, if_false, and_self, and_true, true_and, or_false, false_or, not_true_eq_false, not_false_eq_true, ite_self, ↓reduceIte, h30]
        · rw [up2_o (by omega), up145 (by omega), l3 144 (by omega), up145 (by omega), s3 11 (by omega), t3.2 11 (by omega) (by omega), h11]
        · refine ⟨⟨B, o, ?_, hk.2.2.1, by omega⟩, ?_, fun k s' hk' => ?_, up2_e ⟨rfl, rfl⟩, fun i x h => by simp at h⟩
          · rw [up144 (by omega)]
            exact z3
          · rw [up2_o (by omega), up145 (by omega), l3 144 (by omega), up145 (by omega)]
            exact s2.2.1
          · rw [up144 (by omega), up145 (by omega), l3 147 (by omega), up145 (by omega)]
            exact MS_le (s2.2.2.1 k s' hk') (by omega)
        · rw [up144 (by omega), up145 (by omega), l3 a (by omega), up145 (by omega), s4 a (by omega) (by omega), t3.1 a (by omega) (by omega) (by omega), hN0, up144 (by omega)]
    · rw [if_neg he]
      have e3 : (nI (N1 144 8) = nI 3) = False := by rw [i_eq (by omega) (by omega)]; exact eq_false (fun w => he (e2.mp w))
      simp (disch := omega) only [r_X8_addHouse_5, r_X8_addHouse_6, r_X8_addHouse_7, r_X8_addHouse_10, r_X8_addHouse_11, r_X8_addHouse_14, r_X8_addHouse_17, r_X8_addHouse_18, r_X8_addHouse_21, r_X8_addHouse_22, r_X8_addHouse_25, r_X8_addHouse_26, r_X8_addHouse_27, r_X8_addHouse_30, r_X8_addHouse_31, r_X8_addHouse_32, r_X8_addHouse_35, r_X8_addHouse_36, r_X8_addHouse_37, r_X8_addHouse_39, r_X8_addHouse_42, r_X8_addHouse_43, r_X8_addHouse_44, r_X8_addHouse_47, r_X8_addHouse_48, r_X8_addHouse_49, r_X8_addHouse_52, r_X8_addHouse_53, r_X8_addHouse_56, r_X8_addHouse_57, r_X8_addHouse_58, r_X8_addHouse_59, r_X8_addHouse_60, r_X8_addHouse_63, r_X8_addHouse_65, r_X8_addHouse_66, r_X8_addHouse_67, r_X8_addHouse_68, r_X8_addHouse_71, r_X8_addHouse_72, r_X8_addHouse_73, r_X8_addHouse_74, r_X8_addHouse_75, r_X8_addHouse_76, r_X8_addHouse_77, r_X8_addHouse_78, r_X8_addHouse_81, r_X8_addHouse_84, r_X8_addHouse_85, r_X8_addHouse_86, r_X8_addHouse_87, r_X8_addHouse_90, r_X8_addHouse_91, r_X8_addHouse_92, r_X8_addHouse_95, r_X8_addHouse_96, r_X8_addHouse_97, r_X8_addHouse_100, r_X8_addHouse_101, r_X8_addHouse_102, r_X8_addHouse_103, r_X8_addHouse_106, r_X8_addHouse_107, r_X8_addHouse_108, r_X8_addHouse_111, r_X8_addHouse_112, r_X8_addHouse_113, r_X8_addHouse_116, r_X8_addHouse_119, r_X8_addHouse_122, r_X8_addHouse_123, r_X8_addHouse_126, r_X8_addHouse_127, r_X8_addHouse_128, r_X8_addHouse_129, r_X8_addHouse_130, r_X8_addHouse_131, r_X8_addHouse_132, r_X8_addHouse_133, r_X8_addHouse_134, r_X8_addHouse_137, r_X8_addHouse_138, hM.1.1, @id (Z.2.2.1 144 0 = .ref 145) hM.1.2.1, @id (Z.2.2.1 144 1 = .ref 146) hM.1.2.2.1, @id (Z.2.2.1 144 2 = .ref 147) hM.1.2.2.2.1, @id (Z.2.2.1 144 3 = .ref 148) hM.1.2.2.2.2.1, @id (Z.2.2.1 144 4 = .ref 149) hM.1.2.2.2.2.2.1, @id (Z.2.2.1 144 5 = .ref 150) hM.1.2.2.2.2.2.2.1, @id (Z.2.2.1 144 6 = .ref 151) hM.1.2.2.2.2.2.2.2, @id (Z.1 145 = 0) hM.2.1.1, @id (Z.1 146 = 0) hM.2.1.2.1, @id (Z.1 147 = 0) hM.2.1.2.2.1, @id (Z.1 148 = 0) hM.2.1.2.2.2.1, @id (Z.1 149 = 0) hM.2.1.2.2.2.2.1, @id (Z.1 150 = 0) hM.2.1.2.2.2.2.2.1, @id (Z.1 151 = 0) hM.2.1.2.2.2.2.2.2, @id (Z.2.1 145 = 667) hM.2.2.1, @id (Z.2.1 146 = 667) hM.2.2.2.1, @id (Z.2.1 147 = 4002) hM.2.2.2.2.1, @id (Z.2.1 148 = 60) hM.2.2.2.2.2.1, @id (Z.2.1 149 = 32) hM.2.2.2.2.2.2.1, @id (Z.2.1 150 = 32) hM.2.2.2.2.2.2.2.1, @id (Z.2.1 151 = 36) hM.2.2.2.2.2.2.2.2, up2_o, up2_e, iN_ap, iN_up, i_ix, i_inb, i_lt, i_lt0, i_0lt, i_eq, i_ne0, i_00, i_11, i_01, i_10, i_b, i_rem2, n_rem, i_add, i_mul, i_sub, i_div, i_max, i_min, rdk_0, rdk_3, kp_none, kp_int, kp_ref, kp_long, kp_double, aK_v, aK_0, aK_ite, if_true, if_false, and_self, and_true, true_and, or_false, false_or, not_true_eq_false, not_false_eq_true, ite_self, ↓reduceIte, t1, h110, q1, e3, s_mFails hM]
      exact hF 1
theorem s_mTot {b n : Nat} (hM : MAt Z) (hn : n ≤ 31) : ∀ (ls : List (Nat × Nat)) (k s : Nat), k + ls.length = n → N 144 7 + 1 = n → (∀ i e, ls[i]? = some e → N 150 (k + i) = e.2) → s ≤ 60 * k → (∀ e ∈ ls, e.2 ≤ 60) →
    ex 152 53 [some (.ref 144), some (.int (nI b)), some (.int (nI s)), some (.int (nI k)), none, none] [] (Z, iN N, L, c) = ex 152 76 [some (.ref 144), some (.int (nI b)), some (.int (nI (s + tot ls))), some (.int (nI n)), none, none] [] (Z, iN N, L, c)
  | [], k, s, h1, h7, _, _, _ => by
    have e : k = n := by simpa using h1
    subst e
    have q : N 144 7 < k := by omega
    have e0 : s + tot [] = s := rfl
    rw [e0, r_X8_setWinds_53]
    simp (disch := omega) only [r_X8_setWinds_54, r_X8_setWinds_55, r_X8_setWinds_58, r_X8_setWinds_61, r_X8_setWinds_62, r_X8_setWinds_63, r_X8_setWinds_66, r_X8_setWinds_67, r_X8_setWinds_68, r_X8_setWinds_69, r_X8_setWinds_70, r_X8_setWinds_73, hM.1.1, @id (Z.2.2.1 144 0 = .ref 145) hM.1.2.1, @id (Z.2.2.1 144 1 = .ref 146) hM.1.2.2.1, @id (Z.2.2.1 144 2 = .ref 147) hM.1.2.2.2.1, @id (Z.2.2.1 144 3 = .ref 148) hM.1.2.2.2.2.1, @id (Z.2.2.1 144 4 = .ref 149) hM.1.2.2.2.2.2.1, @id (Z.2.2.1 144 5 = .ref 150) hM.1.2.2.2.2.2.2.1, @id (Z.2.2.1 144 6 = .ref 151) hM.1.2.2.2.2.2.2.2, @id (Z.1 145 = 0) hM.2.1.1, @id (Z.1 146 = 0) hM.2.1.2.1, @id (Z.1 147 = 0) hM.2.1.2.2.1, @id (Z.1 148 = 0) hM.2.1.2.2.2.1, @id (Z.1 149 = 0) hM.2.1.2.2.2.2.1, @id (Z.1 150 = 0) hM.2.1.2.2.2.2.2.1, @id (Z.1 151 = 0) hM.2.1.2.2.2.2.2.2, @id (Z.2.1 145 = 667) hM.2.2.1, @id (Z.2.1 146 = 667) hM.2.2.2.1, @id (Z.2.1 147 = 4002) hM.2.2.2.2.1, @id (Z.2.1 148 = 60) hM.2.2.2.2.2.1, @id (Z.2.1 149 = 32) hM.2.2.2.2.2.2.1, @id (Z.2.1 150 = 32) hM.2.2.2.2.2.2.2.1, @id (Z.2.1 151 = 36) hM.2.2.2.2.2.2.2.2, up2_o, up2_e, iN_ap, iN_up, i_ix, i_inb, i_lt, i_lt0, i_0lt, i_eq, i_ne0, i_00, i_11, i_01, i_10, i_b, i_rem2, n_rem, i_add, i_mul, i_sub, i_div, i_max, i_min, rdk_0, rdk_3, kp_none, kp_int, kp_ref, kp_long, kp_double, aK_v, aK_0, aK_ite, if_true, if_false, and_self, and_true, true_and, or_false, false_or, not_true_eq_false, not_false_eq_true, ite_self, ↓reduceIte, q]
  | e :: ls, k, s, h1, h7, hc, hs, h60 => by
    have hk : k < n := by simp at h1; omega
    have c2 := hc 0 e rfl
    rw [Nat.add_zero] at c2
    have q : ¬ N 144 7 < k := by omega
    have ih := s_mTot (b := b) hM hn ls (k + 1) (s + e.2) (by simp at h1; omega) h7 (fun i e' he => by
      rw [show k + 1 + i = k + (i + 1) by omega]
      exact hc (i + 1) e' he) (by have := h60 e List.mem_cons_self; omega) (fun e' he => h60 e' (List.mem_cons_of_mem _ he))
    have e0 : s + tot (e :: ls) = s + e.2 + tot ls := by
      show s + (e.2 + tot ls) = _
      omega
    rw [e0, ← ih, r_X8_setWinds_53]
    simp (disch := omega) only [r_X8_setWinds_54, r_X8_setWinds_55, r_X8_setWinds_58, r_X8_setWinds_61, r_X8_setWinds_62, r_X8_setWinds_63, r_X8_setWinds_66, r_X8_setWinds_67, r_X8_setWinds_68, r_X8_setWinds_69, r_X8_setWinds_70, r_X8_setWinds_73, hM.1.1, @id (Z.2.2.1 144 0 = .ref 145) hM.1.2.1, @id (Z.2.2.1 144 1 = .ref 146) hM.1.2.2.1, @id (Z.2.2.1 144 2 = .ref 147) hM.1.2.2.2.1, @id (Z.2.2.1 144 3 = .ref 148) hM.1.2.2.2.2.1, @id (Z.2.2.1 144 4 = .ref 149) hM.1.2.2.2.2.2.1, @id (Z.2.2.1 144 5 = .ref 150) hM.1.2.2.2.2.2.2.1, @id (Z.2.2.1 144 6 = .ref 151) hM.1.2.2.2.2.2.2.2, @id (Z.1 145 = 0) hM.2.1.1, @id (Z.1 146 = 0) hM.2.1.2.1, @id (Z.1 147 = 0) hM.2.1.2.2.1, @id (Z.1 148 = 0) hM.2.1.2.2.2.1, @id (Z.1 149 = 0) hM.2.1.2.2.2.2.1, @id (Z.1 150 = 0) hM.2.1.2.2.2.2.2.1, @id (Z.1 151 = 0) hM.2.1.2.2.2.2.2.2, @id (Z.2.1 145 = 667) hM.2.2.1, @id (Z.2.1 146 = 667) hM.2.2.2.1, @id (Z.2.1 147 = 4002) hM.2.2.2.2.1, @id (Z.2.1 148 = 60) hM.2.2.2.2.2.1, @id (Z.2.1 149 = 32) hM.2.2.2.2.2.2.1, @id (Z.2.1 150 = 32) hM.2.2.2.2.2.2.2.1, @id (Z.2.1 151 = 36) hM.2.2.2.2.2.2.2.2, up2_o, up2_e, iN_ap, iN_up, i_ix, i_inb, i_lt, i_lt0, i_0lt, i_eq, i_ne0, i_00, i_11, i_01, i_10, i_b, i_rem2, n_rem, i_add, i_mul, i_sub, i_div, i_max, i_min, rdk_0, rdk_3, kp_none, kp_int, kp_ref, kp_long, kp_double, aK_v, aK_0, aK_ite, if_true, if_false, and_self, and_true, true_and, or_false, false_or, not_true_eq_false, not_false_eq_true, ite_self, ↓reduceIte, q, c2]
theorem s_mSw_in {b tt i v t n : Nat} {B : Nat → Nat} {o : Nat} (hM : MAt Z) (hi : i < n) (hn : n ≤ 31) : ∀ (k p j : Nat) (N : Nat → Nat → Nat) (R : aY), j + k = t → p + k ≤ 60 → t ≤ 60 → N 149 i = v → N 150 i = t → MZ (N 145) R B o →
    ∃ N', ex 152 109 [some (.ref 144), some (.int (nI b)), some (.int (nI tt)), some (.int (nI p)), some (.int (nI i)), some (.int (nI j))] [] (Z, iN N, L, c) = ex 152 145 [some (.ref 144), some (.int (nI b)), some (.int (nI tt)), some (.int (nI (p + k))), some (.int (nI i)), some (.int (nI t))] [] (Z, iN N', L, c) ∧ MZ (N' 145) (skX v k p R) B o ∧ ∀ a, a ≠ 145 → N' a = N a
  | 0, p, j, N, R, hj, hp, ht, h1, h2, hz => by
    have e : j = t := by omega
    subst e
    refine ⟨N, ?_, hz, fun _ _ => rfl⟩
    rw [r_X8_setWinds_109]
    simp (disch := omega) only [r_X8_setWinds_111, r_X8_setWinds_112, r_X8_setWinds_115, r_X8_setWinds_117, r_X8_setWinds_118, r_X8_setWinds_121, r_X8_setWinds_122, r_X8_setWinds_125, r_X8_setWinds_126, r_X8_setWinds_127, r_X8_setWinds_128, r_X8_setWinds_129, r_X8_setWinds_132, r_X8_setWinds_134, r_X8_setWinds_135, r_X8_setWinds_136, r_X8_setWinds_139, r_X8_setWinds_142, hM.1.1, @id (Z.2.2.1 144 0 = .ref 145) hM.1.2.1, @id (Z.2.2.1 144 1 = .ref 146) hM.1.2.2.1, @id (Z.2.2.1 144 2 = .ref 147) hM.1.2.2.2.1, @id (Z.2.2.1 144 3 = .ref 148) hM.1.2.2.2.2.1, @id (Z.2.2.1 144 4 = .ref 149) hM.1.2.2.2.2.2.1, @id (Z.2.2.1 144 5 = .ref 150) hM.1.2.2.2.2.2.2.1, @id (Z.2.2.1 144 6 = .ref 151) hM.1.2.2.2.2.2.2.2, @id (Z.1 145 = 0) hM.2.1.1, @id (Z.1 146 = 0) hM.2.1.2.1, @id (Z.1 147 = 0) hM.2.1.2.2.1, @id (Z.1 148 = 0) hM.2.1.2.2.2.1, @id (Z.1 149 = 0) hM.2.1.2.2.2.2.1, @id (Z.1 150 = 0) hM.2.1.2.2.2.2.2.1, @id (Z.1 151 = 0) hM.2.1.2.2.2.2.2.2, @id (Z.2.1 145 = 667) hM.2.2.1, @id (Z.2.1 146 = 667) hM.2.2.2.1, @id (Z.2.1 147 = 4002) hM.2.2.2.2.1, @id (Z.2.1 148 = 60) hM.2.2.2.2.2.1, @id (Z.2.1 149 = 32) hM.2.2.2.2.2.2.1, @id (Z.2.1 150 = 32) hM.2.2.2.2.2.2.2.1, @id (Z.2.1 151 = 36) hM.2.2.2.2.2.2.2.2, up2_o, up2_e, iN_ap, iN_up, i_ix, i_inb, i_lt, i_lt0, i_0lt, i_eq, i_ne0, i_00, i_11, i_01, i_10, i_b, i_rem2, n_rem, i_add, i_mul, i_sub, i_div, i_max, i_min, rdk_0, rdk_3, kp_none, kp_int, kp_ref, kp_long, kp_double, aK_v, aK_0, aK_ite, if_true, if_false, and_self, and_true, true_and, or_false, false_or, not_true_eq_false, not_false_eq_true, ite_self, ↓reduceIte, h2, Nat.lt_irrefl, Nat.add_zero]
  | k + 1, p, j, N, R, hj, hp, ht, h1, h2, hz => by
    have e : j < t := by omega
    obtain ⟨N', ih, h3, h4⟩ := s_mSw_in (b := b) (tt := tt) (v := v) (t := t) hM hi hn k (p + 1) (j + 1) (up2 N 145 (4 + p) v) (up2 R 1 p v) (by omega) (by omega) ht (by rw [up145 (by omega)]; exact h1) (by rw [up145 (by omega)]; exact h2) (MZ_w1 hz (by omega))
    refine ⟨N', ?_, h3, fun a ha => (h4 a ha).trans (up145 ha)⟩
    rw [show p + 1 + k = p + (k + 1) by omega] at ih
    rw [r_X8_setWinds_109]
    simp (disch := omega) only [r_X8_setWinds_111, r_X8_setWinds_112, r_X8_setWinds_115, r_X8_setWinds_117, r_X8_setWinds_118, r_X8_setWinds_121, r_X8_setWinds_122, r_X8_setWinds_125, r_X8_setWinds_126, r_X8_setWinds_127, r_X8_setWinds_128, r_X8_setWinds_129, r_X8_setWinds_132, r_X8_setWinds_134, r_X8_setWinds_135, r_X8_setWinds_136, r_X8_setWinds_139, r_X8_setWinds_142, hM.1.1, @id (Z.2.2.1 144 0 = .ref 145) hM.1.2.1, @id (Z.2.2.1 144 1 = .ref 146) hM.1.2.2.1, @id (Z.2.2.1 144 2 = .ref 147) hM.1.2.2.2.1, @id (Z.2.2.1 144 3 = .ref 148) hM.1.2.2.2.2.1, @id (Z.2.2.1 144 4 = .ref 149) hM.1.2.2.2.2.2.1, @id (Z.2.2.1 144 5 = .ref 150) hM.1.2.2.2.2.2.2.1, @id (Z.2.2.1 144 6 = .ref 151) hM.1.2.2.2.2.2.2.2, @id (Z.1 145 = 0) hM.2.1.1, @id (Z.1 146 = 0) hM.2.1.2.1, @id (Z.1 147 = 0) hM.2.1.2.2.1, @id (Z.1 148 = 0) hM.2.1.2.2.2.1, @id (Z.1 149 = 0) hM.2.1.2.2.2.2.1, @id (Z.1 150 = 0) hM.2.1.2.2.2.2.2.1, @id (Z.1 151 = 0) hM.2.1.2.2.2.2.2.2, @id (Z.2.1 145 = 667) hM.2.2.1, @id (Z.2.1 146 = 667) hM.2.2.2.1, @id (Z.2.1 147 = 4002) hM.2.2.2.2.1, @id (Z.2.1 148 = 60) hM.2.2.2.2.2.1, @id (Z.2.1 149 = 32) hM.2.2.2.2.2.2.1, @id (Z.2.1 150 = 32) hM.2.2.2.2.2.2.2.1, @id (Z.2.1 151 = 36) hM.2.2.2.2.2.2.2.2, up2_o, up2_e, iN_ap, iN_up, i_ix, i_inb, i_lt, i_lt0, i_0lt, i_eq, i_ne0, i_00, i_11, i_01, i_10, i_b, i_rem2, n_rem, i_add, i_mul, i_sub, i_div, i_max, i_min, rdk_0, rdk_3, kp_none, kp_int, kp_ref, kp_long, kp_double, aK_v, aK_0, aK_ite, if_true, if_false, and_self, and_true, true_and, or_false, false_or, not_true_eq_false, not_false_eq_true, ite_self, ↓reduceIte, h1, h2, e, ih]
theorem s_mSw {b tt n : Nat} {B : Nat → Nat} {o : Nat} (hM : MAt Z) (hn : n ≤ 31) : ∀ (ls : List (Nat × Nat)) (k p : Nat) (N : Nat → Nat → Nat) (R : aY) (a5 : Option Value), k + ls.length = n → N 144 7 + 1 = n → (∀ i e, ls[i]? = some e → N 149 (k + i) = e.1 ∧ N 150 (k + i) = e.2) → p + tot ls ≤ 60 → MZ (N 145) R B o →
    ∃ N' x4 x5, ex 152 97 [some (.ref 144), some (.int (nI b)), some (.int (nI tt)), some (.int (nI p)), some (.int (nI k)), a5] [] (Z, iN N, L, c) = ex 152 151 [some (.ref 144), some (.int (nI b)), some (.int (nI tt)), some (.int (nI (p + tot ls))), x4, x5] [] (Z, iN N', L, c) ∧ MZ (N' 145) (swX ls p R) B o ∧ ∀ a, a ≠ 145 → N' a = N a
  | [], k, p, N, R, a5, h1, h7, _, _, hz => by
    have e : k = n := by simpa using h1
    subst e
    have q : N 144 7 < k := by omega
    have e0 : p + tot [] = p := rfl
    refine ⟨N, some (.int (nI k)), a5, ?_, hz, fun _ _ => rfl⟩
    rw [e0, r_X8_setWinds_97]
    simp (disch := omega) only [r_X8_setWinds_99, r_X8_setWinds_100, r_X8_setWinds_103, r_X8_setWinds_106, r_X8_setWinds_107, hM.1.1, @id (Z.2.2.1 144 0 = .ref 145) hM.1.2.1, @id (Z.2.2.1 144 1 = .ref 146) hM.1.2.2.1, @id (Z.2.2.1 144 2 = .ref 147) hM.1.2.2.2.1, @id (Z.2.2.1 144 3 = .ref 148) hM.1.2.2.2.2.1, @id (Z.2.2.1 144 4 = .ref 149) hM.1.2.2.2.2.2.1, @id (Z.2.2.1 144 5 = .ref 150) hM.1.2.2.2.2.2.2.1, @id (Z.2.2.1 144 6 = .ref 151) hM.1.2.2.2.2.2.2.2, @id (Z.1 145 = 0) hM.2.1.1, @id (Z.1 146 = 0) hM.2.1.2.1, @id (Z.1 147 = 0) hM.2.1.2.2.1, @id (Z.1 148 = 0) hM.2.1.2.2.2.1, @id (Z.1 149 = 0) hM.2.1.2.2.2.2.1, @id (Z.1 150 = 0) hM.2.1.2.2.2.2.2.1, @id (Z.1 151 = 0) hM.2.1.2.2.2.2.2.2, @id (Z.2.1 145 = 667) hM.2.2.1, @id (Z.2.1 146 = 667) hM.2.2.2.1, @id (Z.2.1 147 = 4002) hM.2.2.2.2.1, @id (Z.2.1 148 = 60) hM.2.2.2.2.2.1, @id (Z.2.1 149 = 32) hM.2.2.2.2.2.2.1, @id (Z.2.1 150 = 32) hM.2.2.2.2.2.2.2.1, @id (Z.2.1 151 = 36) hM.2.2.2.2.2.2.2.2, up2_o, up2_e, iN_ap, iN_up, i_ix, i_inb, i_lt, i_lt0, i_0lt, i_eq, i_ne0, i_00, i_11, i_01, i_10, i_b, i_rem2, n_rem, i_add, i_mul, i_sub, i_div, i_max, i_min, rdk_0, rdk_3, kp_none, kp_int, kp_ref, kp_long, kp_double, aK_v, aK_0, aK_ite, if_true, if_false, and_self, and_true, true_and, or_false, false_or, not_true_eq_false, not_false_eq_true, ite_self, ↓reduceIte, q]
  | e :: ls, k, p, N, R, a5, h1, h7, hc, ht, hz => by
    have hk : k < n := by simp at h1; omega
    obtain ⟨c1, c2⟩ := hc 0 e rfl
    rw [Nat.add_zero] at c1 c2
    have q : ¬ N 144 7 < k := by omega
    have et : tot (e :: ls) = e.2 + tot ls := rfl
    obtain ⟨N1, i1, i2, i3⟩ := s_mSw_in (L := L) (c := c) (b := b) (tt := tt) hM hk hn e.2 p 0 N R (Nat.zero_add _) (by omega) (by omega) c1 c2 hz
    obtain ⟨N', x4, x5, ih, h2, h3⟩ := s_mSw (b := b) (tt := tt) hM hn ls (k + 1) (p + e.2) N1 _ (some (.int (nI e.2))) (by simp at h1; omega) (by rw [i3 144 (by omega)]; exact h7) (fun i e' he => by
      rw [i3 149 (by omega), i3 150 (by omega), show k + 1 + i = k + (i + 1) by omega]
      exact hc (i + 1) e' he) (by omega) i2
    refine ⟨N', x4, x5, ?_, h2, fun a ha => (h3 a ha).trans (i3 a ha)⟩
    rw [show p + e.2 + tot ls = p + tot (e :: ls) by rw [et]; omega] at ih
    rw [r_X8_setWinds_97]
    simp (disch := omega) only [r_X8_setWinds_99, r_X8_setWinds_100, r_X8_setWinds_103, r_X8_setWinds_106, r_X8_setWinds_107, hM.1.1, @id (Z.2.2.1 144 0 = .ref 145) hM.1.2.1, @id (Z.2.2.1 144 1 = .ref 146) hM.1.2.2.1, @id (Z.2.2.1 144 2 = .ref 147) hM.1.2.2.2.1, @id (Z.2.2.1 144 3 = .ref 148) hM.1.2.2.2.2.1, @id (Z.2.2.1 144 4 = .ref 149) hM.1.2.2.2.2.2.1, @id (Z.2.2.1 144 5 = .ref 150) hM.1.2.2.2.2.2.2.1, @id (Z.2.2.1 144 6 = .ref 151) hM.1.2.2.2.2.2.2.2, @id (Z.1 145 = 0) hM.2.1.1, @id (Z.1 146 = 0) hM.2.1.2.1, @id (Z.1 147 = 0) hM.2.1.2.2.1, @id (Z.1 148 = 0) hM.2.1.2.2.2.1, @id (Z.1 149 = 0) hM.2.1.2.2.2.2.1, @id (Z.1 150 = 0) hM.2.1.2.2.2.2.2.1, @id (Z.1 151 = 0) hM.2.1.2.2.2.2.2.2, @id (Z.2.1 145 = 667) hM.2.2.1, @id (Z.2.1 146 = 667) hM.2.2.2.1, @id (Z.2.1 147 = 4002) hM.2.2.2.2.1, @id (Z.2.1 148 = 60) hM.2.2.2.2.2.1, @id (Z.2.1 149 = 32) hM.2.2.2.2.2.2.1, @id (Z.2.1 150 = 32) hM.2.2.2.2.2.2.2.1, @id (Z.2.1 151 = 36) hM.2.2.2.2.2.2.2.2, up2_o, up2_e, iN_ap, iN_up, i_ix, i_inb, i_lt, i_lt0, i_0lt, i_eq, i_ne0, i_00, i_11, i_01, i_10, i_b, i_rem2, n_rem, i_add, i_mul, i_sub, i_div, i_max, i_min, rdk_0, rdk_3, kp_none, kp_int, kp_ref, kp_long, kp_double, aK_v, aK_0, aK_ite, if_true, if_false, and_self, and_true, true_and, or_false, false_or, not_true_eq_false, not_false_eq_true, ite_self, ↓reduceIte, q, i1]
    simp (disch := omega) only [r_X8_setWinds_145, r_X8_setWinds_148, up2_o, up2_e, iN_ap, iN_up, i_ix, i_inb, i_lt, i_lt0, i_0lt, i_eq, i_ne0, i_00, i_11, i_01, i_10, i_b, i_rem2, n_rem, i_add, i_mul, i_sub, i_div, i_max, i_min, rdk_0, rdk_3, kp_none, kp_int, kp_ref, kp_long, kp_double, aK_v, aK_0, aK_ite, if_true, if_false, and_self, and_true, true_and, or_false, false_or, not_true_eq_false, not_false_eq_true, ite_self, ↓reduceIte, ih]
theorem s_mSetWinds {S : aSt} {g : Nat} (hM : MAt Z) (hO : MO N S g) (hl : S.2.2.length ≤ 60) (hx : ∀ x ∈ S.2.2, x < 1000) :
    MR Z L c N g (ex 152 0 [some (.ref 144), none, none, none, none, none] [] (Z, iN N, L, c)) (oWnd S) := by
  obtain ⟨⟨R, q⟩, sv, tx⟩ := S
  obtain ⟨N0, hN0⟩ : ∃ N0, N0 = up2 N 144 11 0 := ⟨_, rfl⟩
  have hO0 := MO_thr (j := 11) (v := 0) hO (by omega)
  rw [← hN0] at hO0
  dsimp only at hl hx
  have h10 : N0 144 10 = tx.length := hO0.1.2.2.2.1
  have h11 : N0 144 11 = 0 := by rw [hN0]; exact up2_e ⟨rfl, rfl⟩
  obtain ⟨N1, t1, t2, t3⟩ := s_mReadWinds (L := L) (c := c) hM hl h10 hO0.1.2.2.2.2 hx
  have hO1 : MO N1 ((R, q), sv, tx) g := ⟨TF_MV hO0.1 t3, hO0.2⟩
  have h110 : N1 144 10 = tx.length := by rw [t3.2 10 (by omega) (by omega)]; exact h10
  have hF : ∀ k, MR Z L c N g (some (.inl (some (.int (nI 0))), (Z, iN (up2 N1 144 11 k), L, c))) (k, 0, (R, q), sv, tx) := fun k =>
    ⟨_, rfl, up2_e ⟨rfl, rfl⟩, MV_le (MV_thr hO1.1 (by omega)), fun a ha => by rw [up144 (by omega), t3.1 a (by omega) (by omega) (by omega), hN0, up144 (by omega)]⟩
  unfold oWnd
  dsimp only
  rw [r_X8_setWinds_0, r_X8_setWinds_1, r_X8_setWinds_2, if_pos hM.1.1, iN_up, ← hN0]
  obtain ⟨p1, p2⟩ := pF_le (f := wS) tx (0, [])
  change (pW tx).1 ≤ tx.length at p1
  change (pW tx).1 = tx.length ↔ (pW tx).2.isSome = true at p2
  cases hp : (pW tx).2 with
  | none =>
    have q1 : ¬ (pW tx).1 = tx.length := fun w => by
      rw [hp] at p2
      cases p2.mp w
    dsimp only
    simp (disch := omega) only [r_X8_setWinds_5, r_X8_setWinds_6, r_X8_setWinds_7, r_X8_setWinds_10, r_X8_setWinds_11, r_X8_setWinds_14, r_X8_setWinds_17, r_X8_setWinds_18, r_X8_setWinds_21, r_X8_setWinds_22, r_X8_setWinds_25, r_X8_setWinds_26, r_X8_setWinds_29, r_X8_setWinds_30, r_X8_setWinds_33, r_X8_setWinds_34, r_X8_setWinds_37, r_X8_setWinds_38, r_X8_setWinds_39, r_X8_setWinds_40, r_X8_setWinds_43, r_X8_setWinds_44, r_X8_setWinds_45, r_X8_setWinds_48, r_X8_setWinds_49, r_X8_setWinds_50, r_X8_setWinds_51, r_X8_setWinds_52, r_X8_setWinds_53, r_X8_setWinds_54, r_X8_setWinds_55, r_X8_setWinds_58, r_X8_setWinds_61, r_X8_setWinds_62, r_X8_setWinds_63, r_X8_setWinds_66, r_X8_setWinds_67, r_X8_setWinds_68, r_X8_setWinds_69, r_X8_setWinds_70, r_X8_setWinds_73, r_X8_setWinds_76, r_X8_setWinds_77, r_X8_setWinds_79, r_X8_setWinds_82, r_X8_setWinds_83, r_X8_setWinds_84, r_X8_setWinds_87, r_X8_setWinds_88, r_X8_setWinds_89, r_X8_setWinds_92, r_X8_setWinds_93, r_X8_setWinds_94, r_X8_setWinds_95, r_X8_setWinds_97, r_X8_setWinds_99, r_X8_setWinds_100, r_X8_setWinds_103, r_X8_setWinds_106, r_X8_setWinds_107, r_X8_setWinds_109, r_X8_setWinds_111, r_X8_setWinds_112, r_X8_setWinds_115, r_X8_setWinds_117, r_X8_setWinds_118, r_X8_setWinds_121, r_X8_setWinds_122, r_X8_setWinds_125, r_X8_setWinds_126, r_X8_setWinds_127, r_X8_setWinds_128, r_X8_setWinds_129, r_X8_setWinds_132, r_X8_setWinds_134, r_X8_setWinds_135, r_X8_setWinds_136, r_X8_setWinds_139, r_X8_setWinds_142, r_X8_setWinds_145, r_X8_setWinds_148, r_X8_setWinds_151, r_X8_setWinds_152, r_X8_setWinds_155, r_X8_setWinds_156, r_X8_setWinds_157, r_X8_setWinds_158, r_X8_setWinds_159, r_X8_setWinds_160, r_X8_setWinds_163, r_X8_setWinds_164, hM.1.1, @id (Z.2.2.1 144 0 = .ref 145) hM.1.2.1, @id (Z.2.2.1 144 1 = .ref 146) hM.1.2.2.1, @id (Z.2.2.1 144 2 = .ref 147) hM.1.2.2.2.1, @id (Z.2.2.1 144 3 = .ref 148) hM.1.2.2.2.2.1, @id (Z.2.2.1 144 4 = .ref 149) hM.1.2.2.2.2.2.1, @id (Z.2.2.1 144 5 = .ref 150) hM.1.2.2.2.2.2.2.1, @id (Z.2.2.1 144 6 = .ref 151) hM.1.2.2.2.2.2.2.2, @id (Z.1 145 = 0) hM.2.1.1, @id (Z.1 146 = 0) hM.2.1.2.1, @id (Z.1 147 = 0) hM.2.1.2.2.1, @id (Z.1 148 = 0) hM.2.1.2.2.2.1, @id (Z.1 149 = 0) hM.2.1.2.2.2.2.1, @id (Z.1 150 = 0) hM.2.1.2.2.2.2.2.1, @id (Z.1 151 = 0) hM.2.1.2.2.2.2.2.2, @id (Z.2.1 145 = 667) hM.2.2.1, @id (Z.2.1 146 = 667) hM.2.2.2.1, @id (Z.2.1 147 = 4002) hM.2.2.2.2.1, @id (Z.2.1 148 = 60) hM.2.2.2.2.2.1, @id (Z.2.1 149 = 32) hM.2.2.2.2.2.2.1, @id (Z.2.1 150 = 32) hM.2.2.2.2.2.2.2.1, @id (Z.2.1 151 = 36) hM.2.2.2.2.2.2.2.2, up2_o, up2_e, iN_ap, iN_up, i_ix, i_inb, i_lt, i_lt0, i_0lt, i_eq, i_ne0, i_00, i_11, i_01, i_10, i_b, i_rem2, n_rem, i_add, i_mul, i_sub, i_div, i_max, i_min, rdk_0, rdk_3, kp_none, kp_int, kp_ref, kp_long, kp_double, aK_v, aK_0, aK_ite, if_true, if_false, and_self, and_true, true_and, or_false, false_or, not_true_eq_false, not_false_eq_true, ite_self, ↓reduceIte, t1, h110, i_eq, q1, s_mFails hM]
    exact hF 1
  | some s =>
    have q1 : (nI (pW tx).1 = nI tx.length) = True := eq_true (by
      rw [hp] at p2
      rw [p2.mpr rfl])
    have hm := t2 s hp
    have hb := pW_WB tx _ _ 0 WB_0 hp
    rw [Nat.zero_add] at hb
    obtain ⟨e1, e2⟩ := wEnd_3 hm hb
    dsimp only
    by_cases he : wEnd s = true
    · rw [if_pos he]
      obtain ⟨a1, a2, a3, a4⟩ := wEnd_all hb he
      obtain ⟨B, o, hk, hog⟩ := MK_of hO1
      dsimp only at hk
      have hg := At2_get hm.1 (fun e he => (a4 e (List.mem_reverse.mp he)).1)
      have n7 : N1 144 7 + 1 = s.2.length := hm.2.2.1 a1
      have hto := s_mTot (N := N1) (L := L) (c := c) (b := 1) hM (show s.2.length ≤ 31 by omega) s.2.reverse 0 0 (by simp) n7 (fun i e he => by rw [Nat.zero_add]; exact (hg i e he).2) (by omega) (fun e he => (a4 e (List.mem_reverse.mp he)).2.2)
      rw [Nat.zero_add] at hto
      have htb : tot s.2.reverse ≤ 60 * 31 := by
        unfold tot
        have := sumL_bd (f := id) (b := 60) (s.2.reverse.map Prod.snd) (fun x hx => by
          obtain ⟨e, he, rfl⟩ := List.mem_map.mp hx
          exact (a4 e (List.mem_reverse.mp he)).2.2)
        rw [List.length_map, List.length_reverse] at this
        omega
      have hst : ∀ A : Option (aR × aH), (ex 152 76 [some (.ref 144), some (.int (nI 1)), some (.int (nI (tot s.2.reverse))), some (.int (nI s.2.length)), none, none] [] (Z, iN N1, L, c) = A) → ex 152 5 [some (.ref 144), none, none, none, none, none] [] (Z, iN N0, L, c) = A := fun A hA => by
        by_cases z : N1 144 8 = 1
        · simp (disch := omega) only [r_X8_setWinds_5, r_X8_setWinds_6, r_X8_setWinds_7, r_X8_setWinds_10, r_X8_setWinds_11, r_X8_setWinds_14, r_X8_setWinds_17, r_X8_setWinds_18, r_X8_setWinds_21, r_X8_setWinds_22, r_X8_setWinds_25, r_X8_setWinds_26, r_X8_setWinds_29, r_X8_setWinds_30, r_X8_setWinds_33, r_X8_setWinds_34, r_X8_setWinds_37, r_X8_setWinds_38, r_X8_setWinds_39, r_X8_setWinds_40, r_X8_setWinds_43, r_X8_setWinds_44, r_X8_setWinds_45, r_X8_setWinds_48, r_X8_setWinds_49, r_X8_setWinds_50, r_X8_setWinds_51, r_X8_setWinds_52, hM.1.1, @id (Z.2.2.1 144 0 = .ref 145) hM.1.2.1, @id (Z.2.2.1 144 1 = .ref 146) hM.1.2.2.1, @id (Z.2.2.1 144 2 = .ref 147) hM.1.2.2.2.1, @id (Z.2.2.1 144 3 = .ref 148) hM.1.2.2.2.2.1, @id (Z.2.2.1 144 4 = .ref 149) hM.1.2.2.2.2.2.1, @id (Z.2.2.1 144 5 = .ref 150) hM.1.2.2.2.2.2.2.1, @id (Z.2.2.1 144 6 = .ref 151) hM.1.2.2.2.2.2.2.2, @id (Z.1 145 = 0) hM.2.1.1, @id (Z.1 146 = 0) hM.2.1.2.1, @id (Z.1 147 = 0) hM.2.1.2.2.1, @id (Z.1 148 = 0) hM.2.1.2.2.2.1, @id (Z.1 149 = 0) hM.2.1.2.2.2.2.1, @id (Z.1 150 = 0) hM.2.1.2.2.2.2.2.1, @id (Z.1 151 = 0) hM.2.1.2.2.2.2.2.2, @id (Z.2.1 145 = 667) hM.2.2.1, @id (Z.2.1 146 = 667) hM.2.2.2.1, @id (Z.2.1 147 = 4002) hM.2.2.2.2.1, @id (Z.2.1 148 = 60) hM.2.2.2.2.2.1, @id (Z.2.1 149 = 32) hM.2.2.2.2.2.2.1, @id (Z.2.1 150 = 32) hM.2.2.2.2.2.2.2.1, @id (Z.2.1 151 = 36) hM.2.2.2.2.2.2.2.2, up2_o, up2_e, iN_ap, iN_up, i_ix, i_inb, i_lt, i_lt0, i_0lt, i_eq, i_ne0, i_00, i_11, i_01, i_10, i_b, i_rem2, n_rem, i_add, i_mul, i_sub, i_div, i_max, i_min, rdk_0, rdk_3, kp_none, kp_int, kp_ref, kp_long, kp_double, aK_v, aK_0, aK_ite, if_true, if_false, and_self, and_true, true_and, or_false, false_or, not_true_eq_false, not_false_eq_true, ite_self, ↓reduceIte, t1, h110, q1, z, hto]
          exact hA
        · have z2 : 3 < N1 144 8 := (e2.mpr he).resolve_left z
          simp (disch := omega) only [r_X8_setWinds_5, r_X8_setWinds_6, r_X8_setWinds_7, r_X8_setWinds_10, r_X8_setWinds_11, r_X8_setWinds_14, r_X8_setWinds_17, r_X8_setWinds_18, r_X8_setWinds_21, r_X8_setWinds_22, r_X8_setWinds_25, r_X8_setWinds_26, r_X8_setWinds_29, r_X8_setWinds_30, r_X8_setWinds_33, r_X8_setWinds_34, r_X8_setWinds_37, r_X8_setWinds_38, r_X8_setWinds_39, r_X8_setWinds_40, r_X8_setWinds_43, r_X8_setWinds_44, r_X8_setWinds_45, r_X8_setWinds_48, r_X8_setWinds_49, r_X8_setWinds_50, r_X8_setWinds_51, r_X8_setWinds_52, hM.1.1, @id (Z.2.2.1 144 0 = .ref 145) hM.1.2.1, @id (Z.2.2.1 144 1 = .ref 146) hM.1.2.2.1, @id (Z.2.2.1 144 2 = .ref 147) hM.1.2.2.2.1, @id (Z.2.2.1 144 3 = .ref 148) hM.1.2.2.2.2.1, @id (Z.2.2.1 144 4 = .ref 149) hM.1.2.2.2.2.2.1, @id (Z.2.2.1 144 5 = .ref 150) hM.1.2.2.2.2.2.2.1, @id (Z.2.2.1 144 6 = .ref 151) hM.1.2.2.2.2.2.2.2, @id (Z.1 145 = 0) hM.2.1.1, @id (Z.1 146 = 0) hM.2.1.2.1, @id (Z.1 147 = 0) hM.2.1.2.2.1, @id (Z.1 148 = 0) hM.2.1.2.2.2.1, @id (Z.1 149 = 0) hM.2.1.2.2.2.2.1, @id (Z.1 150 = 0) hM.2.1.2.2.2.2.2.1, @id (Z.1 151 = 0) hM.2.1.2.2.2.2.2.2, @id (Z.2.1 145 = 667) hM.2.2.1, @id (Z.2.1 146 = 667) hM.2.2.2.1, @id (Z.2.1 147 = 4002) hM.2.2.2.2.1, @id (Z.2.1 148 = 60) hM.2.2.2.2.2.1, @id (Z.2.1 149 = 32) hM.2.2.2.2.2.2.1, @id (Z.2.1 150 = 32) hM.2.2.2.2.2.2.2.1, @id (Z.2.1 151 = 36) hM.2.2.2.2.2.2.2.2, up2_o, up2_e, iN_ap, iN_up, i_ix, i_inb, i_lt, i_lt0, i_0lt, i_eq, i_ne0, i_00, i_11, i_01, i_10, i_b, i_rem2, n_rem, i_add, i_mul, i_sub, i_div, i_max, i_min, rdk_0, rdk_3, kp_none, kp_int, kp_ref, kp_long, kp_double, aK_v, aK_0, aK_ite, if_true, if_false, and_self, and_true, true_and, or_false, false_or, not_true_eq_false, not_false_eq_true, ite_self, ↓reduceIte, t1, h110, q1, i_eq, z, z2, hto]
          exact hA
      by_cases q2 : 60 < tot s.2.reverse
      · rw [if_pos q2, hst _ rfl]
        simp (disch := omega) only [r_X8_setWinds_76, r_X8_setWinds_77, r_X8_setWinds_79, r_X8_setWinds_82, r_X8_setWinds_83, r_X8_setWinds_84, r_X8_setWinds_87, hM.1.1, @id (Z.2.2.1 144 0 = .ref 145) hM.1.2.1, @id (Z.2.2.1 144 1 = .ref 146) hM.1.2.2.1, @id (Z.2.2.1 144 2 = .ref 147) hM.1.2.2.2.1, @id (Z.2.2.1 144 3 = .ref 148) hM.1.2.2.2.2.1, @id (Z.2.2.1 144 4 = .ref 149) hM.1.2.2.2.2.2.1, @id (Z.2.2.1 144 5 = .ref 150) hM.1.2.2.2.2.2.2.1, @id (Z.2.2.1 144 6 = .ref 151) hM.1.2.2.2.2.2.2.2, @id (Z.1 145 = 0) hM.2.1.1, @id (Z.1 146 = 0) hM.2.1.2.1, @id (Z.1 147 = 0) hM.2.1.2.2.1, @id (Z.1 148 = 0) hM.2.1.2.2.2.1, @id (Z.1 149 = 0) hM.2.1.2.2.2.2.1, @id (Z.1 150 = 0) hM.2.1.2.2.2.2.2.1, @id (Z.1 151 = 0) hM.2.1.2.2.2.2.2.2, @id (Z.2.1 145 = 667) hM.2.2.1, @id (Z.2.1 146 = 667) hM.2.2.2.1, @id (Z.2.1 147 = 4002) hM.2.2.2.2.1, @id (Z.2.1 148 = 60) hM.2.2.2.2.2.1, @id (Z.2.1 149 = 32) hM.2.2.2.2.2.2.1, @id (Z.2.1 150 = 32) hM.2.2.2.2.2.2.2.1, @id (Z.2.1 151 = 36) hM.2.2.2.2.2.2.2.2, up2_o, up2_e, iN_ap, iN_up, i_ix, i_inb, i_lt, i_lt0, i_0lt, i_eq, i_ne0, i_00, i_11, i_01, i_10, i_b, i_rem2, n_rem, i_add, i_mul, i_sub, i_div, i_max, i_min, rdk_0, rdk_3, kp_none, kp_int, kp_ref, kp_long, kp_double, aK_v, aK_0, aK_ite, if_true, if_false, and_self, and_true, true_and, or_false, false_or, not_true_eq_false, not_false_eq_true, ite_self, ↓reduceIte, q2, s_mFails hM]
        exact hF 2
      · rw [if_neg q2, hst _ rfl]
        obtain ⟨N2, s1, s2, s3, s4⟩ := s_mSave (L := L) (c := c) hM hO1.1 hO1.2.2.2.1
        have z0 : MZ (N2 145) R B o := by rw [s4 145 (by omega) (by omega)]; exact hk.1
        obtain ⟨N3, x4, x5, l1, l2, l3⟩ := s_mSw (L := L) (c := c) (b := 1) (tt := tot s.2.reverse) hM (show s.2.length ≤ 31 by omega) s.2.reverse 0 0 N2 R none (by simp) (by rw [s3 7 (by omega)]; exact n7) (fun i e he => by
          rw [Nat.zero_add, s4 149 (by omega) (by omega), s4 150 (by omega) (by omega)]
          exact hg i e he) (by omega) z0
        rw [Nat.zero_add] at l1
        have z3 := MZ_w02 (v := tot s.2.reverse) l2
        refine ⟨up2 (up2 N3 145 3 (tot s.2.reverse)) 144 10 0, ?_, ?_, ?_, fun a ha => ?_⟩
        · simp (disch := omega) only [r_X8_setWinds_76, r_X8_setWinds_77, r_X8_setWinds_79, r_X8_setWinds_82, r_X8_setWinds_83, r_X8_setWinds_84, r_X8_setWinds_87, r_X8_setWinds_88, r_X8_setWinds_89, r_X8_setWinds_92, r_X8_setWinds_93, r_X8_setWinds_94, r_X8_setWinds_95, hM.1.1, @id (Z.2.2.1 144 0 = .ref 145) hM.1.2.1, @id (Z.2.2.1 144 1 = .ref 146) hM.1.2.2.1, @id (Z.2.2.1 144 2 = .ref 147) hM.1.2.2.2.1, @id (Z.2.2.1 144 3 = .ref 148) hM.1.2.2.2.2.1, @id (Z.2.2.1 144 4 = .ref 149) hM.1.2.2.2.2.2.1, @id (Z.2.2.1 144 5 = .ref 150) hM.1.2.2.2.2.2.2.1, @id (Z.2.2.1 144 6 = .ref 151) hM.1.2.2.2.2.2.2.2, @id (Z.1 145 = 0) hM.2.1.1, @id (Z.1 146 = 0) hM.2.1.2.1, @id (Z.1 147 = 0) hM.2.1.2.2.1, @id (Z.1 148 = 0) hM.2.1.2.2.2.1, @id (Z.1 149 = 0) hM.2.1.2.2.2.2.1, @id (Z.1 150 = 0) hM.2.1.2.2.2.2.2.1, @id (Z.1 151 = 0) hM.2.1.2.2.2.2.2.2, @id (Z.2.1 145 = 667) hM.2.2.1, @id (Z.2.1 146 = 667) hM.2.2.2.1, @id (Z.2.1 147 = 4002) hM.2.2.2.2.1, @id (Z.2.1 148 = 60) hM.2.2.2.2.2.1, @id (Z.2.1 149 = 32) hM.2.2.2.2.2.2.1, @id (Z.2.1 150 = 32) hM.2.2.2.2.2.2.2.1, @id (Z.2.1 151 = 36) hM.2.2.2.2.2.2.2.2, up2_o, up2_e, iN_ap, iN_up, i_ix, i_inb, i_lt, i_lt0, i_0lt, i_eq, i_ne0, i_00, i_11, i_01, i_10, i_b, i_rem2, n_rem, i_add, i_mul, i_sub, i_div, i_max, i_min, rdk_0, rdk_3, kp_none, kp_int, kp_ref, kp_long, kp_double, aK_v, aK_0, aK_ite, if_true, if_false, and_self, and_true, true_and, or_false, false_or, not_true_eq_false, not_false_eq_true, ite_self, ↓reduceIte, q2, s1, l1]
          simp (disch := omega) only [r_X8_setWinds_151, r_X8_setWinds_152, r_X8_setWinds_155, r_X8_setWinds_156, r_X8_setWinds_157, r_X8_setWinds_158, r_X8_setWinds_159, r_X8_setWinds_160, r_X8_setWinds_163, r_X8_setWinds_164, hM.1.1, @id (Z.2.2.1 144 0 = .ref 145) hM.1.2.1, @id (Z.2.2.1 144 1 = .ref 146) hM.1.2.2.1, @id (Z.2.2.1 144 2 = .ref 147) hM.1.2.2.2.1, @id (Z.2.2.1 144 3 = .ref 148) hM.1.2.2.2.2.1, @id (Z.2.2.1 144 4 = .ref 149) hM.1.2.2.2.2.2.1, @id (Z.2.2.1 144 5 = .ref 150) hM.1.2.2.2.2.2.2.1, @id (Z.2.2.1 144 6 = .ref 151) hM.1.2.2.2.2.2.2.2, @id (Z.1 145 = 0) hM.2.1.1, @id (Z.1 146 = 0) hM.2.1.2.1, @id (Z.1 147 = 0) hM.2.1.2.2.1, @id (Z.1 148 = 0) hM.2.1.2.2.2.1, @id (Z.1 149 = 0) hM.2.1.2.2.2.2.1, @id (Z.1 150 = 0) hM.2.1.2.2.2.2.2.1, @id (Z.1 151 = 0) hM.2.1.2.2.2.2.2.2, @id (Z.2.1 145 = 667) hM.2.2.1, @id (Z.2.1 146 = 667) hM.2.2.2.1, @id (Z.2.1 147 = 4002) hM.2.2.2.2.1, @id (Z.2.1 148 = 60) hM.2.2.2.2.2.1, @id (Z.2.1 149 = 32) hM.2.2.2.2.2.2.1, @id (Z.2.1 150 = 32) hM.2.2.2.2.2.2.2.1, @id (Z.2.1 151 = 36) hM.2.2.2.2.2.2.2.2, up2_o, up2_e, iN_ap, iN_up, i_ix, i_inb, i_lt, i_lt0, i_0lt, i_eq, i_ne0, i_00, i_11, i_01, i_10, i_b, i_rem2, n_rem, i_add, i_mul, i_sub, i_div, i_max, i_min, rdk_0, rdk_3, kp_none, kp_int, kp_ref, kp_long, kp_double, aK_v, aK_0, aK_ite, if_true, if_false, and_self, and_true, true_and, or_false, false_or, not_true_eq_false, not_false_eq_true, ite_self, ↓reduceIte]
        · rw [up2_o (by omega), up145 (by omega), l3 144 (by omega), s3 11 (by omega), t3.2 11 (by omega) (by omega), h11]
        · refine ⟨⟨B, o, ?_, hk.2.2.1, by omega⟩, ?_, fun k s' hk' => ?_, up2_e ⟨rfl, rfl⟩, fun i x h => by simp at h⟩
          · rw [up144 (by omega)]
            exact z3
          · rw [up2_o (by omega), up145 (by omega), l3 144 (by omega)]
            exact s2.2.1
          · rw [up144 (by omega), up145 (by omega), l3 147 (by omega)]
            exact MS_le (s2.2.2.1 k s' hk') (by omega)
        · rw [up144 (by omega), up145 (by omega), l3 a (by omega), s4 a (by omega) (by omega), t3.1 a (by omega) (by omega) (by omega), hN0, up144 (by omega)]
    · rw [if_neg he]
      have z1 : ¬ N1 144 8 = 1 := fun w => he (e2.mp (Or.inl w))
      have z2 : ¬ 3 < N1 144 8 := fun w => he (e2.mp (Or.inr w))
      simp (disch := omega) only [r_X8_setWinds_5, r_X8_setWinds_6, r_X8_setWinds_7, r_X8_setWinds_10, r_X8_setWinds_11, r_X8_setWinds_14, r_X8_setWinds_17, r_X8_setWinds_18, r_X8_setWinds_21, r_X8_setWinds_22, r_X8_setWinds_25, r_X8_setWinds_26, r_X8_setWinds_29, r_X8_setWinds_30, r_X8_setWinds_33, r_X8_setWinds_34, r_X8_setWinds_37, r_X8_setWinds_38, r_X8_setWinds_39, r_X8_setWinds_40, r_X8_setWinds_43, r_X8_setWinds_44, r_X8_setWinds_45, r_X8_setWinds_48, r_X8_setWinds_49, r_X8_setWinds_50, r_X8_setWinds_51, r_X8_setWinds_52, r_X8_setWinds_53, r_X8_setWinds_54, r_X8_setWinds_55, r_X8_setWinds_58, r_X8_setWinds_61, r_X8_setWinds_62, r_X8_setWinds_63, r_X8_setWinds_66, r_X8_setWinds_67, r_X8_setWinds_68, r_X8_setWinds_69, r_X8_setWinds_70, r_X8_setWinds_73, r_X8_setWinds_76, r_X8_setWinds_77, r_X8_setWinds_79, r_X8_setWinds_82, r_X8_setWinds_83, r_X8_setWinds_84, r_X8_setWinds_87, r_X8_setWinds_88, r_X8_setWinds_89, r_X8_setWinds_92, r_X8_setWinds_93, r_X8_setWinds_94, r_X8_setWinds_95, r_X8_setWinds_97, r_X8_setWinds_99, r_X8_setWinds_100, r_X8_setWinds_103, r_X8_setWinds_106, r_X8_setWinds_107, r_X8_setWinds_109, r_X8_setWinds_111, r_X8_setWinds_112, r_X8_setWinds_115, r_X8_setWinds_117, r_X8_setWinds_118, r_X8_setWinds_121, r_X8_setWinds_122, r_X8_setWinds_125, r_X8_setWinds_126, r_X8_setWinds_127, r_X8_setWinds_128, r_X8_setWinds_129, r_X8_setWinds_132, r_X8_setWinds_134, r_X8_setWinds_135, r_X8_setWinds_136, r_X8_setWinds_139, r_X8_setWinds_142, r_X8_setWinds_145, r_X8_setWinds_148, r_X8_setWinds_151, r_X8_setWinds_152, r_X8_setWinds_155, r_X8_setWinds_156, r_X8_setWinds_157, r_X8_setWinds_158, r_X8_setWinds_159, r_X8_setWinds_160, r_X8_setWinds_163, r_X8_setWinds_164, hM.1.1, @id (Z.2.2.1 144 0 = .ref 145) hM.1.2.1, @id (Z.2.2.1 144 1 = .ref 146) hM.1.2.2.1, @id (Z.2.2.1 144 2 = .ref 147) hM.1.2.2.2.1, @id (Z.2.2.1 144 3 = .ref 148) hM.1.2.2.2.2.1, @id (Z.2.2.1 144 4 = .ref 149) hM.1.2.2.2.2.2.1, @id (Z.2.2.1 144 5 = .ref 150) hM.1.2.2.2.2.2.2.1, @id (Z.2.2.1 144 6 = .ref 151) hM.1.2.2.2.2.2.2.2, @id (Z.1 145 = 0) hM.2.1.1, @id (Z.1 146 = 0) hM.2.1.2.1, @id (Z.1 147 = 0) hM.2.1.2.2.1, @id (Z.1 148 = 0) hM.2.1.2.2.2.1, @id (Z.1 149 = 0) hM.2.1.2.2.2.2.1, @id (Z.1 150 = 0) hM.2.1.2.2.2.2.2.1, @id (Z.1 151 = 0) hM.2.1.2.2.2.2.2.2, @id (Z.2.1 145 = 667) hM.2.2.1, @id (Z.2.1 146 = 667) hM.2.2.2.1, @id (Z.2.1 147 = 4002) hM.2.2.2.2.1, @id (Z.2.1 148 = 60) hM.2.2.2.2.2.1, @id (Z.2.1 149 = 32) hM.2.2.2.2.2.2.1, @id (Z.2.1 150 = 32) hM.2.2.2.2.2.2.2.1, @id (Z.2.1 151 = 36) hM.2.2.2.2.2.2.2.2, up2_o, up2_e, iN_ap, iN_up, i_ix, i_inb, i_lt, i_lt0, i_0lt, i_eq, i_ne0, i_00, i_11, i_01, i_10, i_b, i_rem2, n_rem, i_add, i_mul, i_sub, i_div, i_max, i_min, rdk_0, rdk_3, kp_none, kp_int, kp_ref, kp_long, kp_double, aK_v, aK_0, aK_ite, if_true, if_false, and_self, and_true, true_and, or_false, false_or, not_true_eq_false, not_false_eq_true, ite_self, ↓reduceIte, t1, h110, q1, i_eq, z1, z2, s_mFails hM]
      exact hF 1
end Mz
