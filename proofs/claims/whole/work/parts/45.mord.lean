/-! the reference: a module set; the order laid -/
theorem zo_o {N : Nat → Nat → Nat} {m k m' k' v : Nat} (hk : k < 16) (hk' : k' < 16) (h : ¬ (m' = m ∧ k' = k)) : zo (up2 N 145 (91 + 16 * m + k) v 145) m' k' = zo (N 145) m' k' := by
  unfold zo
  exact up2_o (by omega)
theorem zo_e {N : Nat → Nat → Nat} {m k v : Nat} : zo (up2 N 145 (91 + 16 * m + k) v 145) m k = v := up2_e ⟨rfl, rfl⟩
def mSh (m held : Nat) : Nat → Nat → (Nat → Nat → Nat) → (Nat → Nat → Nat)
  | 0, _, N => N
  | k + 1, t, N => mSh m held k (t + 1) (up2 N 145 (91 + 16 * m + (8 + t)) (held / 4 + if t < held % 4 then 1 else 0))
def mHeld (z : Nat → Nat) (m : Nat) : Nat := zo z m 1 * z 66 / 100
def mSet (N : Nat → Nat → Nat) (m : Nat) : Nat → Nat → Nat :=
  mSh m (mHeld (N 145) m) 4 0 (up2 (up2 N 145 (91 + 16 * m + 2) 2) 145 (91 + 16 * m + 5) (zo (N 145) m 1 - mHeld (N 145) m))
section Mc
variable {Z : aZ} {N : Nat → Nat → Nat} {L : Nat → Nat → Int64} {c : Nat × Nat}
theorem s_mSet_loop {m held : Nat} (hM : MAt Z) (hm : m < 36) (hh : held < 1000000) : ∀ (k t : Nat) (N : Nat → Nat → Nat), t + k = 4 →
    ex 131 41 [some (.ref 144), some (.int (nI m)), some (.int (nI held)), some (.int (nI t))] [] (Z, iN N, L, c) = some (.inl none, (Z, iN (mSh m held k t N), L, c))
  | 0, t, N, h => by
    have e : t = 4 := by omega
    subst e
    simp (disch := omega) only [r_X8_isSet_0, r_X8_isSet_1, r_X8_isSet_2, r_X8_isSet_3, r_X8_isSet_6, r_X8_isSet_7, r_X8_isSet_10, r_X8_isSet_12, r_X8_isSet_13, r_X8_isSet_14, r_X8_isSet_16, r_X8_isSet_17, r_X8_isSet_18, r_X8_isSet_19, r_X8_isSet_20, r_X8_isSet_21, r_X8_isSet_22, r_X8_isSet_25, r_X8_isSet_26, r_X8_isSet_27, r_X8_isSet_28, r_X8_isSet_29, r_X8_isSet_30, r_X8_isSet_31, r_X8_isSet_34, r_X8_isSet_35, r_X8_isSet_36, r_X8_isSet_39, r_X8_isSet_40, r_X8_isSet_41, r_X8_isSet_42, r_X8_isSet_43, r_X8_isSet_46, r_X8_isSet_47, r_X8_isSet_48, r_X8_isSet_50, r_X8_isSet_51, r_X8_isSet_52, r_X8_isSet_53, r_X8_isSet_54, r_X8_isSet_55, r_X8_isSet_56, r_X8_isSet_57, r_X8_isSet_58, r_X8_isSet_59, r_X8_isSet_62, r_X8_isSet_63, r_X8_isSet_66, r_X8_isSet_67, r_X8_isSet_68, r_X8_isSet_71, r_X8_isSet_74, r_X8_isSet_77, up2_o, up2_e, iN_ap, iN_up, i_ix, i_inb, i_lt, i_lt0, i_0lt, i_eq, i_ne0, i_00, i_11, i_01, i_10, i_b, i_rem2, n_rem, i_add, i_mul, i_sub, i_div, i_max, i_min, rdk_0, rdk_3, kp_none, kp_int, kp_ref, kp_long, kp_double, aK_v, aK_0, aK_ite, if_true, if_false, and_self, and_true, true_and, or_false, false_or, not_true_eq_false, not_false_eq_true, ite_self, ↓reduceIte, Nat.lt_irrefl, mSh]
  | k + 1, t, N, h => by
    have e : t < 4 := by omega
    have ih := fun N => s_mSet_loop hM hm hh k (t + 1) N (by omega)
    have hl := fun v => s_mLay (N := N) (L := L) (c := c) (v := v) hM (show 91 + 16 * m + (8 + t) < 667 by omega)
    rw [r_X8_isSet_41]
    by_cases q : t < held % 4
    · simp (disch := omega) only [r_X8_isSet_0, r_X8_isSet_1, r_X8_isSet_2, r_X8_isSet_3, r_X8_isSet_6, r_X8_isSet_7, r_X8_isSet_10, r_X8_isSet_12, r_X8_isSet_13, r_X8_isSet_14, r_X8_isSet_16, r_X8_isSet_17, r_X8_isSet_18, r_X8_isSet_19, r_X8_isSet_20, r_X8_isSet_21, r_X8_isSet_22, r_X8_isSet_25, r_X8_isSet_26, r_X8_isSet_27, r_X8_isSet_28, r_X8_isSet_29, r_X8_isSet_30, r_X8_isSet_31, r_X8_isSet_34, r_X8_isSet_35, r_X8_isSet_36, r_X8_isSet_39, r_X8_isSet_40, r_X8_isSet_42, r_X8_isSet_43, r_X8_isSet_46, r_X8_isSet_47, r_X8_isSet_48, r_X8_isSet_50, r_X8_isSet_51, r_X8_isSet_52, r_X8_isSet_53, r_X8_isSet_54, r_X8_isSet_55, r_X8_isSet_56, r_X8_isSet_57, r_X8_isSet_58, r_X8_isSet_59, r_X8_isSet_62, r_X8_isSet_63, r_X8_isSet_66, r_X8_isSet_67, r_X8_isSet_68, r_X8_isSet_71, r_X8_isSet_74, r_X8_isSet_77, hM.1.1, @id (Z.2.2.1 144 0 = .ref 145) hM.1.2.1, @id (Z.2.2.1 144 1 = .ref 146) hM.1.2.2.1, @id (Z.2.2.1 144 2 = .ref 147) hM.1.2.2.2.1, @id (Z.2.2.1 144 3 = .ref 148) hM.1.2.2.2.2.1, @id (Z.2.2.1 144 4 = .ref 149) hM.1.2.2.2.2.2.1, @id (Z.2.2.1 144 5 = .ref 150) hM.1.2.2.2.2.2.2.1, @id (Z.2.2.1 144 6 = .ref 151) hM.1.2.2.2.2.2.2.2, @id (Z.1 145 = 0) hM.2.1.1, @id (Z.1 146 = 0) hM.2.1.2.1, @id (Z.1 147 = 0) hM.2.1.2.2.1, @id (Z.1 148 = 0) hM.2.1.2.2.2.1, @id (Z.1 149 = 0) hM.2.1.2.2.2.2.1, @id (Z.1 150 = 0) hM.2.1.2.2.2.2.2.1, @id (Z.1 151 = 0) hM.2.1.2.2.2.2.2.2, @id (Z.2.1 145 = 667) hM.2.2.1, @id (Z.2.1 146 = 667) hM.2.2.2.1, @id (Z.2.1 147 = 4002) hM.2.2.2.2.1, @id (Z.2.1 148 = 60) hM.2.2.2.2.2.1, @id (Z.2.1 149 = 32) hM.2.2.2.2.2.2.1, @id (Z.2.1 150 = 32) hM.2.2.2.2.2.2.2.1, @id (Z.2.1 151 = 36) hM.2.2.2.2.2.2.2.2, up2_o, up2_e, iN_ap, iN_up, i_ix, i_inb, i_lt, i_lt0, i_0lt, i_eq, i_ne0, i_00, i_11, i_01, i_10, i_b, i_rem2, n_rem, i_add, i_mul, i_sub, i_div, i_max, i_min, rdk_0, rdk_3, kp_none, kp_int, kp_ref, kp_long, kp_double, aK_v, aK_0, aK_ite, if_true, if_false, and_self, and_true, true_and, or_false, false_or, not_true_eq_false, not_false_eq_true, ite_self, ↓reduceIte, e, q, hl, ih, mSh]
    · simp (disch := omega) only [r_X8_isSet_0, r_X8_isSet_1, r_X8_isSet_2, r_X8_isSet_3, r_X8_isSet_6, r_X8_isSet_7, r_X8_isSet_10, r_X8_isSet_12, r_X8_isSet_13, r_X8_isSet_14, r_X8_isSet_16, r_X8_isSet_17, r_X8_isSet_18, r_X8_isSet_19, r_X8_isSet_20, r_X8_isSet_21, r_X8_isSet_22, r_X8_isSet_25, r_X8_isSet_26, r_X8_isSet_27, r_X8_isSet_28, r_X8_isSet_29, r_X8_isSet_30, r_X8_isSet_31, r_X8_isSet_34, r_X8_isSet_35, r_X8_isSet_36, r_X8_isSet_39, r_X8_isSet_40, r_X8_isSet_42, r_X8_isSet_43, r_X8_isSet_46, r_X8_isSet_47, r_X8_isSet_48, r_X8_isSet_50, r_X8_isSet_51, r_X8_isSet_52, r_X8_isSet_53, r_X8_isSet_54, r_X8_isSet_55, r_X8_isSet_56, r_X8_isSet_57, r_X8_isSet_58, r_X8_isSet_59, r_X8_isSet_62, r_X8_isSet_63, r_X8_isSet_66, r_X8_isSet_67, r_X8_isSet_68, r_X8_isSet_71, r_X8_isSet_74, r_X8_isSet_77, hM.1.1, @id (Z.2.2.1 144 0 = .ref 145) hM.1.2.1, @id (Z.2.2.1 144 1 = .ref 146) hM.1.2.2.1, @id (Z.2.2.1 144 2 = .ref 147) hM.1.2.2.2.1, @id (Z.2.2.1 144 3 = .ref 148) hM.1.2.2.2.2.1, @id (Z.2.2.1 144 4 = .ref 149) hM.1.2.2.2.2.2.1, @id (Z.2.2.1 144 5 = .ref 150) hM.1.2.2.2.2.2.2.1, @id (Z.2.2.1 144 6 = .ref 151) hM.1.2.2.2.2.2.2.2, @id (Z.1 145 = 0) hM.2.1.1, @id (Z.1 146 = 0) hM.2.1.2.1, @id (Z.1 147 = 0) hM.2.1.2.2.1, @id (Z.1 148 = 0) hM.2.1.2.2.2.1, @id (Z.1 149 = 0) hM.2.1.2.2.2.2.1, @id (Z.1 150 = 0) hM.2.1.2.2.2.2.2.1, @id (Z.1 151 = 0) hM.2.1.2.2.2.2.2.2, @id (Z.2.1 145 = 667) hM.2.2.1, @id (Z.2.1 146 = 667) hM.2.2.2.1, @id (Z.2.1 147 = 4002) hM.2.2.2.2.1, @id (Z.2.1 148 = 60) hM.2.2.2.2.2.1, @id (Z.2.1 149 = 32) hM.2.2.2.2.2.2.1, @id (Z.2.1 150 = 32) hM.2.2.2.2.2.2.2.1, @id (Z.2.1 151 = 36) hM.2.2.2.2.2.2.2.2, up2_o, up2_e, iN_ap, iN_up, i_ix, i_inb, i_lt, i_lt0, i_0lt, i_eq, i_ne0, i_00, i_11, i_01, i_10, i_b, i_rem2, n_rem, i_add, i_mul, i_sub, i_div, i_max, i_min, rdk_0, rdk_3, kp_none, kp_int, kp_ref, kp_long, kp_double, aK_v, aK_0, aK_ite, if_true, if_false, and_self, and_true, true_and, or_false, false_or, not_true_eq_false, not_false_eq_true, ite_self, ↓reduceIte, e, q, hl, ih, mSh]
theorem s_mSet {m : Nat} (hM : MAt Z) (hm : m < 36) (hz : Zb (N 145)) (h6 : N 145 66 ≤ 30) :
    ex 131 0 [some (.ref 144), some (.int (nI m)), none, none] [] (Z, iN N, L, c) = some (.inl none, (Z, iN (mSet N m), L, c)) := by
  obtain ⟨b0, b1, b2, b3, b4⟩ := hz.2.2.2.2.1 m hm
  have hmul : zo (N 145) m 1 * N 145 66 ≤ 9999 * 30 := Nat.mul_le_mul b1 h6
  have hh : mHeld (N 145) m < 1000000 := by unfold mHeld; omega
  have hle : mHeld (N 145) m ≤ zo (N 145) m 1 := by
    unfold mHeld
    have : zo (N 145) m 1 * N 145 66 ≤ zo (N 145) m 1 * 30 := Nat.mul_le_mul_left _ h6
    omega
  have ed : zo (N 145) m 1 * N 145 66 / 100 = mHeld (N 145) m := rfl
  have o1 := s_mOf (N := N) (L := L) (c := c) hM (show 91 + 16 * m + 1 < 667 by omega)
  have l2 := s_mLay (N := N) (L := L) (c := c) (v := 2) hM (show 91 + 16 * m + 2 < 667 by omega)
  have o2 := s_mOf (N := up2 N 145 (91 + 16 * m + 2) 2) (L := L) (c := c) hM (show 91 + 16 * m + 1 < 667 by omega)
  rw [zo_o (by omega) (by omega) (by omega)] at o2
  have l5 := s_mLay (N := up2 N 145 (91 + 16 * m + 2) 2) (L := L) (c := c) (v := zo (N 145) m 1 - mHeld (N 145) m) hM (show 91 + 16 * m + 5 < 667 by omega)
  have lp := s_mSet_loop (L := L) (c := c) hM hm hh 4 0 (up2 (up2 N 145 (91 + 16 * m + 2) 2) 145 (91 + 16 * m + 5) (zo (N 145) m 1 - mHeld (N 145) m)) rfl
  simp (disch := omega) only [r_X8_isSet_0, r_X8_isSet_1, r_X8_isSet_2, r_X8_isSet_3, r_X8_isSet_6, r_X8_isSet_7, r_X8_isSet_10, r_X8_isSet_12, r_X8_isSet_13, r_X8_isSet_14, r_X8_isSet_16, r_X8_isSet_17, r_X8_isSet_18, r_X8_isSet_19, r_X8_isSet_20, r_X8_isSet_21, r_X8_isSet_22, r_X8_isSet_25, r_X8_isSet_26, r_X8_isSet_27, r_X8_isSet_28, r_X8_isSet_29, r_X8_isSet_30, r_X8_isSet_31, r_X8_isSet_34, r_X8_isSet_35, r_X8_isSet_36, r_X8_isSet_39, r_X8_isSet_40, hM.1.1, @id (Z.2.2.1 144 0 = .ref 145) hM.1.2.1, @id (Z.2.2.1 144 1 = .ref 146) hM.1.2.2.1, @id (Z.2.2.1 144 2 = .ref 147) hM.1.2.2.2.1, @id (Z.2.2.1 144 3 = .ref 148) hM.1.2.2.2.2.1, @id (Z.2.2.1 144 4 = .ref 149) hM.1.2.2.2.2.2.1, @id (Z.2.2.1 144 5 = .ref 150) hM.1.2.2.2.2.2.2.1, @id (Z.2.2.1 144 6 = .ref 151) hM.1.2.2.2.2.2.2.2, @id (Z.1 145 = 0) hM.2.1.1, @id (Z.1 146 = 0) hM.2.1.2.1, @id (Z.1 147 = 0) hM.2.1.2.2.1, @id (Z.1 148 = 0) hM.2.1.2.2.2.1, @id (Z.1 149 = 0) hM.2.1.2.2.2.2.1, @id (Z.1 150 = 0) hM.2.1.2.2.2.2.2.1, @id (Z.1 151 = 0) hM.2.1.2.2.2.2.2.2, @id (Z.2.1 145 = 667) hM.2.2.1, @id (Z.2.1 146 = 667) hM.2.2.2.1, @id (Z.2.1 147 = 4002) hM.2.2.2.2.1, @id (Z.2.1 148 = 60) hM.2.2.2.2.2.1, @id (Z.2.1 149 = 32) hM.2.2.2.2.2.2.1, @id (Z.2.1 150 = 32) hM.2.2.2.2.2.2.2.1, @id (Z.2.1 151 = 36) hM.2.2.2.2.2.2.2.2, up2_o, up2_e, iN_ap, iN_up, i_ix, i_inb, i_lt, i_lt0, i_0lt, i_eq, i_ne0, i_00, i_11, i_01, i_10, i_b, i_rem2, n_rem, i_add, i_mul, i_sub, i_div, i_max, i_min, rdk_0, rdk_3, kp_none, kp_int, kp_ref, kp_long, kp_double, aK_v, aK_0, aK_ite, if_true, if_false, and_self, and_true, true_and, or_false, false_or, not_true_eq_false, not_false_eq_true, ite_self, ↓reduceIte, o1, ed, l2, o2, l5, lp, mSet]
def insB (lt : Nat → Nat → Bool) (p : Nat) : List Nat → List Nat
  | [] => [p]
  | x :: l => if lt p x = true then x :: insB lt p l else p :: x :: l
def zq (z : Nat → Nat) (m : Nat) : Bool := zTh z m && Nat.beq (zo z m 2) 1
theorem zq_iff {z : Nat → Nat} {m : Nat} : zq z m = true ↔ zTh z m = true ∧ zo z m 2 = 1 := by
  unfold zq
  simp
def lfB (z : Nat → Nat) : Nat → Nat → List Nat → List Nat
  | 0, _, l => l
  | k + 1, i, l => lfB z k (i + 1) (if zq z i = true then insB (zLt z) i l else l)
def soB (lt : Nat → Nat → Bool) (p : Nat) : Nat → (Nat → Nat → Nat) → Nat → Nat → Nat
  | 0, N => up2 N 151 0 p
  | k + 1, N => if lt p (N 151 k) = true then soB lt p k (up2 N 151 (k + 1) (N 151 k)) else up2 N 151 (k + 1) p
theorem soB_o {lt : Nat → Nat → Bool} {p : Nat} : ∀ (k : Nat) (N : Nat → Nat → Nat) (a : Nat), a ≠ 151 → soB lt p k N a = N a
  | 0, N, a, h => by funext j; exact up2_o (fun z => h z.1)
  | k + 1, N, a, h => by
    unfold soB
    split
    · rw [soB_o k _ a h]
      funext j
      exact up2_o (fun z => h z.1)
    · funext j
      exact up2_o (fun z => h z.1)
theorem soB_hi {lt : Nat → Nat → Bool} {p : Nat} : ∀ (k : Nat) (N : Nat → Nat → Nat) (j : Nat), k < j → soB lt p k N 151 j = N 151 j
  | 0, N, j, h => up2_o (by omega)
  | k + 1, N, j, h => by
    unfold soB
    split
    · rw [soB_hi k _ j (by omega), up2_o (by omega)]
    · exact up2_o (by omega)
theorem insB_len {lt : Nat → Nat → Bool} {p : Nat} : ∀ (l : List Nat), (insB lt p l).length = l.length + 1
  | [] => rfl
  | x :: l => by
    unfold insB
    split
    · simp [insB_len l]
    · simp
theorem insB_mem {lt : Nat → Nat → Bool} {p x : Nat} : ∀ (l : List Nat), x ∈ insB lt p l ↔ x = p ∨ x ∈ l
  | [] => by simp [insB]
  | z :: l => by
    unfold insB
    split
    · rw [List.mem_cons, insB_mem l, List.mem_cons]
      exact ⟨fun h => h.elim (fun h => Or.inr (Or.inl h)) (fun h => h.elim Or.inl (fun h => Or.inr (Or.inr h))), fun h => h.elim (fun h => Or.inr (Or.inl h)) (fun h => h.elim Or.inl (fun h => Or.inr (Or.inr h)))⟩
    · rw [List.mem_cons]
theorem AtL_lt {l : List Nat} {i x : Nat} (h : l[i]? = some x) : i < l.length := by
  rcases Nat.lt_or_ge i l.length with q | q
  · exact q
  · rw [List.getElem?_eq_none q] at h; cases h
theorem soB_at {lt : Nat → Nat → Bool} {p : Nat} : ∀ (l : List Nat) (N : Nat → Nat → Nat), AtL (N 151) l.reverse → AtL (soB lt p l.length N 151) (insB lt p l).reverse
  | [], N, _ => by
    show AtL (soB lt p 0 N 151) ([] ++ [p])
    exact AtL_app.mpr ⟨fun i x h => by simp at h, up2_e ⟨rfl, rfl⟩⟩
  | x :: l, N, h => by
    rw [List.reverse_cons] at h
    obtain ⟨h1, h2⟩ := AtL_app.mp h
    rw [List.length_reverse] at h2
    show AtL (soB lt p (l.length + 1) N 151) _
    unfold soB insB
    rw [h2]
    by_cases q : lt p x = true
    · rw [if_pos q, if_pos q, List.reverse_cons]
      refine AtL_app.mpr ⟨soB_at l _ (fun i z hz => ?_), ?_⟩
      · have hi := AtL_lt hz
        rw [List.length_reverse] at hi
        rw [up2_o (by omega)]
        exact h1 i z hz
      · rw [List.length_reverse, insB_len, soB_hi _ _ _ (by omega)]
        exact up2_e ⟨rfl, rfl⟩
    · rw [if_neg q, if_neg q, List.reverse_cons, List.reverse_cons]
      refine AtL_app.mpr ⟨fun i z hz => ?_, ?_⟩
      · have hi := AtL_lt hz
        rw [List.length_append, List.length_reverse, List.length_singleton] at hi
        rw [up2_o (by omega)]
        exact h i z hz
      · rw [List.length_append, List.length_reverse, List.length_singleton]
        exact up2_e ⟨rfl, rfl⟩
theorem s_mLay_in {p n : Nat} {lt : Nat → Nat → Bool} (hM : MAt Z) (hp : p < 36) (hn : n < 36) : ∀ (k : Nat) (N : Nat → Nat → Nat), k ≤ n → Zb (N 145) → lt = zLt (N 145) → (∀ j, j < k → N 151 j < 36) →
    ∃ k', ex 133 37 [some (.ref 144), some (.int (nI n)), some (.int (nI p)), some (.int (nI k))] [] (Z, iN N, L, c) = ex 133 84 [some (.ref 144), some (.int (nI n)), some (.int (nI p)), some (.int (nI k'))] [] (Z, iN (soB lt p k N), L, c)
  | 0, N, hk, hz, hl, hm => by
    refine ⟨0, ?_⟩
    simp (disch := omega) only [r_X8_layOrder_37, r_X8_layOrder_38, r_X8_layOrder_41, r_X8_layOrder_42, r_X8_layOrder_43, r_X8_layOrder_44, r_X8_layOrder_47, r_X8_layOrder_48, r_X8_layOrder_49, r_X8_layOrder_50, r_X8_layOrder_51, r_X8_layOrder_54, r_X8_layOrder_57, r_X8_layOrder_58, r_X8_layOrder_61, r_X8_layOrder_62, r_X8_layOrder_63, r_X8_layOrder_66, r_X8_layOrder_67, r_X8_layOrder_68, r_X8_layOrder_69, r_X8_layOrder_70, r_X8_layOrder_71, r_X8_layOrder_74, r_X8_layOrder_77, r_X8_layOrder_78, r_X8_layOrder_81, r_X8_layOrder_82, r_X8_layOrder_83, hM.1.1, @id (Z.2.2.1 144 0 = .ref 145) hM.1.2.1, @id (Z.2.2.1 144 1 = .ref 146) hM.1.2.2.1, @id (Z.2.2.1 144 2 = .ref 147) hM.1.2.2.2.1, @id (Z.2.2.1 144 3 = .ref 148) hM.1.2.2.2.2.1, @id (Z.2.2.1 144 4 = .ref 149) hM.1.2.2.2.2.2.1, @id (Z.2.2.1 144 5 = .ref 150) hM.1.2.2.2.2.2.2.1, @id (Z.2.2.1 144 6 = .ref 151) hM.1.2.2.2.2.2.2.2, @id (Z.1 145 = 0) hM.2.1.1, @id (Z.1 146 = 0) hM.2.1.2.1, @id (Z.1 147 = 0) hM.2.1.2.2.1, @id (Z.1 148 = 0) hM.2.1.2.2.2.1, @id (Z.1 149 = 0) hM.2.1.2.2.2.2.1, @id (Z.1 150 = 0) hM.2.1.2.2.2.2.2.1, @id (Z.1 151 = 0) hM.2.1.2.2.2.2.2.2, @id (Z.2.1 145 = 667) hM.2.2.1, @id (Z.2.1 146 = 667) hM.2.2.2.1, @id (Z.2.1 147 = 4002) hM.2.2.2.2.1, @id (Z.2.1 148 = 60) hM.2.2.2.2.2.1, @id (Z.2.1 149 = 32) hM.2.2.2.2.2.2.1, @id (Z.2.1 150 = 32) hM.2.2.2.2.2.2.2.1, @id (Z.2.1 151 = 36) hM.2.2.2.2.2.2.2.2, up2_o, up2_e, iN_ap, iN_up, i_ix, i_inb, i_lt, i_lt0, i_0lt, i_eq, i_ne0, i_00, i_11, i_01, i_10, i_b, i_rem2, n_rem, i_add, i_mul, i_sub, i_div, i_max, i_min, rdk_0, rdk_3, kp_none, kp_int, kp_ref, kp_long, kp_double, aK_v, aK_0, aK_ite, if_true, if_false, and_self, and_true, true_and, or_false, false_or, not_true_eq_false, not_false_eq_true, ite_self, ↓reduceIte, Nat.lt_irrefl, soB]
  | k + 1, N, hk, hz, hl, hm => by
    have hm1 := hm k (by omega)
    have e : 0 < k + 1 := by omega
    have hc := s_mComesAhead (L := L) (c := c) hM hp hm1 hz
    rw [← hl] at hc
    by_cases q : lt p (N 151 k) = true
    · have eo : up2 N 151 (k + 1) (N 151 k) 145 = N 145 := by funext j; exact up2_o (by omega)
      obtain ⟨k', ih⟩ := s_mLay_in (lt := lt) hM hp hn k (up2 N 151 (k + 1) (N 151 k)) (by omega) (by rw [eo]; exact hz) (by rw [eo]; exact hl) (fun j hj => by rw [up2_o (by omega)]; exact hm j (by omega))
      refine ⟨k', ?_⟩
      rw [r_X8_layOrder_37]
      simp (disch := omega) only [r_X8_layOrder_38, r_X8_layOrder_41, r_X8_layOrder_42, r_X8_layOrder_43, r_X8_layOrder_44, r_X8_layOrder_47, r_X8_layOrder_48, r_X8_layOrder_49, r_X8_layOrder_50, r_X8_layOrder_51, r_X8_layOrder_54, r_X8_layOrder_57, r_X8_layOrder_58, r_X8_layOrder_61, r_X8_layOrder_62, r_X8_layOrder_63, r_X8_layOrder_66, r_X8_layOrder_67, r_X8_layOrder_68, r_X8_layOrder_69, r_X8_layOrder_70, r_X8_layOrder_71, r_X8_layOrder_74, r_X8_layOrder_77, r_X8_layOrder_78, r_X8_layOrder_81, r_X8_layOrder_82, r_X8_layOrder_83, hM.1.1, @id (Z.2.2.1 144 0 = .ref 145) hM.1.2.1, @id (Z.2.2.1 144 1 = .ref 146) hM.1.2.2.1, @id (Z.2.2.1 144 2 = .ref 147) hM.1.2.2.2.1, @id (Z.2.2.1 144 3 = .ref 148) hM.1.2.2.2.2.1, @id (Z.2.2.1 144 4 = .ref 149) hM.1.2.2.2.2.2.1, @id (Z.2.2.1 144 5 = .ref 150) hM.1.2.2.2.2.2.2.1, @id (Z.2.2.1 144 6 = .ref 151) hM.1.2.2.2.2.2.2.2, @id (Z.1 145 = 0) hM.2.1.1, @id (Z.1 146 = 0) hM.2.1.2.1, @id (Z.1 147 = 0) hM.2.1.2.2.1, @id (Z.1 148 = 0) hM.2.1.2.2.2.1, @id (Z.1 149 = 0) hM.2.1.2.2.2.2.1, @id (Z.1 150 = 0) hM.2.1.2.2.2.2.2.1, @id (Z.1 151 = 0) hM.2.1.2.2.2.2.2.2, @id (Z.2.1 145 = 667) hM.2.2.1, @id (Z.2.1 146 = 667) hM.2.2.2.1, @id (Z.2.1 147 = 4002) hM.2.2.2.2.1, @id (Z.2.1 148 = 60) hM.2.2.2.2.2.1, @id (Z.2.1 149 = 32) hM.2.2.2.2.2.2.1, @id (Z.2.1 150 = 32) hM.2.2.2.2.2.2.2.1, @id (Z.2.1 151 = 36) hM.2.2.2.2.2.2.2.2, up2_o, up2_e, iN_ap, iN_up, i_ix, i_inb, i_lt, i_lt0, i_0lt, i_eq, i_ne0, i_00, i_11, i_01, i_10, i_b, i_rem2, n_rem, i_add, i_mul, i_sub, i_div, i_max, i_min, rdk_0, rdk_3, kp_none, kp_int, kp_ref, kp_long, kp_double, aK_v, aK_0, aK_ite, if_true, if_false, and_self, and_true, true_and, or_false, false_or, not_true_eq_false, not_false_eq_true, ite_self, ↓reduceIte, e, hc, q, Nat.add_sub_cancel, i_m1, ih, soB]
    · refine ⟨k + 1, ?_⟩
      simp (disch := omega) only [r_X8_layOrder_37, r_X8_layOrder_38, r_X8_layOrder_41, r_X8_layOrder_42, r_X8_layOrder_43, r_X8_layOrder_44, r_X8_layOrder_47, r_X8_layOrder_48, r_X8_layOrder_49, r_X8_layOrder_50, r_X8_layOrder_51, r_X8_layOrder_54, r_X8_layOrder_57, r_X8_layOrder_58, r_X8_layOrder_61, r_X8_layOrder_62, r_X8_layOrder_63, r_X8_layOrder_66, r_X8_layOrder_67, r_X8_layOrder_68, r_X8_layOrder_69, r_X8_layOrder_70, r_X8_layOrder_71, r_X8_layOrder_74, r_X8_layOrder_77, r_X8_layOrder_78, r_X8_layOrder_81, r_X8_layOrder_82, r_X8_layOrder_83, hM.1.1, @id (Z.2.2.1 144 0 = .ref 145) hM.1.2.1, @id (Z.2.2.1 144 1 = .ref 146) hM.1.2.2.1, @id (Z.2.2.1 144 2 = .ref 147) hM.1.2.2.2.1, @id (Z.2.2.1 144 3 = .ref 148) hM.1.2.2.2.2.1, @id (Z.2.2.1 144 4 = .ref 149) hM.1.2.2.2.2.2.1, @id (Z.2.2.1 144 5 = .ref 150) hM.1.2.2.2.2.2.2.1, @id (Z.2.2.1 144 6 = .ref 151) hM.1.2.2.2.2.2.2.2, @id (Z.1 145 = 0) hM.2.1.1, @id (Z.1 146 = 0) hM.2.1.2.1, @id (Z.1 147 = 0) hM.2.1.2.2.1, @id (Z.1 148 = 0) hM.2.1.2.2.2.1, @id (Z.1 149 = 0) hM.2.1.2.2.2.2.1, @id (Z.1 150 = 0) hM.2.1.2.2.2.2.2.1, @id (Z.1 151 = 0) hM.2.1.2.2.2.2.2.2, @id (Z.2.1 145 = 667) hM.2.2.1, @id (Z.2.1 146 = 667) hM.2.2.2.1, @id (Z.2.1 147 = 4002) hM.2.2.2.2.1, @id (Z.2.1 148 = 60) hM.2.2.2.2.2.1, @id (Z.2.1 149 = 32) hM.2.2.2.2.2.2.1, @id (Z.2.1 150 = 32) hM.2.2.2.2.2.2.2.1, @id (Z.2.1 151 = 36) hM.2.2.2.2.2.2.2.2, up2_o, up2_e, iN_ap, iN_up, i_ix, i_inb, i_lt, i_lt0, i_0lt, i_eq, i_ne0, i_00, i_11, i_01, i_10, i_b, i_rem2, n_rem, i_add, i_mul, i_sub, i_div, i_max, i_min, rdk_0, rdk_3, kp_none, kp_int, kp_ref, kp_long, kp_double, aK_v, aK_0, aK_ite, if_true, if_false, and_self, and_true, true_and, or_false, false_or, not_true_eq_false, not_false_eq_true, ite_self, ↓reduceIte, e, hc, q, Nat.add_sub_cancel, i_m1, soB, Bool.false_eq_true]
theorem s_mLay_loop (hM : MAt Z) : ∀ (k i : Nat) (l : List Nat) (N : Nat → Nat → Nat) (a3 : Option Value), i + k = 6 * N 145 0 → Zb (N 145) → l.length ≤ i → (∀ x ∈ l, x < i) → AtL (N 151) l.reverse →
    ∃ N', ex 133 4 [some (.ref 144), some (.int (nI l.length)), some (.int (nI i)), a3] [] (Z, iN N, L, c) = some (.inl (some (.int (nI (lfB (N 145) k i l).length))), (Z, iN N', L, c)) ∧ AtL (N' 151) (lfB (N 145) k i l).reverse ∧ ∀ a, a ≠ 151 → N' a = N a
  | 0, i, l, N, a3, e, hz, hli, hx, ha => by
    have e : i = 6 * N 145 0 := by omega
    have h0 := hz.1.1
    refine ⟨N, ?_, ha, fun a _ => rfl⟩
    simp (disch := omega) only [r_X8_layOrder_0, r_X8_layOrder_1, r_X8_layOrder_2, r_X8_layOrder_3, r_X8_layOrder_4, r_X8_layOrder_5, r_X8_layOrder_7, r_X8_layOrder_8, r_X8_layOrder_11, r_X8_layOrder_12, r_X8_layOrder_13, r_X8_layOrder_14, r_X8_layOrder_17, r_X8_layOrder_18, r_X8_layOrder_19, r_X8_layOrder_22, r_X8_layOrder_25, r_X8_layOrder_26, r_X8_layOrder_27, r_X8_layOrder_28, r_X8_layOrder_31, r_X8_layOrder_32, r_X8_layOrder_35, r_X8_layOrder_36, r_X8_layOrder_37, r_X8_layOrder_38, r_X8_layOrder_41, r_X8_layOrder_42, r_X8_layOrder_43, r_X8_layOrder_44, r_X8_layOrder_47, r_X8_layOrder_48, r_X8_layOrder_49, r_X8_layOrder_50, r_X8_layOrder_51, r_X8_layOrder_54, r_X8_layOrder_57, r_X8_layOrder_58, r_X8_layOrder_61, r_X8_layOrder_62, r_X8_layOrder_63, r_X8_layOrder_66, r_X8_layOrder_67, r_X8_layOrder_68, r_X8_layOrder_69, r_X8_layOrder_70, r_X8_layOrder_71, r_X8_layOrder_74, r_X8_layOrder_77, r_X8_layOrder_78, r_X8_layOrder_81, r_X8_layOrder_82, r_X8_layOrder_83, r_X8_layOrder_84, r_X8_layOrder_87, r_X8_layOrder_90, r_X8_layOrder_93, r_X8_layOrder_94, hM.1.1, @id (Z.2.2.1 144 0 = .ref 145) hM.1.2.1, @id (Z.2.2.1 144 1 = .ref 146) hM.1.2.2.1, @id (Z.2.2.1 144 2 = .ref 147) hM.1.2.2.2.1, @id (Z.2.2.1 144 3 = .ref 148) hM.1.2.2.2.2.1, @id (Z.2.2.1 144 4 = .ref 149) hM.1.2.2.2.2.2.1, @id (Z.2.2.1 144 5 = .ref 150) hM.1.2.2.2.2.2.2.1, @id (Z.2.2.1 144 6 = .ref 151) hM.1.2.2.2.2.2.2.2, @id (Z.1 145 = 0) hM.2.1.1, @id (Z.1 146 = 0) hM.2.1.2.1, @id (Z.1 147 = 0) hM.2.1.2.2.1, @id (Z.1 148 = 0) hM.2.1.2.2.2.1, @id (Z.1 149 = 0) hM.2.1.2.2.2.2.1, @id (Z.1 150 = 0) hM.2.1.2.2.2.2.2.1, @id (Z.1 151 = 0) hM.2.1.2.2.2.2.2.2, @id (Z.2.1 145 = 667) hM.2.2.1, @id (Z.2.1 146 = 667) hM.2.2.2.1, @id (Z.2.1 147 = 4002) hM.2.2.2.2.1, @id (Z.2.1 148 = 60) hM.2.2.2.2.2.1, @id (Z.2.1 149 = 32) hM.2.2.2.2.2.2.1, @id (Z.2.1 150 = 32) hM.2.2.2.2.2.2.2.1, @id (Z.2.1 151 = 36) hM.2.2.2.2.2.2.2.2, up2_o, up2_e, iN_ap, iN_up, i_ix, i_inb, i_lt, i_lt0, i_0lt, i_eq, i_ne0, i_00, i_11, i_01, i_10, i_b, i_rem2, n_rem, i_add, i_mul, i_sub, i_div, i_max, i_min, rdk_0, rdk_3, kp_none, kp_int, kp_ref, kp_long, kp_double, aK_v, aK_0, aK_ite, if_true, if_false, and_self, and_true, true_and, or_false, false_or, not_true_eq_false, not_false_eq_true, ite_self, ↓reduceIte, e, Nat.lt_irrefl, lfB]
  | k + 1, i, l, N, a3, e, hz, hli, hx, ha => by
    have h0 := hz.1.1
    have e1 : i < 6 * N 145 0 := by omega
    have hi : i < 36 := by omega
    obtain ⟨b0, b1, b2, b3, b4⟩ := hz.2.2.2.2.1 i hi
    unfold lfB
    by_cases q : zTh (N 145) i = true
    · by_cases q2 : zo (N 145) i 2 = 1
      · have qq : zq (N 145) i = true := zq_iff.mpr ⟨q, q2⟩
        rw [if_pos qq]
        have hlt : ∀ j, j < l.length → N 151 j < 36 := fun j hj => by
          have hj2 : j < l.reverse.length := by rw [List.length_reverse]; exact hj
          have := ha j _ (List.getElem?_eq_getElem hj2)
          rw [this]
          have := hx _ (List.mem_reverse.mp (List.getElem_mem hj2))
          omega
        obtain ⟨k', hin⟩ := s_mLay_in (L := L) (c := c) (lt := zLt (N 145)) hM hi (show l.length < 36 by omega) l.length N (Nat.le_refl _) hz rfl hlt
        have eo : soB (zLt (N 145)) i l.length N 145 = N 145 := soB_o _ _ _ (by omega)
        obtain ⟨N', ih, h2, h3⟩ := s_mLay_loop hM k (i + 1) (insB (zLt (N 145)) i l) (soB (zLt (N 145)) i l.length N) (some (.int (nI k'))) (by rw [eo]; omega) (by rw [eo]; exact hz) (by rw [insB_len]; omega) (fun x hxx => by
          rcases (insB_mem l).mp hxx with z | z
          · omega
          · have := hx x z; omega) (soB_at l N ha)
        rw [eo] at ih h2
        rw [insB_len] at ih
        refine ⟨N', ?_, h2, fun a h => (h3 a h).trans (soB_o _ _ _ h)⟩
        rw [r_X8_layOrder_4]
        simp (disch := omega) only [r_X8_layOrder_5, r_X8_layOrder_7, r_X8_layOrder_8, r_X8_layOrder_11, r_X8_layOrder_12, r_X8_layOrder_13, r_X8_layOrder_14, r_X8_layOrder_17, r_X8_layOrder_18, r_X8_layOrder_19, r_X8_layOrder_22, r_X8_layOrder_25, r_X8_layOrder_26, r_X8_layOrder_27, r_X8_layOrder_28, r_X8_layOrder_31, r_X8_layOrder_32, r_X8_layOrder_35, r_X8_layOrder_36, hM.1.1, @id (Z.2.2.1 144 0 = .ref 145) hM.1.2.1, @id (Z.2.2.1 144 1 = .ref 146) hM.1.2.2.1, @id (Z.2.2.1 144 2 = .ref 147) hM.1.2.2.2.1, @id (Z.2.2.1 144 3 = .ref 148) hM.1.2.2.2.2.1, @id (Z.2.2.1 144 4 = .ref 149) hM.1.2.2.2.2.2.1, @id (Z.2.2.1 144 5 = .ref 150) hM.1.2.2.2.2.2.2.1, @id (Z.2.2.1 144 6 = .ref 151) hM.1.2.2.2.2.2.2.2, @id (Z.1 145 = 0) hM.2.1.1, @id (Z.1 146 = 0) hM.2.1.2.1, @id (Z.1 147 = 0) hM.2.1.2.2.1, @id (Z.1 148 = 0) hM.2.1.2.2.2.1, @id (Z.1 149 = 0) hM.2.1.2.2.2.2.1, @id (Z.1 150 = 0) hM.2.1.2.2.2.2.2.1, @id (Z.1 151 = 0) hM.2.1.2.2.2.2.2.2, @id (Z.2.1 145 = 667) hM.2.2.1, @id (Z.2.1 146 = 667) hM.2.2.2.1, @id (Z.2.1 147 = 4002) hM.2.2.2.2.1, @id (Z.2.1 148 = 60) hM.2.2.2.2.2.1, @id (Z.2.1 149 = 32) hM.2.2.2.2.2.2.1, @id (Z.2.1 150 = 32) hM.2.2.2.2.2.2.2.1, @id (Z.2.1 151 = 36) hM.2.2.2.2.2.2.2.2, up2_o, up2_e, iN_ap, iN_up, i_ix, i_inb, i_lt, i_lt0, i_0lt, i_eq, i_ne0, i_00, i_11, i_01, i_10, i_b, i_rem2, n_rem, i_add, i_mul, i_sub, i_div, i_max, i_min, rdk_0, rdk_3, kp_none, kp_int, kp_ref, kp_long, kp_double, aK_v, aK_0, aK_ite, if_true, if_false, and_self, and_true, true_and, or_false, false_or, not_true_eq_false, not_false_eq_true, ite_self, ↓reduceIte, e1, s_mIsThere hM hi hz, s_mOf hM (show 91 + 16 * i + 2 < 667 by omega), q, q2, hin]
        simp (disch := omega) only [r_X8_layOrder_84, r_X8_layOrder_87, r_X8_layOrder_90, up2_o, up2_e, iN_ap, iN_up, i_ix, i_inb, i_lt, i_lt0, i_0lt, i_eq, i_ne0, i_00, i_11, i_01, i_10, i_b, i_rem2, n_rem, i_add, i_mul, i_sub, i_div, i_max, i_min, rdk_0, rdk_3, kp_none, kp_int, kp_ref, kp_long, kp_double, aK_v, aK_0, aK_ite, if_true, if_false, and_self, and_true, true_and, or_false, false_or, not_true_eq_false, not_false_eq_true, ite_self, ↓reduceIte, ih]
      · have qq : ¬ zq (N 145) i = true := fun x => q2 (zq_iff.mp x).2
        rw [if_neg qq]
        obtain ⟨N', ih, h2, h3⟩ := s_mLay_loop hM k (i + 1) l N a3 (by omega) hz (by omega) (fun x hxx => by have := hx x hxx; omega) ha
        refine ⟨N', ?_, h2, h3⟩
        rw [r_X8_layOrder_4]
        simp (disch := omega) only [r_X8_layOrder_5, r_X8_layOrder_7, r_X8_layOrder_8, r_X8_layOrder_11, r_X8_layOrder_12, r_X8_layOrder_13, r_X8_layOrder_14, r_X8_layOrder_17, r_X8_layOrder_18, r_X8_layOrder_19, r_X8_layOrder_22, r_X8_layOrder_25, r_X8_layOrder_26, r_X8_layOrder_27, r_X8_layOrder_28, r_X8_layOrder_31, r_X8_layOrder_32, r_X8_layOrder_35, r_X8_layOrder_36, r_X8_layOrder_84, r_X8_layOrder_87, r_X8_layOrder_90, hM.1.1, @id (Z.2.2.1 144 0 = .ref 145) hM.1.2.1, @id (Z.2.2.1 144 1 = .ref 146) hM.1.2.2.1, @id (Z.2.2.1 144 2 = .ref 147) hM.1.2.2.2.1, @id (Z.2.2.1 144 3 = .ref 148) hM.1.2.2.2.2.1, @id (Z.2.2.1 144 4 = .ref 149) hM.1.2.2.2.2.2.1, @id (Z.2.2.1 144 5 = .ref 150) hM.1.2.2.2.2.2.2.1, @id (Z.2.2.1 144 6 = .ref 151) hM.1.2.2.2.2.2.2.2, @id (Z.1 145 = 0) hM.2.1.1, @id (Z.1 146 = 0) hM.2.1.2.1, @id (Z.1 147 = 0) hM.2.1.2.2.1, @id (Z.1 148 = 0) hM.2.1.2.2.2.1, @id (Z.1 149 = 0) hM.2.1.2.2.2.2.1, @id (Z.1 150 = 0) hM.2.1.2.2.2.2.2.1, @id (Z.1 151 = 0) hM.2.1.2.2.2.2.2.2, @id (Z.2.1 145 = 667) hM.2.2.1, @id (Z.2.1 146 = 667) hM.2.2.2.1, @id (Z.2.1 147 = 4002) hM.2.2.2.2.1, @id (Z.2.1 148 = 60) hM.2.2.2.2.2.1, @id (Z.2.1 149 = 32) hM.2.2.2.2.2.2.1, @id (Z.2.1 150 = 32) hM.2.2.2.2.2.2.2.1, @id (Z.2.1 151 = 36) hM.2.2.2.2.2.2.2.2, up2_o, up2_e, iN_ap, iN_up, i_ix, i_inb, i_lt, i_lt0, i_0lt, i_eq, i_ne0, i_00, i_11, i_01, i_10, i_b, i_rem2, n_rem, i_add, i_mul, i_sub, i_div, i_max, i_min, rdk_0, rdk_3, kp_none, kp_int, kp_ref, kp_long, kp_double, aK_v, aK_0, aK_ite, if_true, if_false, and_self, and_true, true_and, or_false, false_or, not_true_eq_false, not_false_eq_true, ite_self, ↓reduceIte, e1, s_mIsThere hM hi hz, s_mOf hM (show 91 + 16 * i + 2 < 667 by omega), q, q2, ih]
    · have qq : ¬ zq (N 145) i = true := fun x => q (zq_iff.mp x).1
      rw [if_neg qq]
      obtain ⟨N', ih, h2, h3⟩ := s_mLay_loop hM k (i + 1) l N a3 (by omega) hz (by omega) (fun x hxx => by have := hx x hxx; omega) ha
      refine ⟨N', ?_, h2, h3⟩
      rw [r_X8_layOrder_4]
      simp (disch := omega) only [r_X8_layOrder_5, r_X8_layOrder_7, r_X8_layOrder_8, r_X8_layOrder_11, r_X8_layOrder_12, r_X8_layOrder_13, r_X8_layOrder_14, r_X8_layOrder_17, r_X8_layOrder_18, r_X8_layOrder_19, r_X8_layOrder_22, r_X8_layOrder_25, r_X8_layOrder_26, r_X8_layOrder_27, r_X8_layOrder_28, r_X8_layOrder_31, r_X8_layOrder_32, r_X8_layOrder_35, r_X8_layOrder_36, r_X8_layOrder_84, r_X8_layOrder_87, r_X8_layOrder_90, hM.1.1, @id (Z.2.2.1 144 0 = .ref 145) hM.1.2.1, @id (Z.2.2.1 144 1 = .ref 146) hM.1.2.2.1, @id (Z.2.2.1 144 2 = .ref 147) hM.1.2.2.2.1, @id (Z.2.2.1 144 3 = .ref 148) hM.1.2.2.2.2.1, @id (Z.2.2.1 144 4 = .ref 149) hM.1.2.2.2.2.2.1, @id (Z.2.2.1 144 5 = .ref 150) hM.1.2.2.2.2.2.2.1, @id (Z.2.2.1 144 6 = .ref 151) hM.1.2.2.2.2.2.2.2, @id (Z.1 145 = 0) hM.2.1.1, @id (Z.1 146 = 0) hM.2.1.2.1, @id (Z.1 147 = 0) hM.2.1.2.2.1, @id (Z.1 148 = 0) hM.2.1.2.2.2.1, @id (Z.1 149 = 0) hM.2.1.2.2.2.2.1, @id (Z.1 150 = 0) hM.2.1.2.2.2.2.2.1, @id (Z.1 151 = 0) hM.2.1.2.2.2.2.2.2, @id (Z.2.1 145 = 667) hM.2.2.1, @id (Z.2.1 146 = 667) hM.2.2.2.1, @id (Z.2.1 147 = 4002) hM.2.2.2.2.1, @id (Z.2.1 148 = 60) hM.2.2.2.2.2.1, @id (Z.2.1 149 = 32) hM.2.2.2.2.2.2.1, @id (Z.2.1 150 = 32) hM.2.2.2.2.2.2.2.1, @id (Z.2.1 151 = 36) hM.2.2.2.2.2.2.2.2, up2_o, up2_e, iN_ap, iN_up, i_ix, i_inb, i_lt, i_lt0, i_0lt, i_eq, i_ne0, i_00, i_11, i_01, i_10, i_b, i_rem2, n_rem, i_add, i_mul, i_sub, i_div, i_max, i_min, rdk_0, rdk_3, kp_none, kp_int, kp_ref, kp_long, kp_double, aK_v, aK_0, aK_ite, if_true, if_false, and_self, and_true, true_and, or_false, false_or, not_true_eq_false, not_false_eq_true, ite_self, ↓reduceIte, e1, s_mIsThere hM hi hz, q, Bool.false_eq_true, ih]
theorem s_mLayOrder (hM : MAt Z) (hz : Zb (N 145)) :
    ∃ N', ex 133 0 [some (.ref 144), none, none, none] [] (Z, iN N, L, c) = some (.inl (some (.int (nI (lfB (N 145) (6 * N 145 0) 0 []).length))), (Z, iN N', L, c)) ∧ AtL (N' 151) (lfB (N 145) (6 * N 145 0) 0 []).reverse ∧ ∀ a, a ≠ 151 → N' a = N a := by
  obtain ⟨N', h1, h2, h3⟩ := s_mLay_loop (L := L) (c := c) hM (6 * N 145 0) 0 [] N none (Nat.zero_add _) hz (Nat.le_refl _) (fun x h => by simp at h) (fun i x h => by simp at h)
  refine ⟨N', ?_, h2, h3⟩
  simp only [r_X8_layOrder_0, r_X8_layOrder_1, r_X8_layOrder_2, r_X8_layOrder_3, kp_none, kp_int, kp_ref]
  exact h1
end Mc
