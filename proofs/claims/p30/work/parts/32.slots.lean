/-! the queue sorted by day -/
/-- p brought in below the first k, from their end -/
def soX (s p : Nat) (D : Nat → Nat) : Nat → (Nat → Nat → Nat) → Nat → Nat → Nat
  | 0, N => up2 N (s + 4) 0 p
  | k + 1, N => if D p < D (N (s + 4) k) then soX s p D k (up2 N (s + 4) (k + 1) (N (s + 4) k)) else up2 N (s + 4) (k + 1) p
def sortX (s : Nat) (D : Nat → Nat) : List Nat → Nat → (Nat → Nat → Nat) → Nat → Nat → Nat
  | [], _, N => N
  | p :: rs, i, N => sortX s D rs (i + 1) (soX s p D i N)
theorem soX_o {s p : Nat} {D : Nat → Nat} : ∀ (k : Nat) (N : Nat → Nat → Nat) (a j : Nat), a ≠ s + 4 → soX s p D k N a j = N a j
  | 0, N, a, j, h => up2_o (fun z => h z.1)
  | k + 1, N, a, j, h => by
    unfold soX
    split
    · rw [soX_o k _ a j h, up2_o (fun z => h z.1)]
    · exact up2_o (fun z => h z.1)
theorem sortX_o {s : Nat} {D : Nat → Nat} : ∀ (rs : List Nat) (i : Nat) (N : Nat → Nat → Nat) (a j : Nat), a ≠ s + 4 → sortX s D rs i N a j = N a j
  | [], _, _, _, _, _ => rfl
  | p :: rs, i, N, a, j, h => by
    unfold sortX
    rw [sortX_o rs _ _ a j h, soX_o _ _ _ _ h]
theorem soX_all {s p : Nat} {D : Nat → Nat} {P : Nat → Prop} (hp : P p) : ∀ (k i : Nat) (N : Nat → Nat → Nat), k ≤ i → (∀ j, j ≤ i → j ≠ k → P (N (s + 4) j)) → ∀ j, j ≤ i → P (soX s p D k N (s + 4) j)
  | 0, i, N, hk, h, j, hj => by
    unfold soX
    by_cases e : j = 0
    · rw [up2_e ⟨rfl, e⟩]; exact hp
    · rw [up2_o (fun z => e z.2)]; exact h j hj e
  | k + 1, i, N, hk, h, j, hj => by
    unfold soX
    split
    · refine soX_all hp k i _ (by omega) (fun x hx hxk => ?_) j hj
      by_cases e : x = k + 1
      · rw [up2_e ⟨rfl, e⟩]; exact h k (by omega) (by omega)
      · rw [up2_o (fun z => e z.2)]; exact h x hx e
    · by_cases e : j = k + 1
      · rw [up2_e ⟨rfl, e⟩]; exact hp
      · rw [up2_o (fun z => e z.2)]; exact h j hj e
theorem i_m1 {k : Nat} : nI (k + 1) + (-1) = nI k := by
  have e : (-1 : Int32) = - nI 1 := by decide
  rw [e, ← Int32.sub_eq_add_neg, i_sub (by omega), Nat.add_sub_cancel]
section Yr
variable {Z : aZ} {N : Nat → Nat → Nat} {L : Nat → Nat → Int64} {c : Nat × Nat} {y s : Nat}
theorem s_sort_in {p i : Nat} {D : Nat → Nat} (hy : YAt Z y) (hz : SAt Z s) (hd : s + 4 < y ∨ y + 15 < s) (hp : p < 36) (hdp : D p < 2147483648) (hi : i < 36) : ∀ (k : Nat) (N : Nat → Nat → Nat), k ≤ i → (∀ j, N (y + 8) j = D j) → (∀ j, j < k → N (s + 4) j < 36 ∧ D (N (s + 4) j) < 2147483648) →
    ∃ k', ex 20 20 [some (.ref s), some (.ref y), some (.int (nI i)), some (.int (nI p)), some (.int (nI k))] [] (Z, iN N, L, c) = ex 20 78 [some (.ref s), some (.ref y), some (.int (nI i)), some (.int (nI p)), some (.int (nI k'))] [] (Z, iN (soX s p D k N), L, c)
  | 0, N, hk, hD, hm => by
    obtain ⟨z0, z1, z2, z3, z4, l1, l2, l3, l4, r0, r1, r2, r4⟩ := hz
    refine ⟨0, ?_⟩
    simp (disch := omega) only [r_X3_sortByDay_20, r_X3_sortByDay_22, r_X3_sortByDay_25, r_X3_sortByDay_26, r_X3_sortByDay_29, r_X3_sortByDay_30, r_X3_sortByDay_33, r_X3_sortByDay_35, r_X3_sortByDay_36, r_X3_sortByDay_37, r_X3_sortByDay_38, r_X3_sortByDay_39, r_X3_sortByDay_40, r_X3_sortByDay_43, r_X3_sortByDay_44, r_X3_sortByDay_45, r_X3_sortByDay_48, r_X3_sortByDay_49, r_X3_sortByDay_52, r_X3_sortByDay_54, r_X3_sortByDay_55, r_X3_sortByDay_58, r_X3_sortByDay_60, r_X3_sortByDay_61, r_X3_sortByDay_62, r_X3_sortByDay_63, r_X3_sortByDay_64, r_X3_sortByDay_67, r_X3_sortByDay_70, r_X3_sortByDay_71, r_X3_sortByDay_74, r_X3_sortByDay_76, r_X3_sortByDay_77, hy.1, @id (Z.1 (y + 8) = 0) (yK hy 8 rfl), @id (Z.2.1 (y + 8) = 36) (yL hy 8 rfl), @id (Z.2.2.1 y 11 = .ref (y + 8)) (yR hy 8 rfl), z0, z4, l4, r4, up2_o, up2_e, iN_ap, iN_up, i_ix, i_inb, i_lt, i_lt0, i_0lt, i_eq, i_ne0, i_00, i_11, i_01, i_10, i_b, i_rem2, n_rem, i_add, i_mul, i_sub, i_div, i_max, i_min, rdk_0, rdk_3, kp_none, kp_int, kp_ref, kp_long, kp_double, aK_v, aK_0, aK_ite, if_true, if_false, and_self, and_true, true_and, or_false, false_or, not_true_eq_false, not_false_eq_true, ite_self, ↓reduceIte, Nat.lt_irrefl, soX]
  | k + 1, N, hk, hD, hm => by
    obtain ⟨hm1, hm2⟩ := hm k (by omega)
    have e : 0 < k + 1 := by omega
    by_cases q : D p < D (N (s + 4) k)
    · obtain ⟨k', ih⟩ := s_sort_in (D := D) hy hz hd hp hdp hi k (up2 N (s + 4) (k + 1) (N (s + 4) k)) (by omega) (fun j => by rw [up2_o (by omega)]; exact hD j) (fun j hj => by rw [up2_o (by omega)]; exact hm j (by omega))
      obtain ⟨z0, z1, z2, z3, z4, l1, l2, l3, l4, r0, r1, r2, r4⟩ := hz
      refine ⟨k', ?_⟩
      rw [r_X3_sortByDay_20]
      simp (disch := omega) only [r_X3_sortByDay_22, r_X3_sortByDay_25, r_X3_sortByDay_26, r_X3_sortByDay_29, r_X3_sortByDay_30, r_X3_sortByDay_33, r_X3_sortByDay_35, r_X3_sortByDay_36, r_X3_sortByDay_37, r_X3_sortByDay_38, r_X3_sortByDay_39, r_X3_sortByDay_40, r_X3_sortByDay_43, r_X3_sortByDay_44, r_X3_sortByDay_45, r_X3_sortByDay_48, r_X3_sortByDay_49, r_X3_sortByDay_52, r_X3_sortByDay_54, r_X3_sortByDay_55, r_X3_sortByDay_58, r_X3_sortByDay_60, r_X3_sortByDay_61, r_X3_sortByDay_62, r_X3_sortByDay_63, r_X3_sortByDay_64, r_X3_sortByDay_67, r_X3_sortByDay_70, r_X3_sortByDay_71, r_X3_sortByDay_74, r_X3_sortByDay_76, r_X3_sortByDay_77, hy.1, @id (Z.1 (y + 8) = 0) (yK hy 8 rfl), @id (Z.2.1 (y + 8) = 36) (yL hy 8 rfl), @id (Z.2.2.1 y 11 = .ref (y + 8)) (yR hy 8 rfl), z0, z4, l4, r4, up2_o, up2_e, iN_ap, iN_up, i_ix, i_inb, i_lt, i_lt0, i_0lt, i_eq, i_ne0, i_00, i_11, i_01, i_10, i_b, i_rem2, n_rem, i_add, i_mul, i_sub, i_div, i_max, i_min, rdk_0, rdk_3, kp_none, kp_int, kp_ref, kp_long, kp_double, aK_v, aK_0, aK_ite, if_true, if_false, and_self, and_true, true_and, or_false, false_or, not_true_eq_false, not_false_eq_true, ite_self, ↓reduceIte, e, hD, q, Nat.add_sub_cancel, i_m1, ih, soX]
    · obtain ⟨z0, z1, z2, z3, z4, l1, l2, l3, l4, r0, r1, r2, r4⟩ := hz
      refine ⟨k + 1, ?_⟩
      simp (disch := omega) only [r_X3_sortByDay_20, r_X3_sortByDay_22, r_X3_sortByDay_25, r_X3_sortByDay_26, r_X3_sortByDay_29, r_X3_sortByDay_30, r_X3_sortByDay_33, r_X3_sortByDay_35, r_X3_sortByDay_36, r_X3_sortByDay_37, r_X3_sortByDay_38, r_X3_sortByDay_39, r_X3_sortByDay_40, r_X3_sortByDay_43, r_X3_sortByDay_44, r_X3_sortByDay_45, r_X3_sortByDay_48, r_X3_sortByDay_49, r_X3_sortByDay_52, r_X3_sortByDay_54, r_X3_sortByDay_55, r_X3_sortByDay_58, r_X3_sortByDay_60, r_X3_sortByDay_61, r_X3_sortByDay_62, r_X3_sortByDay_63, r_X3_sortByDay_64, r_X3_sortByDay_67, r_X3_sortByDay_70, r_X3_sortByDay_71, r_X3_sortByDay_74, r_X3_sortByDay_76, r_X3_sortByDay_77, hy.1, @id (Z.1 (y + 8) = 0) (yK hy 8 rfl), @id (Z.2.1 (y + 8) = 36) (yL hy 8 rfl), @id (Z.2.2.1 y 11 = .ref (y + 8)) (yR hy 8 rfl), z0, z4, l4, r4, up2_o, up2_e, iN_ap, iN_up, i_ix, i_inb, i_lt, i_lt0, i_0lt, i_eq, i_ne0, i_00, i_11, i_01, i_10, i_b, i_rem2, n_rem, i_add, i_mul, i_sub, i_div, i_max, i_min, rdk_0, rdk_3, kp_none, kp_int, kp_ref, kp_long, kp_double, aK_v, aK_0, aK_ite, if_true, if_false, and_self, and_true, true_and, or_false, false_or, not_true_eq_false, not_false_eq_true, ite_self, ↓reduceIte, e, hD, q, Nat.add_sub_cancel, soX]
theorem s_sort_loop {n : Nat} {D : Nat → Nat} (hy : YAt Z y) (hz : SAt Z s) (hd : s + 4 < y ∨ y + 15 < s) (hn : n ≤ 36) : ∀ (rs : List Nat) (i : Nat) (N : Nat → Nat → Nat) (a3 a4 : Option Value), N y 3 = n → i + rs.length = n → (∀ j (h : j < rs.length), N (y + 15) (i + j) = rs[j]) → (∀ x ∈ rs, x < 36 ∧ D x < 2147483648) → (∀ j, N (y + 8) j = D j) → (∀ j, j < i → N (s + 4) j < 36 ∧ D (N (s + 4) j) < 2147483648) →
    ex 20 2 [some (.ref s), some (.ref y), some (.int (nI i)), a3, a4] [] (Z, iN N, L, c) = some (.inl none, (Z, iN (sortX s D rs i N), L, c))
  | [], i, N, a3, a4, h3, hi, _, _, _, _ => by
    have e : i = n := by simpa using hi
    subst e
    simp (disch := omega) only [r_X3_sortByDay_0, r_X3_sortByDay_1, r_X3_sortByDay_2, r_X3_sortByDay_3, r_X3_sortByDay_4, r_X3_sortByDay_7, r_X3_sortByDay_10, r_X3_sortByDay_11, r_X3_sortByDay_14, r_X3_sortByDay_15, r_X3_sortByDay_16, r_X3_sortByDay_17, r_X3_sortByDay_18, r_X3_sortByDay_20, r_X3_sortByDay_22, r_X3_sortByDay_25, r_X3_sortByDay_26, r_X3_sortByDay_29, r_X3_sortByDay_30, r_X3_sortByDay_33, r_X3_sortByDay_35, r_X3_sortByDay_36, r_X3_sortByDay_37, r_X3_sortByDay_38, r_X3_sortByDay_39, r_X3_sortByDay_40, r_X3_sortByDay_43, r_X3_sortByDay_44, r_X3_sortByDay_45, r_X3_sortByDay_48, r_X3_sortByDay_49, r_X3_sortByDay_52, r_X3_sortByDay_54, r_X3_sortByDay_55, r_X3_sortByDay_58, r_X3_sortByDay_60, r_X3_sortByDay_61, r_X3_sortByDay_62, r_X3_sortByDay_63, r_X3_sortByDay_64, r_X3_sortByDay_67, r_X3_sortByDay_70, r_X3_sortByDay_71, r_X3_sortByDay_74, r_X3_sortByDay_76, r_X3_sortByDay_77, r_X3_sortByDay_78, r_X3_sortByDay_81, r_X3_sortByDay_84, hy.1, @id (Z.1 (y + 15) = 0) (yK hy 15 rfl), @id (Z.2.1 (y + 15) = 36) (yL hy 15 rfl), @id (Z.2.2.1 y 18 = .ref (y + 15)) (yR hy 15 rfl), up2_o, up2_e, iN_ap, iN_up, i_ix, i_inb, i_lt, i_lt0, i_0lt, i_eq, i_ne0, i_00, i_11, i_01, i_10, i_b, i_rem2, n_rem, i_add, i_mul, i_sub, i_div, i_max, i_min, rdk_0, rdk_3, kp_none, kp_int, kp_ref, kp_long, kp_double, aK_v, aK_0, aK_ite, if_true, if_false, and_self, and_true, true_and, or_false, false_or, not_true_eq_false, not_false_eq_true, ite_self, ↓reduceIte, h3, Nat.lt_irrefl, sortX]
  | p :: rs, i, N, a3, a4, h3, hi, hq, hb, hD, hm => by
    obtain ⟨e0, hq2⟩ := tl_at hq
    have e : i < n := by simp at hi; omega
    obtain ⟨hp, hdp⟩ := hb p List.mem_cons_self
    obtain ⟨k', hin⟩ := s_sort_in (L := L) (c := c) (D := D) hy hz hd hp hdp (by omega) i N (Nat.le_refl _) hD hm
    have hall := soX_all (s := s) (D := D) (P := fun x => x < 36 ∧ D x < 2147483648) ⟨hp, hdp⟩ i i N (Nat.le_refl _) (fun j hj hne => hm j (by omega))
    have ih := fun a3 a4 => s_sort_loop (D := D) hy hz hd hn rs (i + 1) (soX s p D i N) a3 a4 (by rw [soX_o _ _ _ _ (by omega)]; exact h3) (by simp at hi; omega) (fun j hj => by rw [soX_o _ _ _ _ (by omega)]; exact hq2 j hj) (fun x hx => hb x (List.mem_cons_of_mem _ hx)) (fun j => by rw [soX_o _ _ _ _ (by omega)]; exact hD j) (fun j hj => hall j (by omega))
    rw [r_X3_sortByDay_2]
    simp (disch := omega) only [r_X3_sortByDay_3, r_X3_sortByDay_4, r_X3_sortByDay_7, r_X3_sortByDay_10, r_X3_sortByDay_11, r_X3_sortByDay_14, r_X3_sortByDay_15, r_X3_sortByDay_16, r_X3_sortByDay_17, r_X3_sortByDay_18, hy.1, @id (Z.1 (y + 15) = 0) (yK hy 15 rfl), @id (Z.2.1 (y + 15) = 36) (yL hy 15 rfl), @id (Z.2.2.1 y 18 = .ref (y + 15)) (yR hy 15 rfl), up2_o, up2_e, iN_ap, iN_up, i_ix, i_inb, i_lt, i_lt0, i_0lt, i_eq, i_ne0, i_00, i_11, i_01, i_10, i_b, i_rem2, n_rem, i_add, i_mul, i_sub, i_div, i_max, i_min, rdk_0, rdk_3, kp_none, kp_int, kp_ref, kp_long, kp_double, aK_v, aK_0, aK_ite, if_true, if_false, and_self, and_true, true_and, or_false, false_or, not_true_eq_false, not_false_eq_true, ite_self, ↓reduceIte, h3, e, e0, hin]
    simp (disch := omega) only [r_X3_sortByDay_78, r_X3_sortByDay_81, up2_o, up2_e, iN_ap, iN_up, i_ix, i_inb, i_lt, i_lt0, i_0lt, i_eq, i_ne0, i_00, i_11, i_01, i_10, i_b, i_rem2, n_rem, i_add, i_mul, i_sub, i_div, i_max, i_min, rdk_0, rdk_3, kp_none, kp_int, kp_ref, kp_long, kp_double, aK_v, aK_0, aK_ite, if_true, if_false, and_self, and_true, true_and, or_false, false_or, not_true_eq_false, not_false_eq_true, ite_self, ↓reduceIte, ih, sortX]
theorem s_sortByDay {q : List Nat} (hy : YAt Z y) (hz : SAt Z s) (hd : s + 4 < y ∨ y + 15 < s) (hq : QH N y q) (hn : q.length ≤ 36) (hb : ∀ x ∈ q, x < 36 ∧ N (y + 8) x < 2147483648) :
    ex 20 0 [some (.ref s), some (.ref y), none, none, none] [] (Z, iN N, L, c) = some (.inl none, (Z, iN (sortX s (N (y + 8)) q 0 N), L, c)) := by
  have hl := s_sort_loop (L := L) (c := c) (D := N (y + 8)) hy hz hd hn q 0 N none none hq.1 (by omega) (fun j h => by rw [Nat.zero_add]; exact hq.2 j h) hb (fun j => rfl) (fun j hj => by omega)
  simp only [r_X3_sortByDay_0, r_X3_sortByDay_1, kp_none, kp_int, kp_ref]
  exact hl
end Yr
