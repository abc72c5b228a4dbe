/-! the queue taken in -/
theorem sPut_o {N : Nat → Nat → Nat} {s d w a j : Nat} (h : a < s ∨ s + 3 < a) : sPut N s d w a j = N a j := by
  unfold sPut
  rw [up2_o (by omega), up2_o (by omega), up2_o (by omega), up2_o (by omega)]
theorem sPut_n {N : Nat → Nat → Nat} {s d w : Nat} : sPut N s d w s 3 = N s 3 + 1 := up2_e ⟨rfl, rfl⟩
def tkX (s y : Nat) : List Nat → (Nat → Nat → Nat) → Nat → Nat → Nat
  | [], N => N
  | p :: rs, N => tkX s y rs (sPut N s (N (y + 8) p) (N (y + 6) p))
theorem tkX_o {s y : Nat} : ∀ (rs : List Nat) (N : Nat → Nat → Nat) (a j : Nat), a < s ∨ s + 3 < a → tkX s y rs N a j = N a j
  | [], _, _, _, _ => rfl
  | p :: rs, N, a, j, h => by
    unfold tkX
    rw [tkX_o rs _ a j h, sPut_o h]
section Yt
variable {Z : aZ} {N : Nat → Nat → Nat} {L : Nat → Nat → Int64} {c : Nat × Nat} {y s : Nat}
theorem s_takeIn_loop {n : Nat} (hy : YAt Z y) (hz : SAt Z s) (hd : s + 4 < y ∨ y + 15 < s) (hn : n ≤ 36) : ∀ (rs : List Nat) (i : Nat) (N : Nat → Nat → Nat) (a3 : Option Value), N y 3 = n → N s 3 = i → i + rs.length = n → (∀ j (h : j < rs.length), N (y + 15) (i + j) = rs[j]) → (∀ x ∈ rs, x < 36 ∧ N (y + 8) x < 1400) →
    ex 16 6 [some (.ref s), some (.ref y), some (.int (nI i)), a3] [] (Z, iN N, L, c) = some (.inl none, (Z, iN (tkX s y rs N), L, c))
  | [], i, N, a3, h3, h4, hi, _, _ => by
    have e : i = n := by simpa using hi
    subst e
    simp (disch := omega) only [r_X3_takeIn_0, r_X3_takeIn_1, r_X3_takeIn_4, r_X3_takeIn_5, r_X3_takeIn_6, r_X3_takeIn_7, r_X3_takeIn_8, r_X3_takeIn_11, r_X3_takeIn_14, r_X3_takeIn_15, r_X3_takeIn_18, r_X3_takeIn_19, r_X3_takeIn_20, r_X3_takeIn_21, r_X3_takeIn_22, r_X3_takeIn_23, r_X3_takeIn_26, r_X3_takeIn_27, r_X3_takeIn_28, r_X3_takeIn_29, r_X3_takeIn_32, r_X3_takeIn_33, r_X3_takeIn_34, r_X3_takeIn_37, r_X3_takeIn_40, r_X3_takeIn_43, hy.1, @id (Z.1 (y + 15) = 0) (yK hy 15 rfl), @id (Z.2.1 (y + 15) = 36) (yL hy 15 rfl), @id (Z.2.2.1 y 18 = .ref (y + 15)) (yR hy 15 rfl), up2_o, up2_e, iN_ap, iN_up, i_ix, i_inb, i_lt, i_lt0, i_0lt, i_eq, i_ne0, i_00, i_11, i_01, i_10, i_b, i_rem2, n_rem, i_add, i_mul, i_sub, i_div, i_max, i_min, rdk_0, rdk_3, kp_none, kp_int, kp_ref, kp_long, kp_double, aK_v, aK_0, aK_ite, if_true, if_false, and_self, and_true, true_and, or_false, false_or, not_true_eq_false, not_false_eq_true, ite_self, ↓reduceIte, h3, Nat.lt_irrefl, tkX]
  | p :: rs, i, N, a3, h3, h4, hi, hq, hb => by
    obtain ⟨e0, hq2⟩ := tl_at hq
    have e : i < n := by simp at hi; omega
    obtain ⟨hp, hdp⟩ := hb p List.mem_cons_self
    have z0 := hz.1
    have hpu := s_putOn (N := N) (L := L) (c := c) (w := N (y + 6) p) hz hdp (by omega)
    have ih := fun a3 => s_takeIn_loop hy hz hd hn rs (i + 1) (sPut N s (N (y + 8) p) (N (y + 6) p)) a3 (by rw [sPut_o (by omega)]; exact h3) (by rw [sPut_n, h4]) (by simp at hi; omega) (fun j hj => by rw [sPut_o (by omega)]; exact hq2 j hj) (fun x hx => by rw [sPut_o (by omega)]; exact hb x (List.mem_cons_of_mem _ hx))
    rw [r_X3_takeIn_6]
    simp (disch := omega) only [r_X3_takeIn_0, r_X3_takeIn_1, r_X3_takeIn_4, r_X3_takeIn_5, r_X3_takeIn_7, r_X3_takeIn_8, r_X3_takeIn_11, r_X3_takeIn_14, r_X3_takeIn_15, r_X3_takeIn_18, r_X3_takeIn_19, r_X3_takeIn_20, r_X3_takeIn_21, r_X3_takeIn_22, r_X3_takeIn_23, r_X3_takeIn_26, r_X3_takeIn_27, r_X3_takeIn_28, r_X3_takeIn_29, r_X3_takeIn_32, r_X3_takeIn_33, r_X3_takeIn_34, r_X3_takeIn_37, r_X3_takeIn_40, r_X3_takeIn_43, hy.1, @id (Z.1 (y + 15) = 0) (yK hy 15 rfl), @id (Z.2.1 (y + 15) = 36) (yL hy 15 rfl), @id (Z.2.2.1 y 18 = .ref (y + 15)) (yR hy 15 rfl), @id (Z.1 (y + 8) = 0) (yK hy 8 rfl), @id (Z.2.1 (y + 8) = 36) (yL hy 8 rfl), @id (Z.2.2.1 y 11 = .ref (y + 8)) (yR hy 8 rfl), @id (Z.1 (y + 6) = 0) (yK hy 6 rfl), @id (Z.2.1 (y + 6) = 36) (yL hy 6 rfl), @id (Z.2.2.1 y 9 = .ref (y + 6)) (yR hy 6 rfl), z0, up2_o, up2_e, iN_ap, iN_up, i_ix, i_inb, i_lt, i_lt0, i_0lt, i_eq, i_ne0, i_00, i_11, i_01, i_10, i_b, i_rem2, n_rem, i_add, i_mul, i_sub, i_div, i_max, i_min, rdk_0, rdk_3, kp_none, kp_int, kp_ref, kp_long, kp_double, aK_v, aK_0, aK_ite, if_true, if_false, and_self, and_true, true_and, or_false, false_or, not_true_eq_false, not_false_eq_true, ite_self, ↓reduceIte, h3, e, e0, hpu, ih, tkX]
theorem s_takeIn {q : List Nat} {n : Nat} (hy : YAt Z y) (hz : SAt Z s) (hd : s + 4 < y ∨ y + 15 < s) (hq : QH N y q) (hn : q.length ≤ 36) (hb : ∀ x ∈ q, x < 36 ∧ N (y + 8) x < 1400) (h3 : N s 3 = n) (hn2 : n ≤ 36) (hu : ∀ j, j < n → N (s + 3) j < 1400) :
    ex 16 0 [some (.ref s), some (.ref y), none, none] [] (Z, iN N, L, c) = some (.inl none, (Z, iN (tkX s y q (up2 (clX s n 0 N) s 3 0)), L, c)) := by
  have z0 := hz.1
  have o : ∀ a j, a < s ∨ s + 3 < a → up2 (clX s n 0 N) s 3 0 a j = N a j := fun a j h => by rw [up2_o (by omega), clX_o _ _ _ _ _ (by omega) (by omega)]
  have hl := s_takeIn_loop (L := L) (c := c) hy hz hd hn q 0 (up2 (clX s n 0 N) s 3 0) none (by rw [o _ _ (by omega)]; exact hq.1) (up2_e ⟨rfl, rfl⟩) (by omega) (fun j h => by rw [Nat.zero_add, o _ _ (by omega)]; exact hq.2 j h) (fun x hx => by rw [o _ _ (by omega)]; exact hb x hx)
  simp (disch := omega) only [r_X3_takeIn_0, r_X3_takeIn_1, r_X3_takeIn_4, r_X3_takeIn_5, z0, up2_o, up2_e, iN_ap, iN_up, i_ix, i_inb, i_lt, i_lt0, i_0lt, i_eq, i_ne0, i_00, i_11, i_01, i_10, i_b, i_rem2, n_rem, i_add, i_mul, i_sub, i_div, i_max, i_min, rdk_0, rdk_3, kp_none, kp_int, kp_ref, kp_long, kp_double, aK_v, aK_0, aK_ite, if_true, if_false, and_self, and_true, true_and, or_false, false_or, not_true_eq_false, not_false_eq_true, ite_self, ↓reduceIte, s_clearDays hz h3 hn2 hu, hl]
end Yt
