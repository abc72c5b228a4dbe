/-! all moved -/
section Yv
variable {Z : aZ} {N : Nat → Nat → Nat} {L : Nat → Nat → Int64} {c : Nat × Nat} {y s : Nat}
theorem mvS_8 {p x b : Nat} (hd : s + 4 < y ∨ y + 15 < s) (hb : N (y + 8) x < b) (hf : foD N s y p < b) : mvS N s y p (y + 8) x < b := by
  unfold mvS
  rw [sPut_o (by omega)]
  split
  · exact hb
  · rw [up2_o (by omega)]
    unfold up2
    split
    · exact hf
    · exact hb
theorem s_moveAll_loop {n : Nat} (hy : YAt Z y) (hz : SAt Z s) (hd : s + 4 < y ∨ y + 15 < s) (hn : n ≤ 36) : ∀ (rs : List Nat) (i : Nat) (N : Nat → Nat → Nat) (a3 a4 : Option Value), N y 3 = n → N s 3 = i → i + rs.length = n → (∀ j (h : j < rs.length), N (s + 4) (i + j) = rs[j]) → (∀ x ∈ rs, x < 36 ∧ N (y + 8) x < 2147483648 ∧ (1 ≤ x % 6 → N (y + 8) (x - 1) < 2147483648)) → (∀ x, x < 36 → N (y + 6) x ≤ 3) → (∀ e, e < 1400 → N (s + 1) e ≤ i ∧ N (s + 2) e ≤ 3 * i) → N (y + 2) 0 < 2147483648 → N (y + 2) 1 < 2147483648 → N y 0 < 2147483648 → mvOK s y rs N →
    ex 19 11 [some (.ref s), some (.ref y), some (.int (nI i)), a3, a4] [] (Z, iN N, L, c) = some (.inl none, (Z, iN (mvX s y rs N), L, c))
  | [], i, N, a3, a4, h3, h4, hi, _, _, _, _, _, _, _, _ => by
    have e : i = n := by simpa using hi
    subst e
    simp (disch := omega) only [r_X3_moveAll_0, r_X3_moveAll_1, r_X3_moveAll_2, r_X3_moveAll_5, r_X3_moveAll_6, r_X3_moveAll_9, r_X3_moveAll_10, r_X3_moveAll_11, r_X3_moveAll_12, r_X3_moveAll_13, r_X3_moveAll_16, r_X3_moveAll_19, r_X3_moveAll_20, r_X3_moveAll_23, r_X3_moveAll_24, r_X3_moveAll_25, r_X3_moveAll_26, r_X3_moveAll_27, r_X3_moveAll_28, r_X3_moveAll_29, r_X3_moveAll_32, r_X3_moveAll_34, r_X3_moveAll_36, r_X3_moveAll_37, r_X3_moveAll_40, r_X3_moveAll_41, r_X3_moveAll_42, r_X3_moveAll_45, r_X3_moveAll_46, r_X3_moveAll_49, r_X3_moveAll_50, r_X3_moveAll_52, r_X3_moveAll_53, r_X3_moveAll_54, r_X3_moveAll_57, r_X3_moveAll_58, r_X3_moveAll_59, r_X3_moveAll_60, r_X3_moveAll_61, r_X3_moveAll_62, r_X3_moveAll_63, r_X3_moveAll_64, r_X3_moveAll_66, r_X3_moveAll_67, r_X3_moveAll_70, r_X3_moveAll_71, r_X3_moveAll_72, r_X3_moveAll_75, r_X3_moveAll_78, r_X3_moveAll_81, hy.1, @id (Z.1 (y + 15) = 0) (yK hy 15 rfl), @id (Z.2.1 (y + 15) = 36) (yL hy 15 rfl), @id (Z.2.2.1 y 18 = .ref (y + 15)) (yR hy 15 rfl), up2_o, up2_e, iN_ap, iN_up, i_ix, i_inb, i_lt, i_lt0, i_0lt, i_eq, i_ne0, i_00, i_11, i_01, i_10, i_b, i_rem2, n_rem, i_add, i_mul, i_sub, i_div, i_max, i_min, rdk_0, rdk_3, kp_none, kp_int, kp_ref, kp_long, kp_double, aK_v, aK_0, aK_ite, if_true, if_false, and_self, and_true, true_and, or_false, false_or, not_true_eq_false, not_false_eq_true, ite_self, ↓reduceIte, h3, Nat.lt_irrefl, mvX]
  | p :: rs, i, N, a3, a4, h3, h4, hi, hq, hb, hw, hk, hr, hc, ht, hm => by
    obtain ⟨e0, hq2⟩ := tl_at hq
    have e : i < n := by simp at hi; omega
    obtain ⟨hp, hdp, hda⟩ := hb p List.mem_cons_self
    obtain ⟨⟨hf, ho⟩, hm2⟩ := hm
    have hwp := hw p hp
    have z0 := hz.1
    have hfo := s_firstOpen (N := N) (L := L) (c := c) hy hz hf hp hda (fun e he => by have := (hk e he).1; omega) (fun e he => by have := (hk e he).2; omega) (by omega) hr hc hdp ht ho (foX_ge _ _) (fun x h1 h2 => foX_no _ _ x h1 h2)
    have hpu := fun N1 (h : N1 s 3 = i) => s_putOn (N := N1) (L := L) (c := c) (w := N (y + 6) p) hz hf (by omega)
    have ih := fun a3 a4 => s_moveAll_loop hy hz hd hn rs (i + 1) (mvS N s y p) a3 a4 (by rw [mvS_o (by omega) (by omega) (by omega)]; exact h3) (by rw [mvS_n hd, h4]) (by simp at hi; omega) (fun j hj => by rw [mvS_o (by omega) (by omega) (by omega)]; exact hq2 j hj) (fun x hx => by
      obtain ⟨u1, u2, u3⟩ := hb x (List.mem_cons_of_mem _ hx)
      exact ⟨u1, mvS_8 hd u2 (by omega), fun h => mvS_8 hd (u3 h) (by omega)⟩) (fun x hx => by rw [mvS_o (by omega) (by omega) (by omega)]; exact hw x hx) (mvS_i hd hwp hk hf) (by rw [mvS_o (by omega) (by omega) (by omega)]; exact hr) (by rw [mvS_o (by omega) (by omega) (by omega)]; exact hc) (by rw [mvS_o (by omega) (by omega) (by omega)]; exact ht) hm2
    rw [r_X3_moveAll_11]
    by_cases q : foD N s y p = N (y + 8) p
    · have hpu1 := hpu N h4
      have em : mvS N s y p = sPut N s (foD N s y p) (N (y + 6) p) := by
        unfold mvS
        rw [if_pos q]
      rw [em] at ih
      rw [q] at ih hpu1 hfo
      simp (disch := omega) only [r_X3_moveAll_0, r_X3_moveAll_1, r_X3_moveAll_2, r_X3_moveAll_5, r_X3_moveAll_6, r_X3_moveAll_9, r_X3_moveAll_10, r_X3_moveAll_12, r_X3_moveAll_13, r_X3_moveAll_16, r_X3_moveAll_19, r_X3_moveAll_20, r_X3_moveAll_23, r_X3_moveAll_24, r_X3_moveAll_25, r_X3_moveAll_26, r_X3_moveAll_27, r_X3_moveAll_28, r_X3_moveAll_29, r_X3_moveAll_32, r_X3_moveAll_34, r_X3_moveAll_36, r_X3_moveAll_37, r_X3_moveAll_40, r_X3_moveAll_41, r_X3_moveAll_42, r_X3_moveAll_45, r_X3_moveAll_46, r_X3_moveAll_49, r_X3_moveAll_50, r_X3_moveAll_52, r_X3_moveAll_53, r_X3_moveAll_54, r_X3_moveAll_57, r_X3_moveAll_58, r_X3_moveAll_59, r_X3_moveAll_60, r_X3_moveAll_61, r_X3_moveAll_62, r_X3_moveAll_63, r_X3_moveAll_64, r_X3_moveAll_66, r_X3_moveAll_67, r_X3_moveAll_70, r_X3_moveAll_71, r_X3_moveAll_72, r_X3_moveAll_75, r_X3_moveAll_78, r_X3_moveAll_81, hy.1, @id (Z.1 (y + 8) = 0) (yK hy 8 rfl), @id (Z.2.1 (y + 8) = 36) (yL hy 8 rfl), @id (Z.2.2.1 y 11 = .ref (y + 8)) (yR hy 8 rfl), @id (Z.1 (y + 6) = 0) (yK hy 6 rfl), @id (Z.2.1 (y + 6) = 36) (yL hy 6 rfl), @id (Z.2.2.1 y 9 = .ref (y + 6)) (yR hy 6 rfl), hz.2.2.2.2.1, hz.2.2.2.2.2.2.2.2.1, hz.2.2.2.2.2.2.2.2.2.2.2.2, z0, up2_o, up2_e, iN_ap, iN_up, i_ix, i_inb, i_lt, i_lt0, i_0lt, i_eq, i_ne0, i_00, i_11, i_01, i_10, i_b, i_rem2, n_rem, i_add, i_mul, i_sub, i_div, i_max, i_min, rdk_0, rdk_3, kp_none, kp_int, kp_ref, kp_long, kp_double, aK_v, aK_0, aK_ite, if_true, if_false, and_self, and_true, true_and, or_false, false_or, not_true_eq_false, not_false_eq_true, ite_self, ↓reduceIte, h3, e, e0, hfo, hpu1, ih, mvX, em, q]
    · have hpu1 := hpu (up2 (up2 N (y + 8) p (foD N s y p)) (y + 11) p (N (y + 11) p + 1)) (by rw [up2_o (by omega), up2_o (by omega)]; exact h4)
      have em : mvS N s y p = sPut (up2 (up2 N (y + 8) p (foD N s y p)) (y + 11) p (N (y + 11) p + 1)) s (foD N s y p) (N (y + 6) p) := by
        unfold mvS
        rw [if_neg q]
      rw [em] at ih
      simp (disch := omega) only [r_X3_moveAll_0, r_X3_moveAll_1, r_X3_moveAll_2, r_X3_moveAll_5, r_X3_moveAll_6, r_X3_moveAll_9, r_X3_moveAll_10, r_X3_moveAll_12, r_X3_moveAll_13, r_X3_moveAll_16, r_X3_moveAll_19, r_X3_moveAll_20, r_X3_moveAll_23, r_X3_moveAll_24, r_X3_moveAll_25, r_X3_moveAll_26, r_X3_moveAll_27, r_X3_moveAll_28, r_X3_moveAll_29, r_X3_moveAll_32, r_X3_moveAll_34, r_X3_moveAll_36, r_X3_moveAll_37, r_X3_moveAll_40, r_X3_moveAll_41, r_X3_moveAll_42, r_X3_moveAll_45, r_X3_moveAll_46, r_X3_moveAll_49, r_X3_moveAll_50, r_X3_moveAll_52, r_X3_moveAll_53, r_X3_moveAll_54, r_X3_moveAll_57, r_X3_moveAll_58, r_X3_moveAll_59, r_X3_moveAll_60, r_X3_moveAll_61, r_X3_moveAll_62, r_X3_moveAll_63, r_X3_moveAll_64, r_X3_moveAll_66, r_X3_moveAll_67, r_X3_moveAll_70, r_X3_moveAll_71, r_X3_moveAll_72, r_X3_moveAll_75, r_X3_moveAll_78, r_X3_moveAll_81, hy.1, @id (Z.1 (y + 8) = 0) (yK hy 8 rfl), @id (Z.2.1 (y + 8) = 36) (yL hy 8 rfl), @id (Z.2.2.1 y 11 = .ref (y + 8)) (yR hy 8 rfl), @id (Z.1 (y + 6) = 0) (yK hy 6 rfl), @id (Z.2.1 (y + 6) = 36) (yL hy 6 rfl), @id (Z.2.2.1 y 9 = .ref (y + 6)) (yR hy 6 rfl), @id (Z.1 (y + 11) = 0) (yK hy 11 rfl), @id (Z.2.1 (y + 11) = 36) (yL hy 11 rfl), @id (Z.2.2.1 y 14 = .ref (y + 11)) (yR hy 11 rfl), hz.2.2.2.2.1, hz.2.2.2.2.2.2.2.2.1, hz.2.2.2.2.2.2.2.2.2.2.2.2, z0, up2_o, up2_e, iN_ap, iN_up, i_ix, i_inb, i_lt, i_lt0, i_0lt, i_eq, i_ne0, i_00, i_11, i_01, i_10, i_b, i_rem2, n_rem, i_add, i_mul, i_sub, i_div, i_max, i_min, rdk_0, rdk_3, kp_none, kp_int, kp_ref, kp_long, kp_double, aK_v, aK_0, aK_ite, if_true, if_false, and_self, and_true, true_and, or_false, false_or, not_true_eq_false, not_false_eq_true, ite_self, ↓reduceIte, h3, e, e0, i_eq, hfo, hpu1, ih, mvX, em, q]
end Yv
