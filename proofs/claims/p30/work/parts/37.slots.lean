/-! the whole queue moved -/
def mv2 (N : Nat → Nat → Nat) (s y : Nat) (q : List Nat) : Nat → Nat → Nat := up2 (clX s (N s 3) 0 (sortX s (N (y + 8)) q 0 N)) s 3 0
def mvT (N : Nat → Nat → Nat) (y : Nat) (q : List Nat) : List Nat := (srtR (N (y + 8)) q []).reverse
theorem mv2_o {N : Nat → Nat → Nat} {s y a j : Nat} {q : List Nat} (h : a < s ∨ s + 4 < a) : mv2 N s y q a j = N a j := by
  unfold mv2
  rw [up2_o (by omega), clX_o _ _ _ _ _ (by omega) (by omega), sortX_o _ _ _ _ _ (by omega)]
section Yw
variable {Z : aZ} {N : Nat → Nat → Nat} {L : Nat → Nat → Int64} {c : Nat × Nat} {y s : Nat}
theorem s_moveAll {q : List Nat} (hy : YAt Z y) (hz : SAt Z s) (hd : s + 4 < y ∨ y + 15 < s) (hs : SH N s) (hq : QH N y q) (hn : q.length ≤ 36) (hb : ∀ x ∈ q, x < 36 ∧ N (y + 8) x < 2147483648 ∧ (1 ≤ x % 6 → N (y + 8) (x - 1) < 2147483648)) (hw : ∀ x, x < 36 → N (y + 6) x ≤ 3) (hr : N (y + 2) 0 < 2147483648) (hc : N (y + 2) 1 < 2147483648) (ht : N y 0 < 2147483648) (hm : mvOK s y (mvT N y q) (mv2 N s y q)) :
    ex 19 0 [some (.ref s), some (.ref y), none, none, none] [] (Z, iN N, L, c) = some (.inl none, (Z, iN (mvX s y (mvT N y q) (mv2 N s y q)), L, c)) := by
  have z0 := hz.1
  have h1 := s_sortByDay (L := L) (c := c) hy hz hd hq hn (fun x hx => ⟨(hb x hx).1, (hb x hx).2.1⟩)
  have hs1 : SH (sortX s (N (y + 8)) q 0 N) s := SH_congr hs (fun a j _ _ => sortX_o _ _ _ _ _ (by omega))
  have e3 : sortX s (N (y + 8)) q 0 N s 3 = N s 3 := sortX_o _ _ _ _ _ (by omega)
  have h2 := s_clearDays (N := sortX s (N (y + 8)) q 0 N) (L := L) (c := c) hz e3 hs.1 (fun j hj => hs1.2.1 j (by rw [e3]; exact hj))
  have hcl := SH_clear hs1
  rw [e3] at hcl
  have hat : AtL (mv2 N s y q (s + 4)) (mvT N y q) := fun i x hx => by
    unfold mv2
    rw [up2_o (by omega), clX_o _ _ _ _ _ (by omega) (by omega)]
    exact sortX_at (s := s) (D := N (y + 8)) q [] N (fun i x h => by simp at h) i x hx
  have hlen : (mvT N y q).length = q.length := by
    unfold mvT
    rw [List.length_reverse, srtR_len]
    rfl
  have h3 := s_moveAll_loop (L := L) (c := c) hy hz hd hn (mvT N y q) 0 (mv2 N s y q) none none (by rw [mv2_o (by omega)]; exact hq.1) (up2_e ⟨rfl, rfl⟩) (by omega)
    (fun j h => by rw [Nat.zero_add]; exact hat j _ (List.getElem?_eq_getElem h))
    (fun x hx => by
      have hx2 : x ∈ q := by
        have := (srtR_mem q []).mp (List.mem_reverse.mp hx)
        simpa using this
      rw [mv2_o (by omega), mv2_o (by omega)]
      exact hb x hx2)
    (fun x hx => by rw [mv2_o (by omega)]; exact hw x hx)
    (fun e _ => by
      obtain ⟨u1, u2⟩ := hcl e
      unfold mv2
      rw [u1, u2]
      omega)
    (by rw [mv2_o (by omega)]; exact hr) (by rw [mv2_o (by omega)]; exact hc) (by rw [mv2_o (by omega)]; exact ht) hm
  unfold mv2 at h3 ⊢
  simp (disch := omega) only [r_X3_moveAll_0, r_X3_moveAll_1, r_X3_moveAll_2, r_X3_moveAll_5, r_X3_moveAll_6, r_X3_moveAll_9, r_X3_moveAll_10, z0, up2_o, up2_e, iN_ap, iN_up, i_ix, i_inb, i_lt, i_lt0, i_0lt, i_eq, i_ne0, i_00, i_11, i_01, i_10, i_b, i_rem2, n_rem, i_add, i_mul, i_sub, i_div, i_max, i_min, rdk_0, rdk_3, kp_none, kp_int, kp_ref, kp_long, kp_double, aK_v, aK_0, aK_ite, if_true, if_false, and_self, and_true, true_and, or_false, false_or, not_true_eq_false, not_false_eq_true, ite_self, ↓reduceIte, h1, h2, h3]
end Yw
