/-! the law books and unbooks -/
theorem stg_bk {R : aY} {p d x : Nat} (h4 : R 4 (p / 6) = p % 6) (h5 : R 5 (p / 6) ≤ R 4 (p / 6)) : stg (bkR R p d) x = if x = p then 1 else stg R x := by
  unfold stg bkR
  rw [up2_o (j := x / 6) (by omega), up2_o (j := x / 6) (by omega)]
  by_cases z : x = p
  · rw [if_pos z, z, if_neg (by omega), up2_e ⟨rfl, rfl⟩, if_pos (by omega)]
  · rw [if_neg z]
    by_cases w : x / 6 = p / 6
    · rw [up2_e ⟨rfl, w⟩]
      have e : R 4 (x / 6) = p % 6 := by rw [w]; exact h4
      rw [h4, e]
      split
      · rfl
      · by_cases v : x % 6 < p % 6
        · rw [if_pos v, if_pos (by omega)]
        · rw [if_neg v, if_neg (by omega)]
    · rw [up2_o (by omega), up2_o (by omega)]
theorem stg_ub {R : aY} {p x : Nat} (h4 : R 4 (p / 6) = p % 6 + 1) (h5 : R 5 (p / 6) < R 4 (p / 6)) : stg (ubR R p) x = if x = p then 0 else stg R x := by
  unfold stg ubR
  rw [up2_o (j := x / 6) (by omega), up2_o (j := x / 6) (by omega), up2_o (j := x / 6) (by omega)]
  by_cases z : x = p
  · rw [if_pos z, z, if_neg (by omega), up2_e ⟨rfl, rfl⟩, if_neg (by omega)]
  · rw [if_neg z]
    by_cases w : x / 6 = p / 6
    · rw [up2_e ⟨rfl, w⟩]
      have e : R 4 (x / 6) = p % 6 + 1 := by rw [w]; exact h4
      rw [h4, e, Nat.add_sub_cancel]
      split
      · rfl
      · by_cases v : x % 6 < p % 6
        · rw [if_pos v, if_pos (by omega)]
        · rw [if_neg v, if_neg (by omega)]
    · rw [up2_o (by omega)]
theorem MT_bk {N : Nat → Nat → Nat} {R : aY} {B : Nat → Nat} {o m d : Nat} (h : MT N R B o) (hm : m < 12) (hd : d < 1400) (h4 : R 4 (pl m / 6) = pl m % 6) (h5 : R 5 (pl m / 6) ≤ R 4 (pl m / 6)) : MT (up2 (up2 (up2 (up2 N 144 (5 * m + 2) 1) 144 (5 * m + 3) d) 144 (5 * m + 4) (N 151 2)) 151 2 (N 151 2 + 1)) (bkR R (pl m) d) (fun x => if x = pl m then o else B x) (o + 1) := by
  obtain ⟨⟨c0, c1, c2, c4, c5⟩, b', c', f, g, s⟩ := h.1
  obtain ⟨W, hW⟩ : ∃ W, W = up2 (up2 (up2 (up2 N 144 (5 * m + 2) 1) 144 (5 * m + 3) d) 144 (5 * m + 4) (N 151 2)) 151 2 (N 151 2 + 1) := ⟨_, rfl⟩
  rw [← hW]
  have o1 : ∀ a, a ≠ 144 → a ≠ 151 → W a = N a := fun a h1 h2 => by rw [hW, up2_ne h2, up2_ne h1, up2_ne h1, up2_ne h1]
  have o2 : ∀ i, i ≠ 2 → W 151 i = N 151 i := fun i h1 => by rw [hW, up2_o (by omega), up2_o (by omega), up2_o (by omega), up2_o (by omega)]
  have o3 : ∀ i, i ≠ 5 * m + 2 → i ≠ 5 * m + 3 → i ≠ 5 * m + 4 → W 144 i = N 144 i := fun i h1 h2 h3 => by rw [hW, up2_o (by omega), up2_o (by omega), up2_o (by omega), up2_o (by omega)]
  have o4 : W 144 (5 * m + 2) = 1 ∧ W 144 (5 * m + 3) = d ∧ W 144 (5 * m + 4) = o := by
    rw [hW, c2]
    refine ⟨?_, ?_, ?_⟩
    · rw [up2_o (by omega), up2_o (by omega), up2_o (by omega)]; exact up2_e ⟨rfl, rfl⟩
    · rw [up2_o (by omega), up2_o (by omega)]; exact up2_e ⟨rfl, rfl⟩
    · rw [up2_o (by omega)]; exact up2_e ⟨rfl, rfl⟩
  have r : ∀ a j, a ≠ 8 → a ≠ 4 → bkR R (pl m) d a j = R a j := fun a j h1 h2 => by
    unfold bkR
    rw [up2_o (by omega), up2_o (by omega)]
  have r4 : ∀ i, bkR R (pl m) d 4 i = if i = pl m / 6 then R 4 (pl m / 6) + 1 else R 4 i := fun i => by
    unfold bkR
    by_cases z : i = pl m / 6
    · rw [if_pos z]; exact up2_e ⟨rfl, z⟩
    · rw [if_neg z, up2_o (by omega), up2_o (by omega)]
  have r8 : ∀ i, bkR R (pl m) d 8 i = if i = pl m then d else R 8 i := fun i => by
    unfold bkR
    rw [up2_o (by omega)]
    by_cases z : i = pl m
    · rw [if_pos z]; exact up2_e ⟨rfl, z⟩
    · rw [if_neg z, up2_o (by omega)]
  refine ⟨⟨⟨?_, ?_, ?_, ?_, fun x hx => ?_⟩, ?_, ?_, fun x hx => ?_, fun x hx => ?_, fun x hx z hz => ?_⟩, LT_o h.2 (o1 147 (by omega) (by omega)) (o1 148 (by omega) (by omega)) (fun i => r 13 i (by omega) (by omega)) (fun i => r 14 i (by omega) (by omega))⟩
  · rw [o2 _ (by omega), r _ _ (by omega) (by omega)]; exact c0
  · rw [o2 _ (by omega), r _ _ (by omega) (by omega)]; exact c1
  · rw [hW, c2]; exact up2_e ⟨rfl, rfl⟩
  · rw [o2 _ (by omega), r _ _ (by omega) (by omega)]; exact c4
  · rw [o2 _ (by omega), r _ _ (by omega) (by omega)]; exact c5 x hx
  · rw [o1 150 (by omega) (by omega)]
    intro i hi
    rw [r 0 _ (by omega) (by omega)] at hi
    rw [r 1 _ (by omega) (by omega)]
    exact b' i hi
  · rw [o1 149 (by omega) (by omega)]
    intro i hi
    rw [r 2 _ (by omega) (by omega)]
    exact c' i hi
  · obtain ⟨f0, f1, f2, f3, f4⟩ := f x hx
    rw [o1 145 (by omega) (by omega), stg_bk h4 h5, r 6 _ (by omega) (by omega), r 7 _ (by omega) (by omega), r 9 _ (by omega) (by omega), r 10 _ (by omega) (by omega), r 11 _ (by omega) (by omega), o3 (5 * x) (by omega) (by omega) (by omega), o3 (5 * x + 1) (by omega) (by omega) (by omega)]
    refine ⟨f0, f1, ?_, ?_, f4⟩
    · by_cases w : x = m
      · rw [w, if_pos rfl]; exact o4.1
      · rw [if_neg (fun z => w (pl_in z)), o3 _ (by omega) (by omega) (by omega)]; exact f2
    · show _ = if pl x = pl m then o else B (pl x)
      by_cases w : x = m
      · rw [w, if_pos rfl]; exact o4.2.2
      · rw [if_neg (fun z => w (pl_in z)), o3 _ (by omega) (by omega) (by omega)]; exact f3
  · obtain ⟨g1, g2⟩ := g x hx
    rw [r4, r8]
    by_cases w : x = m
    · rw [w, o4.2.1, if_pos (c := pl m = pl m) rfl]
      exact ⟨hd, fun _ => rfl⟩
    · have wp : pl x ≠ pl m := fun z => w (pl_in z)
      rw [o3 _ (by omega) (by omega) (by omega), if_neg wp]
      refine ⟨g1, fun z => g2 ?_⟩
      by_cases v : pl x / 6 = pl m / 6
      · rw [if_pos v] at z
        rw [v]
        omega
      · rw [if_neg v] at z
        exact z
  · rw [o1 146 (by omega) (by omega), r 12 _ (by omega) (by omega)]
    exact s x hx z hz
theorem MT_ub {N : Nat → Nat → Nat} {R : aY} {B : Nat → Nat} {o m : Nat} (h : MT N R B o) (hm : m < 12) (h4 : R 4 (pl m / 6) = pl m % 6 + 1) (h5 : R 5 (pl m / 6) < R 4 (pl m / 6)) : MT (up2 N 144 (5 * m + 2) 0) (ubR R (pl m)) B o := by
  obtain ⟨⟨c0, c1, c2, c4, c5⟩, b', c', f, g, s⟩ := h.1
  have o1 : ∀ a, a ≠ 144 → up2 N 144 (5 * m + 2) 0 a = N a := fun a h1 => up2_ne h1
  have o3 : ∀ i, i ≠ 5 * m + 2 → up2 N 144 (5 * m + 2) 0 144 i = N 144 i := fun i h1 => up2_o (by omega)
  have r : ∀ a j, a ≠ 8 → a ≠ 4 → ubR R (pl m) a j = R a j := fun a j h1 h2 => by
    unfold ubR
    rw [up2_o (by omega), up2_o (by omega)]
  have r4 : ∀ i, ubR R (pl m) 4 i = if i = pl m / 6 then R 4 (pl m / 6) - 1 else R 4 i := fun i => by
    unfold ubR
    rw [up2_o (by omega)]
    by_cases z : i = pl m / 6
    · rw [if_pos z]; exact up2_e ⟨rfl, z⟩
    · rw [if_neg z, up2_o (by omega)]
  have r8 : ∀ i, ubR R (pl m) 8 i = if i = pl m then 4294967295 else R 8 i := fun i => by
    unfold ubR
    by_cases z : i = pl m
    · rw [if_pos z]; exact up2_e ⟨rfl, z⟩
    · rw [if_neg z, up2_o (by omega), up2_o (by omega)]
  refine ⟨⟨?_, ?_, ?_, fun x hx => ?_, fun x hx => ?_, fun x hx z hz => ?_⟩, LT_o h.2 (o1 147 (by omega)) (o1 148 (by omega)) (fun i => r 13 i (by omega) (by omega)) (fun i => r 14 i (by omega) (by omega))⟩
  · rw [o1 151 (by omega), r 0 _ (by omega) (by omega), r 0 _ (by omega) (by omega), r 0 _ (by omega) (by omega)]
    exact ⟨c0, c1, c2, c4, fun x hx => by rw [r 3 _ (by omega) (by omega)]; exact c5 x hx⟩
  · rw [o1 150 (by omega)]
    intro i hi
    rw [r 0 _ (by omega) (by omega)] at hi
    rw [r 1 _ (by omega) (by omega)]
    exact b' i hi
  · rw [o1 149 (by omega)]
    intro i hi
    rw [r 2 _ (by omega) (by omega)]
    exact c' i hi
  · obtain ⟨f0, f1, f2, f3, f4⟩ := f x hx
    rw [o1 145 (by omega), stg_ub h4 h5, r 6 _ (by omega) (by omega), r 7 _ (by omega) (by omega), r 9 _ (by omega) (by omega), r 10 _ (by omega) (by omega), r 11 _ (by omega) (by omega), o3 (5 * x) (by omega), o3 (5 * x + 1) (by omega), o3 (5 * x + 4) (by omega)]
    refine ⟨f0, f1, ?_, f3, f4⟩
    by_cases w : x = m
    · rw [w, if_pos rfl]; exact up2_e ⟨rfl, rfl⟩
    · rw [if_neg (fun z => w (pl_in z)), o3 _ (by omega)]; exact f2
  · obtain ⟨g1, g2⟩ := g x hx
    rw [r4, r8, o3 _ (by omega)]
    refine ⟨g1, fun z => ?_⟩
    by_cases w : x = m
    · rw [w, if_pos rfl] at z
      omega
    · rw [if_neg (fun z => w (pl_in z))]
      refine g2 ?_
      by_cases v : pl x / 6 = pl m / 6
      · rw [if_pos v] at z
        rw [v]
        omega
      · rw [if_neg v] at z
        exact z
  · rw [o1 146 (by omega), r 12 _ (by omega) (by omega)]
    exact s x hx z hz
theorem BK_snoc {q : List Nat} {B : Nat → Nat} {o p : Nat} (h : BK q B o) (hp : p ∉ q) (ho : o < 1000) : BK (q ++ [p]) (fun x => if x = p then o else B x) (o + 1) := by
  obtain ⟨h1, h2, h3, h4⟩ := h
  have hn : ∀ x ∈ q, x ≠ p := fun x hx z => hp (z ▸ hx)
  refine ⟨?_, fun m hm => ?_, fun x hx => ?_, by omega⟩
  · refine List.pairwise_append.mpr ⟨?_, List.pairwise_singleton _ _, fun a ha b hb => ?_⟩
    · refine List.Pairwise.imp_of_mem ?_ h1
      intro a b ha hb hab
      show (if a = p then o else B a) < (if b = p then o else B b)
      rw [if_neg (hn a ha), if_neg (hn b hb)]
      exact hab
    · have e : b = p := List.mem_singleton.mp hb
      subst e
      show (if a = b then o else B a) < (if b = b then o else B b)
      rw [if_neg (hn a ha), if_pos rfl]
      exact h3 a ha
  · show (if m = p then o else B m) ≤ o + 1
    have := h2 m hm
    split <;> omega
  · show (if x = p then o else B x) < o + 1
    rcases List.mem_append.mp hx with z | z
    · rw [if_neg (hn x z)]
      have := h3 x z
      omega
    · rw [if_pos (List.mem_singleton.mp z)]
      omega
section Ly
variable {Z : aZ} {N : Nat → Nat → Nat} {L : Nat → Nat → Int64} {u : Nat × Nat} {S : aSt} {B : Nat → Nat} {o : Nat}
theorem lz_nxt {h : Nat} (hZ : LZ Z) (H : LW N S B o) (hh : h < S.1.1 0 1) : ex 101 0 [some (.int (nI h)), some (.ref 144), some (.ref 151), none] [] (Z, iN N, L, u) = some (.inl (some (.int (nI (S.1.1 4 h)))), (Z, iN N, L, u)) := by
  have hw := H.2.2.2.1.1.1
  have h3 := H.2.2.2.2.1
  have h31 := h3.1
  have h33 := h3.2 h (by omega)
  have c4 := H.1.1.2.2.2.2 h (by omega)
  have hb := LW_LB H
  have w1 := hw.2.1 h (by omega)
  exact lz_next0 (L := L) (u := u) (h := h) (K := S.1.1 4 h) hZ.2.1 hb (by omega) (by omega) (fun j hj => by
    have f := (H.1.2.2.2.1 (4 * h + j) (by omega)).2.2.1
    rw [pl_hk (by omega), stg_hk (by omega)] at f
    rw [f]
    split
    · omega
    · omega) (by
    by_cases z : S.1.1 4 h = S.1.1 3 h
    · exact Or.inl (z.trans c4.symm)
    · have f := (H.1.2.2.2.1 (4 * h + S.1.1 4 h) (by omega)).2.2.1
      rw [pl_hk (by omega), stg_hk (by omega), if_neg (by omega), if_neg (by omega)] at f
      exact Or.inr f)
theorem lz_book {x y : Int32} {a h d : Nat} (hZ : LZ Z) (H : LW N S B o) (h1 : LS1 S.1.1) (ho : o < 1000) (hh : h < S.1.1 0 1) (hd : S.1.1 0 0 ≤ d) (hd9 : d ≤ 999) (h43 : S.1.1 4 h < S.1.1 3 h) (hop : aOpen S.1.1 S.1.2 (6 * h + S.1.1 4 h) d = true) : AR Z L u S o (ex 114 263 [some (.ref 0), some (.int (nI (a))), some (.int x), some (.int y), some (.ref 144), some (.ref 145), some (.ref 146), some (.ref 147), some (.ref 148), some (.ref 149), some (.ref 150), some (.ref 151), some (.int (nI (h))), some (.int (nI (S.1.1 4 h))), some (.int (nI (4 * h + S.1.1 4 h))), some (.int (nI (d)))] [] (Z, iN N, L, u)) := by
  have hA := hZ.2.1
  have z0 : Z.1 0 = 10 := hZ.1.1.1
  have hI := H.2.2.1
  have hSk := H.2.2.2.1
  have hw := hSk.1.1
  have hL3 := H.2.2.2.2.1
  have h31 := hL3.1
  have h33 := hL3.2 h (by omega)
  have w1 := hw.2.1 h (by omega)
  have hbk := H.2.2.2.2.2
  have hMT : MT N S.1.1 B o := ⟨H.1, H.2.1⟩
  have hm : 4 * h + S.1.1 4 h < 12 := by omega
  have hp : pl (4 * h + S.1.1 4 h) = 6 * h + S.1.1 4 h := pl_hk (by omega)
  obtain ⟨p, hpd⟩ : ∃ p, p = 6 * h + S.1.1 4 h := ⟨_, rfl⟩
  obtain ⟨m, hmd⟩ : ∃ m, m = 4 * h + S.1.1 4 h := ⟨_, rfl⟩
  rw [← hpd] at hop hp
  rw [← hmd] at hm hp ⊢
  have p6 : p / 6 = h ∧ p % 6 = S.1.1 4 h := by omega
  have m1 := MT_bk (d := d) hMT hm (by omega) (by rw [hp, p6.1, p6.2]) (by rw [hp, p6.1]; exact w1.1)
  obtain ⟨W, hW⟩ : ∃ W, W = up2 (up2 (up2 (up2 N 144 (5 * m + 2) 1) 144 (5 * m + 3) d) 144 (5 * m + 4) (N 151 2)) 151 2 (N 151 2 + 1) := ⟨_, rfl⟩
  rw [← hW, hp] at m1
  have hr0 : oBook S h d = (0, S.1.1 4 h, (bkR S.1.1 p d, S.1.2 ++ [p]), push S.2.1 S.1, S.2.2) := by
    unfold oBook
    rw [if_neg (not_not_intro hh), if_neg (by omega), ← hpd, if_pos ⟨h43, hop⟩]
  obtain ⟨N3, k1, k2, k3⟩ := CR_0 (q_book (L := L) (c := u) (h := h) (d := d) hZ.1 (CI_cg hI (N' := W) (fun a ha => by rw [hW, up2_ne (by omega), up2_ne (by omega), up2_ne (by omega), up2_ne (by omega)])) hSk (by omega) (by omega)) hr0
  have hS2 := SOK_book (h := h) (d := d) hSk
  rw [hr0] at hS2
  have o0 : ∀ k j, k ≠ 8 → k ≠ 4 → bkR S.1.1 p d k j = S.1.1 k j := fun k j q1 q2 => by
    unfold bkR
    rw [up2_o (by omega), up2_o (by omega)]
  have hpq : p ∉ S.1.2 := fun z => by
    have := ((hw.2.2.2.2.2.2.1 p).mp z).2.2
    rw [p6.1, p6.2] at this
    omega
  have HW := LW_mk (S2 := ((bkR S.1.1 p d, S.1.2 ++ [p]), push S.2.1 S.1, S.2.2)) m1 k2 k3 hS2 (LS3_o hL3 (o0 0 1 (by omega) (by omega)) (fun i => o0 3 i (by omega) (by omega))) (BK_snoc hbk hpq ho)
  refine ⟨N3, _, _, o + 1, ?_, HW, LS1_o h1 (o0 0 1 (by omega) (by omega)) (fun i => o0 3 i (by omega) (by omega)), by omega, ?_, fun _ => push_pos⟩
  · simp (disch := omega) only [r_L_act_263, r_L_act_265, r_L_act_266, r_L_act_268, r_L_act_269, r_L_act_270, r_L_act_271, r_L_act_272, r_L_act_273, r_L_act_275, r_L_act_276, r_L_act_278, r_L_act_279, r_L_act_280, r_L_act_281, r_L_act_283, r_L_act_284, r_L_act_286, r_L_act_287, r_L_act_289, r_L_act_290, r_L_act_291, r_L_act_292, r_L_act_294, r_L_act_295, r_L_act_296, r_L_act_297, r_L_act_299, r_L_act_300, r_L_act_301, r_L_act_302, r_L_act_303, r_L_act_304, up2_o, up2_e, iN_ap, iN_up, i_ix, i_inb, i_lt, i_lt0, i_0lt, i_eq, i_ne0, i_00, i_11, i_01, i_10, i_b, i_rem2, n_rem, i_add, i_mul, i_sub, i_div, i_max, i_min, rdk_0, rdk_3, kp_none, kp_int, kp_ref, kp_long, kp_double, aK_v, aK_0, aK_ite, if_true, if_false, and_self, and_true, true_and, or_false, false_or, not_true_eq_false, not_false_eq_true, ite_self, ↓reduceIte, eq_self, Bool.false_eq_true, hA.1.1, hA.1.2, hA.2.1.1, hA.2.1.2, hA.2.2.1.1, hA.2.2.1.2, hA.2.2.2.1.1, hA.2.2.2.1.2, hA.2.2.2.2.1.1, hA.2.2.2.2.1.2, hA.2.2.2.2.2.1, hA.2.2.2.2.2.2, kp_int, kp_ref]
    rw [← hW]
    simp (disch := omega) only [r_L_act_305, r_L_act_306, r_L_act_308, r_L_act_310, r_L_act_313, r_L_act_315, r_L_act_318, r_L_act_319, r_L_act_322, r_L_act_323, up2_o, up2_e, iN_ap, iN_up, i_ix, i_inb, i_lt, i_lt0, i_0lt, i_eq, i_ne0, i_00, i_11, i_01, i_10, i_b, i_rem2, n_rem, i_add, i_mul, i_sub, i_div, i_max, i_min, rdk_0, rdk_3, kp_none, kp_int, kp_ref, kp_long, kp_double, aK_v, aK_0, aK_ite, if_true, if_false, and_self, and_true, true_and, or_false, false_or, not_true_eq_false, not_false_eq_true, ite_self, ↓reduceIte, eq_self, Bool.false_eq_true, hA.1.1, hA.1.2, hA.2.1.1, hA.2.1.2, hA.2.2.1.1, hA.2.2.1.2, hA.2.2.2.1.1, hA.2.2.2.1.2, hA.2.2.2.2.1.1, hA.2.2.2.2.1.2, hA.2.2.2.2.2.1, hA.2.2.2.2.2.2, kp_int, kp_ref, z0, k1]
  · show bkR S.1.1 p d 0 0 ≤ _
    rw [o0 0 0 (by omega) (by omega)]
    omega
theorem lz_act3 {x y : Int32} {a : Nat} {a12 a13 a14 a15 : Option Value} (hZ : LZ Z) (H : LW N S B o) (h1 : LS1 S.1.1) (ho : o < 1000) (h0 : 1 ≤ S.1.1 0 1) (ha : 3 ≤ a ∧ a < 8) : AR Z L u S o (ex 114 0 [some (.ref 0), some (.int (nI (a))), some (.int x), some (.int y), some (.ref 144), some (.ref 145), some (.ref 146), some (.ref 147), some (.ref 148), some (.ref 149), some (.ref 150), some (.ref 151), a12, a13, a14, a15] [] (Z, iN N, L, u)) := by
  have hA := hZ.2.1
  have hSk := H.2.2.2.1
  have hw := hSk.1.1
  have ht0 := hSk.1.2
  have hL3 := H.2.2.2.2.1
  have h31 := hL3.1
  have c0 := H.1.1.1
  have c1 := H.1.1.2.1
  obtain ⟨h, hh, a1⟩ := lz_at (x := x) (n := S.1.1 0 1) (h := (Z, iN N, L, u)) (by omega) (by omega)
  have c4 := H.1.1.2.2.2.2 h (by omega)
  have h33 := hL3.2 h (by omega)
  have w1 := hw.2.1 h (by omega)
  have nx := lz_nxt (L := L) (u := u) hZ H hh
  obtain ⟨r, hr, a2⟩ := lz_at (x := y) (n := 6) (h := (Z, iN N, L, u)) (by omega) (by omega)
  obtain ⟨d, hd⟩ : ∃ d, d = S.1.1 0 0 + r := ⟨_, rfl⟩
  have d2 : S.1.1 0 0 + r = d := hd.symm
  have za : (nI a = 0) = False := i_ne0 (by omega) (by omega)
  have zc : (nI (S.1.1 0 1) = 0) = False := i_ne0 (by omega) (by omega)
  have za1 : (a = 1) = False := eq_false (by omega)
  have za2 : (a = 2) = False := eq_false (by omega)
  have go : ex 114 0 [some (.ref 0), some (.int (nI (a))), some (.int x), some (.int y), some (.ref 144), some (.ref 145), some (.ref 146), some (.ref 147), some (.ref 148), some (.ref 149), some (.ref 150), some (.ref 151), a12, a13, a14, a15] [] (Z, iN N, L, u) = ex 114 204 [some (.ref 0), some (.int (nI (a))), some (.int x), some (.int y), some (.ref 144), some (.ref 145), some (.ref 146), some (.ref 147), some (.ref 148), some (.ref 149), some (.ref 150), some (.ref 151), some (.int (nI (h))), some (.int (nI (S.1.1 4 h))), some (.int (nI (4 * h + S.1.1 4 h))), some (.int (nI (d)))] [] (Z, iN N, L, u) := by
    simp (disch := omega) only [r_L_act_0, r_L_act_1, r_L_act_4, r_L_act_6, r_L_act_7, r_L_act_8, r_L_act_38, r_L_act_39, r_L_act_40, r_L_act_54, r_L_act_55, r_L_act_56, r_L_act_155, r_L_act_156, r_L_act_158, r_L_act_161, r_L_act_162, r_L_act_164, r_L_act_165, r_L_act_166, r_L_act_169, r_L_act_171, r_L_act_173, r_L_act_175, r_L_act_177, r_L_act_180, r_L_act_182, r_L_act_183, r_L_act_185, r_L_act_186, r_L_act_188, r_L_act_189, r_L_act_191, r_L_act_193, r_L_act_194, r_L_act_195, r_L_act_196, r_L_act_198, r_L_act_201, r_L_act_202, up2_o, up2_e, iN_ap, iN_up, i_ix, i_inb, i_lt, i_lt0, i_0lt, i_eq, i_ne0, i_00, i_11, i_01, i_10, i_b, i_rem2, n_rem, i_add, i_mul, i_sub, i_div, i_max, i_min, rdk_0, rdk_3, kp_none, kp_int, kp_ref, kp_long, kp_double, aK_v, aK_0, aK_ite, if_true, if_false, and_self, and_true, true_and, or_false, false_or, not_true_eq_false, not_false_eq_true, ite_self, ↓reduceIte, eq_self, Bool.false_eq_true, hA.1.1, hA.1.2, hA.2.1.1, hA.2.1.2, hA.2.2.1.1, hA.2.2.1.2, hA.2.2.2.1.1, hA.2.2.2.1.2, hA.2.2.2.2.1.1, hA.2.2.2.2.1.2, hA.2.2.2.2.2.1, hA.2.2.2.2.2.2, kp_int, kp_ref, za, za1, za2, zc, ha.2, c0, c1, a1, nx, a2, d2]
  rw [go]
  have no : True → AR Z L u S o (some (.inl (some (.int (nI 1))), (Z, iN N, L, u))) := fun _ => AR_rf H h1
  by_cases q1 : S.1.1 4 h = S.1.1 3 h
  · have g : ex 114 204 [some (.ref 0), some (.int (nI (a))), some (.int x), some (.int y), some (.ref 144), some (.ref 145), some (.ref 146), some (.ref 147), some (.ref 148), some (.ref 149), some (.ref 150), some (.ref 151), some (.int (nI (h))), some (.int (nI (S.1.1 4 h))), some (.int (nI (4 * h + S.1.1 4 h))), some (.int (nI (d)))] [] (Z, iN N, L, u) = some (.inl (some (.int (nI 1))), (Z, iN N, L, u)) := by
      simp (disch := omega) only [r_L_act_204, r_L_act_206, r_L_act_208, r_L_act_209, r_L_act_211, r_L_act_212, r_L_act_213, r_L_act_261, r_L_act_262, up2_o, up2_e, iN_ap, iN_up, i_ix, i_inb, i_lt, i_lt0, i_0lt, i_eq, i_ne0, i_00, i_11, i_01, i_10, i_b, i_rem2, n_rem, i_add, i_mul, i_sub, i_div, i_max, i_min, rdk_0, rdk_3, kp_none, kp_int, kp_ref, kp_long, kp_double, aK_v, aK_0, aK_ite, if_true, if_false, and_self, and_true, true_and, or_false, false_or, not_true_eq_false, not_false_eq_true, ite_self, ↓reduceIte, eq_self, Bool.false_eq_true, hA.1.1, hA.1.2, hA.2.1.1, hA.2.1.2, hA.2.2.1.1, hA.2.2.1.2, hA.2.2.2.1.1, hA.2.2.2.1.2, hA.2.2.2.2.1.1, hA.2.2.2.2.1.2, hA.2.2.2.2.2.1, hA.2.2.2.2.2.2, kp_int, kp_ref, c4, q1]
    rw [g]
    exact no trivial
  · by_cases q2 : 999 < d
    · have g : ex 114 204 [some (.ref 0), some (.int (nI (a))), some (.int x), some (.int y), some (.ref 144), some (.ref 145), some (.ref 146), some (.ref 147), some (.ref 148), some (.ref 149), some (.ref 150), some (.ref 151), some (.int (nI (h))), some (.int (nI (S.1.1 4 h))), some (.int (nI (4 * h + S.1.1 4 h))), some (.int (nI (d)))] [] (Z, iN N, L, u) = some (.inl (some (.int (nI 1))), (Z, iN N, L, u)) := by
        simp (disch := omega) only [r_L_act_204, r_L_act_206, r_L_act_208, r_L_act_209, r_L_act_211, r_L_act_212, r_L_act_213, r_L_act_216, r_L_act_218, r_L_act_221, r_L_act_261, r_L_act_262, up2_o, up2_e, iN_ap, iN_up, i_ix, i_inb, i_lt, i_lt0, i_0lt, i_eq, i_ne0, i_00, i_11, i_01, i_10, i_b, i_rem2, n_rem, i_add, i_mul, i_sub, i_div, i_max, i_min, rdk_0, rdk_3, kp_none, kp_int, kp_ref, kp_long, kp_double, aK_v, aK_0, aK_ite, if_true, if_false, and_self, and_true, true_and, or_false, false_or, not_true_eq_false, not_false_eq_true, ite_self, ↓reduceIte, eq_self, Bool.false_eq_true, hA.1.1, hA.1.2, hA.2.1.1, hA.2.1.2, hA.2.2.1.1, hA.2.2.1.2, hA.2.2.2.1.1, hA.2.2.2.1.2, hA.2.2.2.2.1.1, hA.2.2.2.2.1.2, hA.2.2.2.2.2.1, hA.2.2.2.2.2.2, kp_int, kp_ref, c4, q1, q2]
      rw [g]
      exact no trivial
    · obtain ⟨p, hp⟩ : ∃ p, p = 6 * h + S.1.1 4 h := ⟨_, rfl⟩
      have hm : 4 * h + S.1.1 4 h < 12 := by omega
      have hpm : pl (4 * h + S.1.1 4 h) = p := by rw [pl_hk (by omega), hp]
      have f0 := (H.1.2.2.2.1 _ hm).1
      rw [hpm] at f0
      have hb := LW_LB H
      have rm := lz_room (N := N) (L := L) (u := u) (m := 4 * h + S.1.1 4 h) (d := d) hA hb (by omega) hm (by have := H.1.2.2.1 0 (by omega); have := hw.1.2.2.2.1; omega) (by have := H.1.2.2.1 1 (by omega); have := hw.1.2.2.2.2.2.1; omega)
      obtain ⟨lc0, lc1⟩ := lLd_cnt H.1 hw.2.1 hL3 (l := S.1.2) (fun z hz => by have := (hw.2.2.2.2.2.2.1 z).mp hz; exact ⟨this.1, this.2.2⟩) hw.2.2.2.2.2.1 (fun z hz => stg_1 hw hz) d
      have hroom : lRm N 144 151 (4 * h + S.1.1 4 h) d = true ↔ cnt S.1.1 S.1.2 d < S.1.1 2 0 ∧ wgt S.1.1 S.1.2 d + S.1.1 6 p ≤ S.1.1 2 1 := by
        rw [lRm_iff, lc0, lc1, f0, H.1.2.2.1 0 (by omega), H.1.2.2.1 1 (by omega)]
      have tail : (S.1.1 4 h = 0 ∨ S.1.1 8 (p - 1) ≤ d) → AR Z L u S o (ex 114 245 [some (.ref 0), some (.int (nI (a))), some (.int x), some (.int y), some (.ref 144), some (.ref 145), some (.ref 146), some (.ref 147), some (.ref 148), some (.ref 149), some (.ref 150), some (.ref 151), some (.int (nI (h))), some (.int (nI (S.1.1 4 h))), some (.int (nI (4 * h + S.1.1 4 h))), some (.int (nI (d)))] [] (Z, iN N, L, u)) := fun hpr => by
        by_cases r : lRm N 144 151 (4 * h + S.1.1 4 h) d = true
        · have hop : aOpen S.1.1 S.1.2 p d = true := aOpen_iff.mpr ⟨by omega, hroom.mp r⟩
          rw [hp] at hop
          have g : ex 114 245 [some (.ref 0), some (.int (nI (a))), some (.int x), some (.int y), some (.ref 144), some (.ref 145), some (.ref 146), some (.ref 147), some (.ref 148), some (.ref 149), some (.ref 150), some (.ref 151), some (.int (nI (h))), some (.int (nI (S.1.1 4 h))), some (.int (nI (4 * h + S.1.1 4 h))), some (.int (nI (d)))] [] (Z, iN N, L, u) = ex 114 263 [some (.ref 0), some (.int (nI (a))), some (.int x), some (.int y), some (.ref 144), some (.ref 145), some (.ref 146), some (.ref 147), some (.ref 148), some (.ref 149), some (.ref 150), some (.ref 151), some (.int (nI (h))), some (.int (nI (S.1.1 4 h))), some (.int (nI (4 * h + S.1.1 4 h))), some (.int (nI (d)))] [] (Z, iN N, L, u) := by
            simp (disch := omega) only [r_L_act_245, r_L_act_247, r_L_act_249, r_L_act_251, r_L_act_253, r_L_act_255, r_L_act_258, up2_o, up2_e, iN_ap, iN_up, i_ix, i_inb, i_lt, i_lt0, i_0lt, i_eq, i_ne0, i_00, i_11, i_01, i_10, i_b, i_rem2, n_rem, i_add, i_mul, i_sub, i_div, i_max, i_min, rdk_0, rdk_3, kp_none, kp_int, kp_ref, kp_long, kp_double, aK_v, aK_0, aK_ite, if_true, if_false, and_self, and_true, true_and, or_false, false_or, not_true_eq_false, not_false_eq_true, ite_self, ↓reduceIte, eq_self, Bool.false_eq_true, hA.1.1, hA.1.2, hA.2.1.1, hA.2.1.2, hA.2.2.1.1, hA.2.2.1.2, hA.2.2.2.1.1, hA.2.2.2.1.2, hA.2.2.2.2.1.1, hA.2.2.2.2.1.2, hA.2.2.2.2.2.1, hA.2.2.2.2.2.2, kp_int, kp_ref, rm, r]
          rw [g]
          exact lz_book hZ H h1 ho hh (by omega) (by omega) (by omega) hop
        · have g : ex 114 245 [some (.ref 0), some (.int (nI (a))), some (.int x), some (.int y), some (.ref 144), some (.ref 145), some (.ref 146), some (.ref 147), some (.ref 148), some (.ref 149), some (.ref 150), some (.ref 151), some (.int (nI (h))), some (.int (nI (S.1.1 4 h))), some (.int (nI (4 * h + S.1.1 4 h))), some (.int (nI (d)))] [] (Z, iN N, L, u) = some (.inl (some (.int (nI 1))), (Z, iN N, L, u)) := by
            simp (disch := omega) only [r_L_act_245, r_L_act_247, r_L_act_249, r_L_act_251, r_L_act_253, r_L_act_255, r_L_act_258, r_L_act_261, r_L_act_262, up2_o, up2_e, iN_ap, iN_up, i_ix, i_inb, i_lt, i_lt0, i_0lt, i_eq, i_ne0, i_00, i_11, i_01, i_10, i_b, i_rem2, n_rem, i_add, i_mul, i_sub, i_div, i_max, i_min, rdk_0, rdk_3, kp_none, kp_int, kp_ref, kp_long, kp_double, aK_v, aK_0, aK_ite, if_true, if_false, and_self, and_true, true_and, or_false, false_or, not_true_eq_false, not_false_eq_true, ite_self, ↓reduceIte, eq_self, Bool.false_eq_true, hA.1.1, hA.1.2, hA.2.1.1, hA.2.1.2, hA.2.2.1.1, hA.2.2.1.2, hA.2.2.2.1.1, hA.2.2.2.1.2, hA.2.2.2.2.1.1, hA.2.2.2.2.1.2, hA.2.2.2.2.2.1, hA.2.2.2.2.2.2, kp_int, kp_ref, rm, r]
          rw [g]
          exact no trivial
      by_cases z : S.1.1 4 h = 0
      · have z2 : ¬ 0 < S.1.1 4 h := by omega
        have g : ex 114 204 [some (.ref 0), some (.int (nI (a))), some (.int x), some (.int y), some (.ref 144), some (.ref 145), some (.ref 146), some (.ref 147), some (.ref 148), some (.ref 149), some (.ref 150), some (.ref 151), some (.int (nI (h))), some (.int (nI (S.1.1 4 h))), some (.int (nI (4 * h + S.1.1 4 h))), some (.int (nI (d)))] [] (Z, iN N, L, u) = ex 114 245 [some (.ref 0), some (.int (nI (a))), some (.int x), some (.int y), some (.ref 144), some (.ref 145), some (.ref 146), some (.ref 147), some (.ref 148), some (.ref 149), some (.ref 150), some (.ref 151), some (.int (nI (h))), some (.int (nI (S.1.1 4 h))), some (.int (nI (4 * h + S.1.1 4 h))), some (.int (nI (d)))] [] (Z, iN N, L, u) := by
          simp (disch := omega) only [r_L_act_204, r_L_act_206, r_L_act_208, r_L_act_209, r_L_act_211, r_L_act_212, r_L_act_213, r_L_act_216, r_L_act_218, r_L_act_221, r_L_act_224, r_L_act_226, up2_o, up2_e, iN_ap, iN_up, i_ix, i_inb, i_lt, i_lt0, i_0lt, i_eq, i_ne0, i_00, i_11, i_01, i_10, i_b, i_rem2, n_rem, i_add, i_mul, i_sub, i_div, i_max, i_min, rdk_0, rdk_3, kp_none, kp_int, kp_ref, kp_long, kp_double, aK_v, aK_0, aK_ite, if_true, if_false, and_self, and_true, true_and, or_false, false_or, not_true_eq_false, not_false_eq_true, ite_self, ↓reduceIte, eq_self, Bool.false_eq_true, hA.1.1, hA.1.2, hA.2.1.1, hA.2.1.2, hA.2.2.1.1, hA.2.2.1.2, hA.2.2.2.1.1, hA.2.2.2.1.2, hA.2.2.2.2.1.1, hA.2.2.2.2.1.2, hA.2.2.2.2.2.1, hA.2.2.2.2.2.2, kp_int, kp_ref, c4, q1, q2, z2]
        rw [g]
        exact tail (Or.inl z)
      · have z2 : 0 < S.1.1 4 h := by omega
        have pr : N 144 (5 * (4 * h + S.1.1 4 h - 1) + 3) = S.1.1 8 (p - 1) := by
          have g := (H.1.2.2.2.2.1 (4 * h + S.1.1 4 h - 1) (by omega)).2
          rw [show 4 * h + S.1.1 4 h - 1 = 4 * h + (S.1.1 4 h - 1) by omega, pl_hk (by omega), show 6 * h + (S.1.1 4 h - 1) = p - 1 by omega] at g
          rw [show 4 * h + S.1.1 4 h - 1 = 4 * h + (S.1.1 4 h - 1) by omega]
          exact g (by rw [show (p - 1) / 6 = h by omega]; omega)
        have pb : S.1.1 8 (p - 1) < 2000 := by
          rw [← pr]
          exact (hb.2.2.1 (4 * h + S.1.1 4 h - 1) (by omega)).2.2.1
        by_cases v : d < S.1.1 8 (p - 1)
        · have g : ex 114 204 [some (.ref 0), some (.int (nI (a))), some (.int x), some (.int y), some (.ref 144), some (.ref 145), some (.ref 146), some (.ref 147), some (.ref 148), some (.ref 149), some (.ref 150), some (.ref 151), some (.int (nI (h))), some (.int (nI (S.1.1 4 h))), some (.int (nI (4 * h + S.1.1 4 h))), some (.int (nI (d)))] [] (Z, iN N, L, u) = some (.inl (some (.int (nI 1))), (Z, iN N, L, u)) := by
            simp (disch := omega) only [r_L_act_204, r_L_act_206, r_L_act_208, r_L_act_209, r_L_act_211, r_L_act_212, r_L_act_213, r_L_act_216, r_L_act_218, r_L_act_221, r_L_act_224, r_L_act_226, r_L_act_229, r_L_act_231, r_L_act_233, r_L_act_234, r_L_act_236, r_L_act_237, r_L_act_238, r_L_act_239, r_L_act_240, r_L_act_241, r_L_act_242, r_L_act_261, r_L_act_262, up2_o, up2_e, iN_ap, iN_up, i_ix, i_inb, i_lt, i_lt0, i_0lt, i_eq, i_ne0, i_00, i_11, i_01, i_10, i_b, i_rem2, n_rem, i_add, i_mul, i_sub, i_div, i_max, i_min, rdk_0, rdk_3, kp_none, kp_int, kp_ref, kp_long, kp_double, aK_v, aK_0, aK_ite, if_true, if_false, and_self, and_true, true_and, or_false, false_or, not_true_eq_false, not_false_eq_true, ite_self, ↓reduceIte, eq_self, Bool.false_eq_true, hA.1.1, hA.1.2, hA.2.1.1, hA.2.1.2, hA.2.2.1.1, hA.2.2.1.2, hA.2.2.2.1.1, hA.2.2.2.1.2, hA.2.2.2.2.1.1, hA.2.2.2.2.1.2, hA.2.2.2.2.2.1, hA.2.2.2.2.2.2, kp_int, kp_ref, c4, q1, q2, z2, pr, v]
          rw [g]
          exact no trivial
        · have g : ex 114 204 [some (.ref 0), some (.int (nI (a))), some (.int x), some (.int y), some (.ref 144), some (.ref 145), some (.ref 146), some (.ref 147), some (.ref 148), some (.ref 149), some (.ref 150), some (.ref 151), some (.int (nI (h))), some (.int (nI (S.1.1 4 h))), some (.int (nI (4 * h + S.1.1 4 h))), some (.int (nI (d)))] [] (Z, iN N, L, u) = ex 114 245 [some (.ref 0), some (.int (nI (a))), some (.int x), some (.int y), some (.ref 144), some (.ref 145), some (.ref 146), some (.ref 147), some (.ref 148), some (.ref 149), some (.ref 150), some (.ref 151), some (.int (nI (h))), some (.int (nI (S.1.1 4 h))), some (.int (nI (4 * h + S.1.1 4 h))), some (.int (nI (d)))] [] (Z, iN N, L, u) := by
            simp (disch := omega) only [r_L_act_204, r_L_act_206, r_L_act_208, r_L_act_209, r_L_act_211, r_L_act_212, r_L_act_213, r_L_act_216, r_L_act_218, r_L_act_221, r_L_act_224, r_L_act_226, r_L_act_229, r_L_act_231, r_L_act_233, r_L_act_234, r_L_act_236, r_L_act_237, r_L_act_238, r_L_act_239, r_L_act_240, r_L_act_241, r_L_act_242, up2_o, up2_e, iN_ap, iN_up, i_ix, i_inb, i_lt, i_lt0, i_0lt, i_eq, i_ne0, i_00, i_11, i_01, i_10, i_b, i_rem2, n_rem, i_add, i_mul, i_sub, i_div, i_max, i_min, rdk_0, rdk_3, kp_none, kp_int, kp_ref, kp_long, kp_double, aK_v, aK_0, aK_ite, if_true, if_false, and_self, and_true, true_and, or_false, false_or, not_true_eq_false, not_false_eq_true, ite_self, ↓reduceIte, eq_self, Bool.false_eq_true, hA.1.1, hA.1.2, hA.2.1.1, hA.2.1.2, hA.2.2.1.1, hA.2.2.1.2, hA.2.2.2.1.1, hA.2.2.2.1.2, hA.2.2.2.2.1.1, hA.2.2.2.2.1.2, hA.2.2.2.2.2.1, hA.2.2.2.2.2.2, kp_int, kp_ref, c4, q1, q2, z2, pr, v]
          rw [g]
          exact tail (Or.inr (by omega))
end Ly
