/-! the law's day, whole -/
section Lh
variable {Z : aZ} {L : Nat → Nat → Int64} {u : Nat × Nat} {mo mi sh cc : Nat}
theorem LM_mv2 {N : Nat → Nat → Nat} {R : aY} {S B : Nat → Nat} {o m p d : Nat} (h : LM N mo mi sh cc R S B o) (hd : LD mo mi sh cc) (hm : m < 12) (hp : pl m = p) (h4 : p % 6 < R 4 (p / 6)) (hd2 : d < 1400) : LM (up2 (up2 (if d = R 8 p then N else up2 N mi (3 * m + 1) (N mi (3 * m + 1) + 1)) mo (5 * m + 3) d) mo (5 * m + 2) 1) mo mi sh cc (aMv R p d) (fun x => if x = p then 1 else S x) B o := by
  subst hp
  exact LM_mv h hd hm h4 hd2
theorem lz_to {N : Nat → Nat → Nat} {m n ms : Nat} {A : Int32} {a10 a11 : Option Value} (hA : LA Z mo mi sh cc) (hm : m < 12) (hb : LB N mo cc) :
    ex 104 262 [some (.ref mo), some (.ref mi), some (.ref sh), some (.ref 149), some (.ref 150), some (.ref cc), some (.int (nI n)), some (.int (nI ms)), some (.int A), some (.int (nI m)), a10, a11] [] (Z, iN N, L, u) =
    ex 104 329 [some (.ref mo), some (.ref mi), some (.ref sh), some (.ref 149), some (.ref 150), some (.ref cc), some (.int (nI n)), some (.int (nI ms)), some (.int A), some (.int (nI m)), some (.int (nI (if 0 < m % 4 then max (max (N mo (5 * m + 3)) (N cc 1)) (N mo (5 * m - 2)) else max (N mo (5 * m + 3)) (N cc 1)))), a11] [] (Z, iN N, L, u) := by
  obtain ⟨b1, b2, b3, b4⟩ := hb.2.2.1 m hm
  have c1 := hb.2.2.2.1
  by_cases z : 0 < m % 4
  · have v3 : N mo (5 * m - 2) < 2000 := by
      have := (hb.2.2.1 (m - 1) (by omega)).2.2.1
      rw [show 5 * (m - 1) + 3 = 5 * m - 2 by omega] at this
      exact this
    rw [if_pos z]
    by_cases q1 : N mo (5 * m + 3) < N cc 1
    · by_cases q2 : N cc 1 < N mo (5 * m - 2)
      · rw [show max (max (N mo (5 * m + 3)) (N cc 1)) (N mo (5 * m - 2)) = N mo (5 * m - 2) by omega]
        simp (disch := omega) only [r_L_day_262, r_L_day_264, r_L_day_267, r_L_day_268, r_L_day_269, r_L_day_271, r_L_day_272, r_L_day_273, r_L_day_274, r_L_day_275, r_L_day_277, r_L_day_278, r_L_day_279, r_L_day_282, r_L_day_284, r_L_day_285, r_L_day_286, r_L_day_289, r_L_day_290, r_L_day_291, r_L_day_293, r_L_day_294, r_L_day_295, r_L_day_296, r_L_day_297, r_L_day_299, r_L_day_301, r_L_day_302, r_L_day_303, r_L_day_306, r_L_day_307, r_L_day_308, r_L_day_310, r_L_day_311, r_L_day_312, r_L_day_313, r_L_day_314, r_L_day_316, r_L_day_319, r_L_day_320, r_L_day_321, r_L_day_323, r_L_day_324, r_L_day_325, r_L_day_326, r_L_day_327, up2_o, up2_e, iN_ap, iN_up, i_ix, i_inb, i_lt, i_lt0, i_0lt, i_eq, i_ne0, i_00, i_11, i_01, i_10, i_b, i_rem2, n_rem, i_add, i_mul, i_sub, i_div, i_max, i_min, rdk_0, rdk_3, kp_none, kp_int, kp_ref, kp_long, kp_double, aK_v, aK_0, aK_ite, if_true, if_false, and_self, and_true, true_and, or_false, false_or, not_true_eq_false, not_false_eq_true, ite_self, ↓reduceIte, eq_self, Bool.false_eq_true, hA.1.1, hA.1.2, hA.2.1.1, hA.2.1.2, hA.2.2.1.1, hA.2.2.1.2, hA.2.2.2.1.1, hA.2.2.2.1.2, hA.2.2.2.2.1.1, hA.2.2.2.2.1.2, hA.2.2.2.2.2.1, hA.2.2.2.2.2.2, kp_int, z, q1, q2]
      · rw [show max (max (N mo (5 * m + 3)) (N cc 1)) (N mo (5 * m - 2)) = N cc 1 by omega]
        simp (disch := omega) only [r_L_day_262, r_L_day_264, r_L_day_267, r_L_day_268, r_L_day_269, r_L_day_271, r_L_day_272, r_L_day_273, r_L_day_274, r_L_day_275, r_L_day_277, r_L_day_278, r_L_day_279, r_L_day_282, r_L_day_284, r_L_day_285, r_L_day_286, r_L_day_289, r_L_day_290, r_L_day_291, r_L_day_293, r_L_day_294, r_L_day_295, r_L_day_296, r_L_day_297, r_L_day_299, r_L_day_301, r_L_day_302, r_L_day_303, r_L_day_306, r_L_day_307, r_L_day_308, r_L_day_310, r_L_day_311, r_L_day_312, r_L_day_313, r_L_day_314, r_L_day_316, r_L_day_319, r_L_day_320, r_L_day_321, r_L_day_323, r_L_day_324, r_L_day_325, r_L_day_326, r_L_day_327, up2_o, up2_e, iN_ap, iN_up, i_ix, i_inb, i_lt, i_lt0, i_0lt, i_eq, i_ne0, i_00, i_11, i_01, i_10, i_b, i_rem2, n_rem, i_add, i_mul, i_sub, i_div, i_max, i_min, rdk_0, rdk_3, kp_none, kp_int, kp_ref, kp_long, kp_double, aK_v, aK_0, aK_ite, if_true, if_false, and_self, and_true, true_and, or_false, false_or, not_true_eq_false, not_false_eq_true, ite_self, ↓reduceIte, eq_self, Bool.false_eq_true, hA.1.1, hA.1.2, hA.2.1.1, hA.2.1.2, hA.2.2.1.1, hA.2.2.1.2, hA.2.2.2.1.1, hA.2.2.2.1.2, hA.2.2.2.2.1.1, hA.2.2.2.2.1.2, hA.2.2.2.2.2.1, hA.2.2.2.2.2.2, kp_int, z, q1, q2]
    · by_cases q2 : N mo (5 * m + 3) < N mo (5 * m - 2)
      · rw [show max (max (N mo (5 * m + 3)) (N cc 1)) (N mo (5 * m - 2)) = N mo (5 * m - 2) by omega]
        simp (disch := omega) only [r_L_day_262, r_L_day_264, r_L_day_267, r_L_day_268, r_L_day_269, r_L_day_271, r_L_day_272, r_L_day_273, r_L_day_274, r_L_day_275, r_L_day_277, r_L_day_278, r_L_day_279, r_L_day_282, r_L_day_284, r_L_day_285, r_L_day_286, r_L_day_289, r_L_day_290, r_L_day_291, r_L_day_293, r_L_day_294, r_L_day_295, r_L_day_296, r_L_day_297, r_L_day_299, r_L_day_301, r_L_day_302, r_L_day_303, r_L_day_306, r_L_day_307, r_L_day_308, r_L_day_310, r_L_day_311, r_L_day_312, r_L_day_313, r_L_day_314, r_L_day_316, r_L_day_319, r_L_day_320, r_L_day_321, r_L_day_323, r_L_day_324, r_L_day_325, r_L_day_326, r_L_day_327, up2_o, up2_e, iN_ap, iN_up, i_ix, i_inb, i_lt, i_lt0, i_0lt, i_eq, i_ne0, i_00, i_11, i_01, i_10, i_b, i_rem2, n_rem, i_add, i_mul, i_sub, i_div, i_max, i_min, rdk_0, rdk_3, kp_none, kp_int, kp_ref, kp_long, kp_double, aK_v, aK_0, aK_ite, if_true, if_false, and_self, and_true, true_and, or_false, false_or, not_true_eq_false, not_false_eq_true, ite_self, ↓reduceIte, eq_self, Bool.false_eq_true, hA.1.1, hA.1.2, hA.2.1.1, hA.2.1.2, hA.2.2.1.1, hA.2.2.1.2, hA.2.2.2.1.1, hA.2.2.2.1.2, hA.2.2.2.2.1.1, hA.2.2.2.2.1.2, hA.2.2.2.2.2.1, hA.2.2.2.2.2.2, kp_int, z, q1, q2]
      · rw [show max (max (N mo (5 * m + 3)) (N cc 1)) (N mo (5 * m - 2)) = N mo (5 * m + 3) by omega]
        simp (disch := omega) only [r_L_day_262, r_L_day_264, r_L_day_267, r_L_day_268, r_L_day_269, r_L_day_271, r_L_day_272, r_L_day_273, r_L_day_274, r_L_day_275, r_L_day_277, r_L_day_278, r_L_day_279, r_L_day_282, r_L_day_284, r_L_day_285, r_L_day_286, r_L_day_289, r_L_day_290, r_L_day_291, r_L_day_293, r_L_day_294, r_L_day_295, r_L_day_296, r_L_day_297, r_L_day_299, r_L_day_301, r_L_day_302, r_L_day_303, r_L_day_306, r_L_day_307, r_L_day_308, r_L_day_310, r_L_day_311, r_L_day_312, r_L_day_313, r_L_day_314, r_L_day_316, r_L_day_319, r_L_day_320, r_L_day_321, r_L_day_323, r_L_day_324, r_L_day_325, r_L_day_326, r_L_day_327, up2_o, up2_e, iN_ap, iN_up, i_ix, i_inb, i_lt, i_lt0, i_0lt, i_eq, i_ne0, i_00, i_11, i_01, i_10, i_b, i_rem2, n_rem, i_add, i_mul, i_sub, i_div, i_max, i_min, rdk_0, rdk_3, kp_none, kp_int, kp_ref, kp_long, kp_double, aK_v, aK_0, aK_ite, if_true, if_false, and_self, and_true, true_and, or_false, false_or, not_true_eq_false, not_false_eq_true, ite_self, ↓reduceIte, eq_self, Bool.false_eq_true, hA.1.1, hA.1.2, hA.2.1.1, hA.2.1.2, hA.2.2.1.1, hA.2.2.1.2, hA.2.2.2.1.1, hA.2.2.2.1.2, hA.2.2.2.2.1.1, hA.2.2.2.2.1.2, hA.2.2.2.2.2.1, hA.2.2.2.2.2.2, kp_int, z, q1, q2]
  · rw [if_neg z]
    by_cases q1 : N mo (5 * m + 3) < N cc 1
    · rw [show max (N mo (5 * m + 3)) (N cc 1) = N cc 1 by omega]
      simp (disch := omega) only [r_L_day_262, r_L_day_264, r_L_day_267, r_L_day_268, r_L_day_269, r_L_day_271, r_L_day_272, r_L_day_273, r_L_day_274, r_L_day_275, r_L_day_277, r_L_day_278, r_L_day_279, r_L_day_282, r_L_day_284, r_L_day_285, r_L_day_286, r_L_day_289, r_L_day_290, r_L_day_291, r_L_day_293, r_L_day_294, r_L_day_295, r_L_day_296, r_L_day_297, r_L_day_299, r_L_day_301, r_L_day_302, r_L_day_303, r_L_day_306, r_L_day_307, r_L_day_308, r_L_day_310, r_L_day_311, r_L_day_312, r_L_day_313, r_L_day_314, r_L_day_316, r_L_day_319, r_L_day_320, r_L_day_321, r_L_day_323, r_L_day_324, r_L_day_325, r_L_day_326, r_L_day_327, up2_o, up2_e, iN_ap, iN_up, i_ix, i_inb, i_lt, i_lt0, i_0lt, i_eq, i_ne0, i_00, i_11, i_01, i_10, i_b, i_rem2, n_rem, i_add, i_mul, i_sub, i_div, i_max, i_min, rdk_0, rdk_3, kp_none, kp_int, kp_ref, kp_long, kp_double, aK_v, aK_0, aK_ite, if_true, if_false, and_self, and_true, true_and, or_false, false_or, not_true_eq_false, not_false_eq_true, ite_self, ↓reduceIte, eq_self, Bool.false_eq_true, hA.1.1, hA.1.2, hA.2.1.1, hA.2.1.2, hA.2.2.1.1, hA.2.2.1.2, hA.2.2.2.1.1, hA.2.2.2.1.2, hA.2.2.2.2.1.1, hA.2.2.2.2.1.2, hA.2.2.2.2.2.1, hA.2.2.2.2.2.2, kp_int, z, q1]
    · rw [show max (N mo (5 * m + 3)) (N cc 1) = N mo (5 * m + 3) by omega]
      simp (disch := omega) only [r_L_day_262, r_L_day_264, r_L_day_267, r_L_day_268, r_L_day_269, r_L_day_271, r_L_day_272, r_L_day_273, r_L_day_274, r_L_day_275, r_L_day_277, r_L_day_278, r_L_day_279, r_L_day_282, r_L_day_284, r_L_day_285, r_L_day_286, r_L_day_289, r_L_day_290, r_L_day_291, r_L_day_293, r_L_day_294, r_L_day_295, r_L_day_296, r_L_day_297, r_L_day_299, r_L_day_301, r_L_day_302, r_L_day_303, r_L_day_306, r_L_day_307, r_L_day_308, r_L_day_310, r_L_day_311, r_L_day_312, r_L_day_313, r_L_day_314, r_L_day_316, r_L_day_319, r_L_day_320, r_L_day_321, r_L_day_323, r_L_day_324, r_L_day_325, r_L_day_326, r_L_day_327, up2_o, up2_e, iN_ap, iN_up, i_ix, i_inb, i_lt, i_lt0, i_0lt, i_eq, i_ne0, i_00, i_11, i_01, i_10, i_b, i_rem2, n_rem, i_add, i_mul, i_sub, i_div, i_max, i_min, rdk_0, rdk_3, kp_none, kp_int, kp_ref, kp_long, kp_double, aK_v, aK_0, aK_ite, if_true, if_false, and_self, and_true, true_and, or_false, false_or, not_true_eq_false, not_false_eq_true, ite_self, ↓reduceIte, eq_self, Bool.false_eq_true, hA.1.1, hA.1.2, hA.2.1.1, hA.2.1.2, hA.2.2.1.1, hA.2.2.1.2, hA.2.2.2.1.1, hA.2.2.2.1.2, hA.2.2.2.2.1.1, hA.2.2.2.2.1.2, hA.2.2.2.2.2.1, hA.2.2.2.2.2.2, kp_int, z, q1]
theorem lz_mv {q : List Nat} {B : Nat → Nat} {o n ms : Nat} {A : Int32} (hA : LA Z mo mi sh cc) (hD : LD mo mi sh cc) (hB : (∀ m, m < 36 → B m ≤ o) ∧ o ≤ 1000) : ∀ (rs l : List Nat) (N : Nat → Nat → Nat) (R : aY) (a10 a11 : Option Value), rs.Nodup → l.Nodup → (∀ x, x ∈ q ↔ x ∈ l ∨ x ∈ rs) → (∀ x ∈ l, x ∉ rs) → (∀ x ∈ q, x < 36 ∧ x % 6 < R 4 (x / 6)) → (∀ x, x < 36 → (stg R x = 1 ↔ x ∈ q)) → WFz R → LS3 R → LM N mo mi sh cc R (fun x => if x ∈ rs then 3 else stg R x) B o → rs.Pairwise (kLt (R 8) B) → aOK rs l R →
    ∃ N', ex 104 262 [some (.ref mo), some (.ref mi), some (.ref sh), some (.ref 149), some (.ref 150), some (.ref cc), some (.int (nI n)), some (.int (nI ms)), some (.int A), some (.int (nI (hdI rs))), a10, a11] [] (Z, iN N, L, u) = some (.inl (some (.int (nI n))), (Z, iN N', L, u)) ∧ LM N' mo mi sh cc (aMvL rs l R) (stg (aMvL rs l R)) B o ∧ ∀ a, a ≠ mo → a ≠ mi → N' a = N a
  | [], l, N, R, a10, a11, _, _, _, _, _, _, _, _, h, _, _ => by
    refine ⟨N, ?_, LM_S h (fun x _ => by simp [aMvL]), fun _ _ _ => rfl⟩
    simp (disch := omega) only [r_L_day_262, r_L_day_264, r_L_day_407, r_L_day_409, up2_o, up2_e, iN_ap, iN_up, i_ix, i_inb, i_lt, i_lt0, i_0lt, i_eq, i_ne0, i_00, i_11, i_01, i_10, i_b, i_rem2, n_rem, i_add, i_mul, i_sub, i_div, i_max, i_min, rdk_0, rdk_3, kp_none, kp_int, kp_ref, kp_long, kp_double, aK_v, aK_0, aK_ite, if_true, if_false, and_self, and_true, true_and, or_false, false_or, not_true_eq_false, not_false_eq_true, ite_self, ↓reduceIte, eq_self, Bool.false_eq_true, hdI, zM1]
  | p :: rs, l, N, R, a10, a11, hnd, hln, hql, hlr, hqb, hst, hw, h3, h, hp, hok => by
    obtain ⟨n1, n2⟩ := List.nodup_cons.mp hnd
    obtain ⟨p1, p2⟩ := List.pairwise_cons.mp hp
    have hpq : p ∈ q := (hql p).mpr (Or.inr List.mem_cons_self)
    obtain ⟨hp36, hp4⟩ := hqb p hpq
    have hpl : p ∉ l := fun z => hlr p z List.mem_cons_self
    obtain ⟨⟨o1, o2⟩, hok2⟩ := hok
    have hr3 := (hw.2.1 (p / 6) (by omega)).2.1
    obtain ⟨hp18, hp6, hm, hpm⟩ := LS_in h3 hw.2.1 hp36 (by omega)
    have hb : LB N mo cc := LM_LB h hw h3 (fun m _ => by
      split
      · omega
      · have := stg_le (R := R) (m := m); omega) hB
    obtain ⟨m, em⟩ : ∃ m, m = lp p := ⟨_, rfl⟩
    rw [← em] at hm hpm
    have hm4 : m / 4 = p / 6 ∧ m % 4 = p % 6 := by
      have := lp_lt hp18 hp6
      rw [← em] at this
      exact this.2
    have eh : hdI (p :: rs) = m := em.symm
    rw [eh]
    obtain ⟨b1, b2, b3, b4⟩ := hb.2.2.1 m hm
    obtain ⟨f0, f1, f2, f3, -⟩ := h.2.2.2.1 m hm
    have f5 := (h.2.2.2.2.1 m hm).2
    rw [hpm] at f0 f1 f2 f3 f5
    have f5 := f5 hp4
    have hday : N cc 1 = R 0 0 := h.1.2.1
    have hS : ∀ x, x < 36 → ((if x ∈ p :: rs then 3 else stg R x) = 1 ↔ x ∈ l) := fun x hx => by
      by_cases z : x ∈ p :: rs
      · rw [if_pos z]
        exact ⟨fun w => by omega, fun w => absurd z (hlr x w)⟩
      · rw [if_neg z, hst x hx, hql x]
        exact ⟨fun w => w.elim id (fun w => absurd w z), Or.inl⟩
    have hcn := lLd_cnt h hw.2.1 h3 (fun x hx => hqb x ((hql x).mpr (Or.inl hx))) hln hS
    have e0 : N 149 0 = R 2 0 := h.2.2.1 0 (by omega)
    have e1 : N 149 1 = R 2 1 := h.2.2.1 1 (by omega)
    have g2 := hw.1.2.2.2.1
    have g3 := hw.1.2.2.2.2.2.1
    have hroom : ∀ d, lRm N mo cc m d = true ↔ cnt R l d < R 2 0 ∧ wgt R l d + R 6 p ≤ R 2 1 := fun d => by
      rw [lRm_iff, (hcn d).1, (hcn d).2, f0, e0, e1]
    obtain ⟨g4, g5, g6⟩ := aOpen_iff.mp o2
    have hge : max (R 8 p) (R 0 0) ≤ aFo R l p := aFX_ge _ _
    have hno : ∀ x, max (R 8 p) (R 0 0) ≤ x → x < aFo R l p → ¬ aOpen R l p x = true := fun x h1 h2 => aFX_no _ _ x h1 h2
    obtain ⟨d, hd⟩ : ∃ d, d = aFo R l p := ⟨_, rfl⟩
    rw [← hd] at o1 o2 hok2 g4 g5 g6 hge hno
    have hprev : 0 < m % 4 → N mo (5 * m - 2) = R 8 (p - 1) := fun z => by
      have h1 := (h.2.2.2.2.1 (m - 1) (by omega)).2
      rw [show pl (m - 1) = p - 1 by rw [← hpm]; unfold pl; omega, show 5 * (m - 1) + 3 = 5 * m - 2 by omega] at h1
      exact h1 (by rw [show (p - 1) / 6 = p / 6 by omega]; omega)
    have hto := lz_to (L := L) (u := u) (n := n) (ms := ms) (A := A) (a10 := a10) (a11 := a11) hA hm hb
    obtain ⟨e, he⟩ : ∃ e, e = (if 0 < m % 4 then max (max (N mo (5 * m + 3)) (N cc 1)) (N mo (5 * m - 2)) else max (N mo (5 * m + 3)) (N cc 1)) := ⟨_, rfl⟩
    rw [← he] at hto
    rw [hday, f5] at he
    have hed : e ≤ d ∧ max (R 8 p) (R 0 0) ≤ e ∧ (0 < m % 4 → R 8 (p - 1) ≤ e) := by
      rw [he]
      by_cases z : 0 < m % 4
      · rw [if_pos z, hprev z]
        refine ⟨?_, by omega, fun _ => by omega⟩
        rcases g4 with g4 | g4
        · omega
        · omega
      · rw [if_neg z]
        exact ⟨hge, Nat.le_refl _, fun y => absurd y z⟩
    have hin := lz_roomto (L := L) (u := u) (n := n) (ms := ms) (A := A) (a11 := a11) hA hb hm (by omega) (by omega) (show d < 2000 by omega) ((hroom _).mpr ⟨g5, g6⟩) (d - e) e (by omega) (fun x h1 h2 hr => by
      refine hno x (by omega) h2 (aOpen_iff.mpr ⟨?_, (hroom x).mp hr⟩)
      by_cases z : 0 < m % 4
      · exact Or.inr (by have := hed.2.2 z; omega)
      · exact Or.inl (by omega))
    have hr4 : ∀ i, aMv R p d 4 i = R 4 i := fun i => aMv_o (by omega) (by omega)
    have hr5 : ∀ i, aMv R p d 5 i = R 5 i := fun i => aMv_o (by omega) (by omega)
    have hstg : ∀ x, stg (aMv R p d) x = stg R x := fun x => by
      unfold stg
      rw [hr4, hr5]
    obtain ⟨W, hW⟩ : ∃ W, W = up2 (up2 (if d = R 8 p then N else up2 N mi (3 * m + 1) (N mi (3 * m + 1) + 1)) mo (5 * m + 3) d) mo (5 * m + 2) 1 := ⟨_, rfl⟩
    have hLW := LM_mv2 h hD hm hpm hp4 o1
    rw [← hW] at hLW
    have hWr : ∀ a, a ≠ mo → a ≠ mi → W a = N a := fun a ha hb => by
      funext j
      rw [hW, up2_o (fun z => ha z.1), up2_o (fun z => ha z.1)]
      split
      · rfl
      · exact up2_o (fun z => hb z.1)
    have hLW2 : LM W mo mi sh cc (aMv R p d) (fun x => if x ∈ rs then 3 else stg (aMv R p d) x) B o := LM_S hLW (fun x hx => by
      have hx2 := pl_lt hx
      rw [hstg]
      by_cases z : pl x = p
      · rw [z, if_neg n1, if_pos rfl]
        exact (hst p hp36).mpr hpq
      · rw [if_neg z]
        by_cases w : pl x ∈ rs
        · rw [if_pos w, if_pos (List.mem_cons_of_mem _ w)]
        · rw [if_neg w, if_neg (fun v => (List.mem_cons.mp v).elim z w)])
    have hw2 := WFz_mv hw o1 (p := p)
    have h32 : LS3 (aMv R p d) := LS3_o h3 (aMv_o (by omega) (by omega)) (fun i => aMv_o (by omega) (by omega))
    have hp2 : rs.Pairwise (kLt (aMv R p d 8) B) := List.Pairwise.imp_of_mem (fun {a b} ha hb hab => by
      unfold kLt
      rw [aMv_8, aMv_8, if_neg (fun z : a = p => n1 (z ▸ ha)), if_neg (fun z : b = p => n1 (z ▸ hb))]
      exact hab) p2
    have hqb2 : ∀ x ∈ q, x < 36 ∧ x % 6 < aMv R p d 4 (x / 6) := fun x hx => by rw [hr4]; exact hqb x hx
    have hf := lz_fst3 (L := L) (u := u) hA hB rs hLW2 hw2 h32 (fun x hx => hqb2 x ((hql x).mpr (Or.inr (List.mem_cons_of_mem _ hx)))) hp2
    obtain ⟨N', ih, i2, i3⟩ := lz_mv (q := q) (n := n) (ms := ms) (A := A) hA hD hB rs (p :: l) W (aMv R p d) (some (.int (nI d))) a11 n2 (List.nodup_cons.mpr ⟨hpl, hln⟩) (fun x => by
      rw [hql x, List.mem_cons, List.mem_cons]
      exact ⟨fun h => h.elim (fun h => Or.inl (Or.inr h)) (fun h => h.elim (fun h => Or.inl (Or.inl h)) Or.inr), fun h => h.elim (fun h => h.elim (fun h => Or.inr (Or.inl h)) Or.inl) (fun h => Or.inr (Or.inr h))⟩) (fun x hx hxr => by
      rcases List.mem_cons.mp hx with w | w
      · exact n1 (w ▸ hxr)
      · exact hlr x w (List.mem_cons_of_mem _ hxr)) hqb2 (fun x hx => by rw [hstg]; exact hst x hx) hw2 h32 hLW2 hp2 hok2
    have e8 : aMvL (p :: rs) l R = aMvL rs (p :: l) (aMv R p d) := by rw [hd]; rfl
    rw [e8]
    refine ⟨N', ?_, i2, fun a h1 h2 => (i3 a h1 h2).trans (hWr a h1 h2)⟩
    rw [hto, hin, ← ih]
    obtain ⟨d1, d2, d3, d4, d5, d6, d7, d8, d9, d10, d11, d12, d13, d14⟩ := hD
    have hx8 : R 8 p < 2000 := by omega
    by_cases z : d = R 8 p
    · rw [if_pos z] at hW
      rw [← z] at f5
      simp (disch := omega) only [r_L_day_349, r_L_day_351, r_L_day_352, r_L_day_353, r_L_day_355, r_L_day_356, r_L_day_357, r_L_day_358, r_L_day_359, r_L_day_362, r_L_day_363, r_L_day_364, r_L_day_366, r_L_day_367, r_L_day_368, r_L_day_369, r_L_day_370, r_L_day_371, r_L_day_372, r_L_day_373, r_L_day_374, r_L_day_375, r_L_day_376, r_L_day_378, r_L_day_379, r_L_day_380, r_L_day_381, r_L_day_383, r_L_day_384, r_L_day_385, r_L_day_386, r_L_day_388, r_L_day_389, r_L_day_390, r_L_day_391, r_L_day_392, up2_o, up2_e, iN_ap, iN_up, i_ix, i_inb, i_lt, i_lt0, i_0lt, i_eq, i_ne0, i_00, i_11, i_01, i_10, i_b, i_rem2, n_rem, i_add, i_mul, i_sub, i_div, i_max, i_min, rdk_0, rdk_3, kp_none, kp_int, kp_ref, kp_long, kp_double, aK_v, aK_0, aK_ite, if_true, if_false, and_self, and_true, true_and, or_false, false_or, not_true_eq_false, not_false_eq_true, ite_self, ↓reduceIte, eq_self, Bool.false_eq_true, hA.1.1, hA.1.2, hA.2.1.1, hA.2.1.2, hA.2.2.1.1, hA.2.2.1.2, hA.2.2.2.1.1, hA.2.2.2.1.2, hA.2.2.2.2.1.1, hA.2.2.2.2.1.2, hA.2.2.2.2.2.1, hA.2.2.2.2.2.2, kp_int, f5]
      rw [← hW]
      simp (disch := omega) only [r_L_day_393, r_L_day_394, r_L_day_395, r_L_day_396, r_L_day_397, r_L_day_399, r_L_day_402, r_L_day_404, up2_o, up2_e, iN_ap, iN_up, i_ix, i_inb, i_lt, i_lt0, i_0lt, i_eq, i_ne0, i_00, i_11, i_01, i_10, i_b, i_rem2, n_rem, i_add, i_mul, i_sub, i_div, i_max, i_min, rdk_0, rdk_3, kp_none, kp_int, kp_ref, kp_long, kp_double, aK_v, aK_0, aK_ite, if_true, if_false, and_self, and_true, true_and, or_false, false_or, not_true_eq_false, not_false_eq_true, ite_self, ↓reduceIte, eq_self, Bool.false_eq_true, hA.1.1, hA.1.2, hA.2.1.1, hA.2.1.2, hA.2.2.1.1, hA.2.2.1.2, hA.2.2.2.1.1, hA.2.2.2.1.2, hA.2.2.2.2.1.1, hA.2.2.2.2.1.2, hA.2.2.2.2.2.1, hA.2.2.2.2.2.2, kp_int, nM1, hf]
    · rw [if_neg z] at hW
      simp (disch := omega) only [r_L_day_349, r_L_day_351, r_L_day_352, r_L_day_353, r_L_day_355, r_L_day_356, r_L_day_357, r_L_day_358, r_L_day_359, r_L_day_362, r_L_day_363, r_L_day_364, r_L_day_366, r_L_day_367, r_L_day_368, r_L_day_369, r_L_day_370, r_L_day_371, r_L_day_372, r_L_day_373, r_L_day_374, r_L_day_375, r_L_day_376, r_L_day_378, r_L_day_379, r_L_day_380, r_L_day_381, r_L_day_383, r_L_day_384, r_L_day_385, r_L_day_386, r_L_day_388, r_L_day_389, r_L_day_390, r_L_day_391, r_L_day_392, up2_o, up2_e, iN_ap, iN_up, i_ix, i_inb, i_lt, i_lt0, i_0lt, i_eq, i_ne0, i_00, i_11, i_01, i_10, i_b, i_rem2, n_rem, i_add, i_mul, i_sub, i_div, i_max, i_min, rdk_0, rdk_3, kp_none, kp_int, kp_ref, kp_long, kp_double, aK_v, aK_0, aK_ite, if_true, if_false, and_self, and_true, true_and, or_false, false_or, not_true_eq_false, not_false_eq_true, ite_self, ↓reduceIte, eq_self, Bool.false_eq_true, hA.1.1, hA.1.2, hA.2.1.1, hA.2.1.2, hA.2.2.1.1, hA.2.2.1.2, hA.2.2.2.1.1, hA.2.2.2.1.2, hA.2.2.2.2.1.1, hA.2.2.2.2.1.2, hA.2.2.2.2.2.1, hA.2.2.2.2.2.2, kp_int, f5, z]
      rw [← hW]
      simp (disch := omega) only [r_L_day_393, r_L_day_394, r_L_day_395, r_L_day_396, r_L_day_397, r_L_day_399, r_L_day_402, r_L_day_404, up2_o, up2_e, iN_ap, iN_up, i_ix, i_inb, i_lt, i_lt0, i_0lt, i_eq, i_ne0, i_00, i_11, i_01, i_10, i_b, i_rem2, n_rem, i_add, i_mul, i_sub, i_div, i_max, i_min, rdk_0, rdk_3, kp_none, kp_int, kp_ref, kp_long, kp_double, aK_v, aK_0, aK_ite, if_true, if_false, and_self, and_true, true_and, or_false, false_or, not_true_eq_false, not_false_eq_true, ite_self, ↓reduceIte, eq_self, Bool.false_eq_true, hA.1.1, hA.1.2, hA.2.1.1, hA.2.1.2, hA.2.2.1.1, hA.2.2.1.2, hA.2.2.2.1.1, hA.2.2.2.1.2, hA.2.2.2.2.1.1, hA.2.2.2.2.1.2, hA.2.2.2.2.2.1, hA.2.2.2.2.2.2, kp_int, nM1, hf]
theorem lz_day {N : Nat → Nat → Nat} {R : aY} {q : List Nat} {B : Nat → Nat} {o : Nat} (hA : LA Z mo mi sh cc) (hD : LD mo mi sh cc) (h : LM N mo mi sh cc R (stg R) B o) (hw : WF R q) (h3 : LS3 R) (hb : BK q B o) (ht : R 0 0 + 1 ≤ 1300) :
    ∃ N', ex 104 0 [some (.ref mo), some (.ref mi), some (.ref sh), some (.ref 149), some (.ref 150), some (.ref cc), none, none, none, none, none, none] [] (Z, iN N, L, u) = some (.inl (some (.int (nI (q.length - (aQ q R).length)))), (Z, iN N', L, u)) ∧ LM N' mo mi sh cc (aP (R, q)).1 (stg (aP (R, q)).1) B o ∧ ∀ a, a ≠ mo → a ≠ mi → a ≠ sh → a ≠ cc → N' a = N a := by
  have hB : (∀ m, m < 36 → B m ≤ o) ∧ o ≤ 1000 := ⟨hb.2.1, hb.2.2.2⟩
  have hwz := WF_z hw (by omega)
  have hx : ∀ x, x ∈ q ↔ x < 36 ∧ R 5 (x / 6) ≤ x % 6 ∧ x % 6 < R 4 (x / 6) := hw.2.2.2.2.2.2.1
  obtain ⟨rs, hrs⟩ : ∃ rs, rs = q.filter (fun p => Nat.beq (R 8 p) (R 0 0)) := ⟨_, rfl⟩
  have hmem : ∀ x, x ∈ rs ↔ x ∈ q ∧ R 8 x = R 0 0 := fun x => by rw [hrs, List.mem_filter, Nat.beq_eq]
  have hsub : rs.Sublist q := by rw [hrs]; exact List.filter_sublist
  have hpr := hb.1.sublist hsub
  have hrx : ∀ x ∈ rs, x < 36 ∧ R 5 (x / 6) ≤ x % 6 ∧ x % 6 < R 4 (x / 6) ∧ R 8 x = R 0 0 := fun x hxx => by
    obtain ⟨a1, a2⟩ := (hmem x).mp hxx
    obtain ⟨a3, a4, a5⟩ := (hx x).mp a1
    exact ⟨a3, a4, a5, a2⟩
  have hcd : ∀ x, x < 36 → ((stg R x = 1 ∧ R 8 x = R 0 0 ∧ 0 ≤ B x) ↔ x ∈ rs) := fun x hx36 => by
    rw [hmem, stg_1 hw hx36]
    exact ⟨fun y => ⟨y.1, y.2.1⟩, fun y => ⟨y.1, y.2, Nat.zero_le _⟩⟩
  have hf := lz_fst1 (L := L) (u := u) (af := 0) (A := nI 4294967295) hA hB rs h hwz h3 hrx hpr hcd (by omega) rfl
  obtain ⟨N1, A1, b10, b11, k1, k2, k3⟩ := lz_day1 (L := L) (u := u) hA hD hB rs N R 0 0 0 (nI 4294967295) none none h hwz h3 (hw.2.2.2.2.2.1.sublist hsub) hrx hpr hcd (by omega)
  have hdo : aDo rs R = aDo q R := by rw [hrs, ← aDo_filter]
  have hlf : aLf rs R = aLf q R := by rw [hrs, ← aLf_filter]
  have hcn : aC rs R = q.length - (aQ q R).length := by
    have s1 := aC_sum rs R (fun x hxx => (hrx x hxx).1)
    have s2 := aQ_len q R (fun x hxx => ((hx x).mp hxx).1)
    rw [hdo] at s1
    omega
  rw [hdo] at k2
  rw [hcn, hlf, Nat.zero_add] at k1
  have w0 : WF (aN R q) (aQ q R) := WF_do hw
  have hD2 := hD
  obtain ⟨d1, d2, d3, d4, d5, d6, d7, d8, d9, d10, d11, d12, d13, d14⟩ := hD
  have hday : N1 cc 1 = R 0 0 := by
    rw [k2.1.2.1, aDo_o (by omega) (by omega) (by omega)]
  have hS1 : ∀ m, stg (aN R q) m = stg (aDo q R) m := fun m => by
    unfold stg aN
    rw [up2_o (by omega), up2_o (by omega)]
  have k4 : LM (up2 N1 cc 1 (N1 cc 1 + 1)) mo mi sh cc (aN R q) (stg (aN R q)) B o := by
    have := LM_day (d := N1 cc 1 + 1) k2 hD2
    rw [hday] at this
    rw [hday]
    exact LM_S this (fun m _ => hS1 _)
  obtain ⟨W, hW⟩ : ∃ W, W = up2 N1 cc 1 (N1 cc 1 + 1) := ⟨_, rfl⟩
  rw [← hW] at k4
  have k5 : ∀ a, a ≠ mo → a ≠ mi → a ≠ sh → a ≠ cc → W a = N a := fun a h1 h2 h3 h4 => by
    rw [← k3 a h1 h2 h3, hW]
    funext j
    exact up2_o (fun z => h4 z.1)
  have hst : ex 104 0 [some (.ref mo), some (.ref mi), some (.ref sh), some (.ref 149), some (.ref 150), some (.ref cc), none, none, none, none, none, none] [] (Z, iN N, L, u) = ex 104 24 [some (.ref mo), some (.ref mi), some (.ref sh), some (.ref 149), some (.ref 150), some (.ref cc), some (.int (nI 0)), some (.int (nI 0)), some (.int (nI 4294967295)), some (.int (nI (hdI rs))), none, none] [] (Z, iN N, L, u) := by
    simp (disch := omega) only [r_L_day_0, r_L_day_1, r_L_day_3, r_L_day_4, r_L_day_6, r_L_day_7, r_L_day_9, r_L_day_10, r_L_day_12, r_L_day_13, r_L_day_14, r_L_day_16, r_L_day_17, r_L_day_19, r_L_day_22, up2_o, up2_e, iN_ap, iN_up, i_ix, i_inb, i_lt, i_lt0, i_0lt, i_eq, i_ne0, i_00, i_11, i_01, i_10, i_b, i_rem2, n_rem, i_add, i_mul, i_sub, i_div, i_max, i_min, rdk_0, rdk_3, kp_none, kp_int, kp_ref, kp_long, kp_double, aK_v, aK_0, aK_ite, if_true, if_false, and_self, and_true, true_and, or_false, false_or, not_true_eq_false, not_false_eq_true, ite_self, ↓reduceIte, eq_self, Bool.false_eq_true, hA.1.1, hA.1.2, hA.2.1.1, hA.2.1.2, hA.2.2.1.1, hA.2.2.1.2, hA.2.2.2.1.1, hA.2.2.2.1.2, hA.2.2.2.2.1.1, hA.2.2.2.2.1.2, hA.2.2.2.2.2.1, hA.2.2.2.2.2.2, kp_int, kp_none, kp_ref, nM1, hf]
  rw [hst, k1]
  by_cases hl : aLf q R = true
  · have e00 : aN R q 0 0 = R 0 0 + 1 := up2_e ⟨rfl, rfl⟩
    obtain ⟨-, -, w3⟩ := WF_P (s := (R, q)) hw ht
    have w3 := w3 hl
    have hwz2 := WF_z w0 (by rw [e00]; exact ht)
    have h33 : LS3 (aN R q) := LS3_o h3 (by unfold aN; rw [up2_o (by omega), aDo_o (by omega) (by omega) (by omega)]) (fun i => by unfold aN; rw [up2_o (by omega), aDo_o (by omega) (by omega) (by omega)])
    have hst2 : ∀ x, x < 36 → (stg (aN R q) x = 1 ↔ x ∈ aQ q R) := fun x hx36 => stg_1 w0 hx36
    have hT : (aT (aN R q 8) (aQ q R)).Nodup := aT_nd w0.2.2.2.2.2.1
    obtain ⟨N2, j1, j2, j3⟩ := lz_mark (L := L) (u := u) (q := aQ q R) (n := q.length - (aQ q R).length) (ms := 1) (A := A1) (a9 := nI 4294967295) (a11 := b11) hA hD2 hB hwz2 h33 hst2 12 0 W rfl (LM_S k4 (fun m _ => by
      rw [if_neg (fun z => Nat.not_lt_zero _ z.2)]))
    have j2 : LM N2 mo mi sh cc (aN R q) (fun x => if x ∈ aT (aN R q 8) (aQ q R) then 3 else stg (aN R q) x) B o := LM_S j2 (fun m _ => by
      by_cases z : pl m ∈ aQ q R
      · rw [if_pos z, if_pos (aT_mem.mpr z)]
      · rw [if_neg z, if_neg (fun y => z (aT_mem.mp y))])
    have hqb : ∀ x ∈ aQ q R, x < 36 ∧ x % 6 < aN R q 4 (x / 6) := fun x hxx => by
      have := (w0.2.2.2.2.2.2.1 x).mp hxx
      exact ⟨this.1, this.2.2⟩
    have hps : (aT (aN R q 8) (aQ q R)).Pairwise (kLt (aN R q 8) B) := aT_srt (hb.1.sublist (aQ_sub q R))
    have hf3 := lz_fst3 (L := L) (u := u) hA hB _ j2 hwz2 h33 (fun x hxx => hqb x (aT_mem.mp hxx)) hps
    obtain ⟨N3, l1, l2, l3⟩ := lz_mv (L := L) (u := u) (q := aQ q R) (n := q.length - (aQ q R).length) (ms := 1) (A := A1) hA hD2 hB (aT (aN R q 8) (aQ q R)) [] N2 (aN R q) (some (.int (nI 12))) b11 hT List.nodup_nil (fun x => by rw [aT_mem]; simp) (fun x hxx => by simp at hxx) hqb hst2 hwz2 h33 j2 hps w3
    have eP : (aP (R, q)).1 = aMvL (aT (aN R q 8) (aQ q R)) [] (aN R q) := by
      unfold aP
      rw [if_pos hl]
    rw [eP, if_pos hl]
    refine ⟨N3, ?_, l2, fun a h1 h2 h3 h4 => by rw [l3 a h1 h2, j3 a h1, k5 a h1 h2 h3 h4]⟩
    rw [← l1]
    have g1 : ex 104 188 [some (.ref mo), some (.ref mi), some (.ref sh), some (.ref 149), some (.ref 150), some (.ref cc), some (.int (nI (q.length - (aQ q R).length))), some (.int (nI 1)), some (.int A1), some (.int (nI 4294967295)), b10, b11] [] (Z, iN N1, L, u) = ex 104 207 [some (.ref mo), some (.ref mi), some (.ref sh), some (.ref 149), some (.ref 150), some (.ref cc), some (.int (nI (q.length - (aQ q R).length))), some (.int (nI 1)), some (.int A1), some (.int (nI 4294967295)), some (.int (nI 0)), b11] [] (Z, iN W, L, u) := by
      rw [hW]
      simp (disch := omega) only [r_L_day_188, r_L_day_190, r_L_day_191, r_L_day_192, r_L_day_193, r_L_day_194, r_L_day_195, r_L_day_196, r_L_day_198, r_L_day_201, r_L_day_203, r_L_day_204, r_L_day_205, up2_o, up2_e, iN_ap, iN_up, i_ix, i_inb, i_lt, i_lt0, i_0lt, i_eq, i_ne0, i_00, i_11, i_01, i_10, i_b, i_rem2, n_rem, i_add, i_mul, i_sub, i_div, i_max, i_min, rdk_0, rdk_3, kp_none, kp_int, kp_ref, kp_long, kp_double, aK_v, aK_0, aK_ite, if_true, if_false, and_self, and_true, true_and, or_false, false_or, not_true_eq_false, not_false_eq_true, ite_self, ↓reduceIte, eq_self, Bool.false_eq_true, hA.1.1, hA.1.2, hA.2.1.1, hA.2.1.2, hA.2.2.1.1, hA.2.2.1.2, hA.2.2.2.1.1, hA.2.2.2.1.2, hA.2.2.2.2.1.1, hA.2.2.2.2.1.2, hA.2.2.2.2.2.1, hA.2.2.2.2.2.2, kp_int]
    rw [g1, j1]
    simp (disch := omega) only [r_L_day_251, r_L_day_252, r_L_day_253, r_L_day_254, r_L_day_255, r_L_day_257, r_L_day_260, up2_o, up2_e, iN_ap, iN_up, i_ix, i_inb, i_lt, i_lt0, i_0lt, i_eq, i_ne0, i_00, i_11, i_01, i_10, i_b, i_rem2, n_rem, i_add, i_mul, i_sub, i_div, i_max, i_min, rdk_0, rdk_3, kp_none, kp_int, kp_ref, kp_long, kp_double, aK_v, aK_0, aK_ite, if_true, if_false, and_self, and_true, true_and, or_false, false_or, not_true_eq_false, not_false_eq_true, ite_self, ↓reduceIte, eq_self, Bool.false_eq_true, hA.1.1, hA.1.2, hA.2.1.1, hA.2.1.2, hA.2.2.1.1, hA.2.2.1.2, hA.2.2.2.1.1, hA.2.2.2.1.2, hA.2.2.2.2.1.1, hA.2.2.2.2.1.2, hA.2.2.2.2.2.1, hA.2.2.2.2.2.2, kp_int, nM1, hf3]
  · have eP : (aP (R, q)).1 = aN R q := by
      unfold aP
      rw [if_neg hl]
    rw [eP, if_neg hl]
    refine ⟨W, ?_, k4, k5⟩
    rw [hW]
    simp (disch := omega) only [r_L_day_188, r_L_day_190, r_L_day_191, r_L_day_192, r_L_day_193, r_L_day_194, r_L_day_195, r_L_day_196, r_L_day_198, r_L_day_201, r_L_day_203, up2_o, up2_e, iN_ap, iN_up, i_ix, i_inb, i_lt, i_lt0, i_0lt, i_eq, i_ne0, i_00, i_11, i_01, i_10, i_b, i_rem2, n_rem, i_add, i_mul, i_sub, i_div, i_max, i_min, rdk_0, rdk_3, kp_none, kp_int, kp_ref, kp_long, kp_double, aK_v, aK_0, aK_ite, if_true, if_false, and_self, and_true, true_and, or_false, false_or, not_true_eq_false, not_false_eq_true, ite_self, ↓reduceIte, eq_self, Bool.false_eq_true, hA.1.1, hA.1.2, hA.2.1.1, hA.2.1.2, hA.2.2.1.1, hA.2.2.1.2, hA.2.2.2.1.1, hA.2.2.2.1.2, hA.2.2.2.2.1.1, hA.2.2.2.2.1.2, hA.2.2.2.2.2.1, hA.2.2.2.2.2.2, kp_int]
end Lh
