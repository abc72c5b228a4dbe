/-! the law's day: what is missed moves all behind it -/
theorem stg_1lt {R : aY} {m : Nat} (hm : stg R m = 1) : m % 6 < R 4 (m / 6) := by
  unfold stg at hm
  split at hm
  · omega
  · split at hm
    · assumption
    · omega
section Lg
variable {Z : aZ} {L : Nat → Nat → Int64} {u : Nat × Nat} {mo mi sh cc : Nat}
theorem lz_mark {q : List Nat} {R : aY} {B : Nat → Nat} {o n ms : Nat} {A a9 : Int32} {a11 : Option Value} (hA : LA Z mo mi sh cc) (hD : LD mo mi sh cc) (hB : (∀ m, m < 36 → B m ≤ o) ∧ o ≤ 1000) (hw : WFz R) (h3 : LS3 R) (hst : ∀ x, x < 36 → (stg R x = 1 ↔ x ∈ q)) : ∀ (k i : Nat) (N : Nat → Nat → Nat), i + k = 12 → LM N mo mi sh cc R (fun x => if x ∈ q ∧ lp x < i then 3 else stg R x) B o →
    ∃ N', ex 104 207 [some (.ref mo), some (.ref mi), some (.ref sh), some (.ref 149), some (.ref 150), some (.ref cc), some (.int (nI n)), some (.int (nI ms)), some (.int A), some (.int a9), some (.int (nI i)), a11] [] (Z, iN N, L, u) =
      ex 104 251 [some (.ref mo), some (.ref mi), some (.ref sh), some (.ref 149), some (.ref 150), some (.ref cc), some (.int (nI n)), some (.int (nI ms)), some (.int A), some (.int a9), some (.int (nI 12)), a11] [] (Z, iN N', L, u) ∧ LM N' mo mi sh cc R (fun x => if x ∈ q then 3 else stg R x) B o ∧ ∀ a, a ≠ mo → N' a = N a
  | 0, i, N, e, h => by
    have ei : i = 12 := by omega
    subst ei
    refine ⟨N, ?_, LM_S h (fun m hm => ?_), fun _ _ => rfl⟩
    · simp (disch := omega) only [r_L_day_207, r_L_day_209, r_L_day_211, up2_o, up2_e, iN_ap, iN_up, i_ix, i_inb, i_lt, i_lt0, i_0lt, i_eq, i_ne0, i_00, i_11, i_01, i_10, i_b, i_rem2, n_rem, i_add, i_mul, i_sub, i_div, i_max, i_min, rdk_0, rdk_3, kp_none, kp_int, kp_ref, kp_long, kp_double, aK_v, aK_0, aK_ite, if_true, if_false, and_self, and_true, true_and, or_false, false_or, not_true_eq_false, not_false_eq_true, ite_self, ↓reduceIte, eq_self, Bool.false_eq_true, Nat.lt_irrefl]
    · rw [lp_pl]
      by_cases z : pl m ∈ q
      · rw [if_pos z, if_pos ⟨z, hm⟩]
      · rw [if_neg z, if_neg (fun y => z y.1)]
  | k + 1, i, N, e, h => by
    have hi : i < 12 := by omega
    have hp := pl_lt hi
    have hb : LB N mo cc := LM_LB h hw h3 (fun m _ => by
      split
      · omega
      · have := stg_le (R := R) (m := m); omega) hB
    obtain ⟨b1, b2, b3, b4⟩ := hb.2.2.1 i hi
    have ht := lz_there (L := L) (u := u) hA.2.2.2.1 hi hb
    have f2 : N mo (5 * i + 2) = stg R (pl i) := by
      rw [(h.2.2.2.1 i hi).2.2.1]
      show (if pl i ∈ q ∧ lp (pl i) < i then 3 else stg R (pl i)) = stg R (pl i)
      rw [lp_pl, if_neg (fun z => Nat.lt_irrefl _ z.2)]
    by_cases s1 : N mo (5 * i + 2) = 1
    · have hq : pl i ∈ q := (hst _ (by omega)).mp (f2.symm.trans s1)
      have t : lTh (N cc) i = true := by
        rw [lTh_R h hw.2.1 hi]
        have h1 := stg_1lt (f2.symm.trans s1)
        have h2 := (hw.2.1 (pl i / 6) (by omega)).2.1
        omega
      have hn := LM_S (LM_st (v := 3) h hD hi) (S' := fun x => if x ∈ q ∧ lp x < i + 1 then 3 else stg R x) (fun m hm => by
        rw [lp_pl]
        by_cases z : m = i
        · rw [z, if_pos ⟨hq, by omega⟩, if_pos rfl]
        · rw [if_neg (fun y => z (pl_in y))]
          by_cases y : pl m ∈ q ∧ m < i
          · rw [if_pos y, if_pos ⟨y.1, by omega⟩]
          · rw [if_neg y, if_neg (fun x => y ⟨x.1, by omega⟩)])
      obtain ⟨N', ih, i2, i3⟩ := lz_mark (q := q) (n := n) (ms := ms) (A := A) (a9 := a9) (a11 := a11) hA hD hB hw h3 hst k (i + 1) _ (by omega) hn
      refine ⟨N', ?_, i2, fun a ha => (i3 a ha).trans (by funext j; exact up2_o (fun z => ha z.1))⟩
      rw [← ih, r_L_day_207]
      simp (disch := omega) only [r_L_day_209, r_L_day_211, r_L_day_214, r_L_day_216, r_L_day_218, r_L_day_221, r_L_day_224, r_L_day_225, r_L_day_226, r_L_day_228, r_L_day_229, r_L_day_230, r_L_day_231, r_L_day_232, r_L_day_233, r_L_day_236, r_L_day_237, r_L_day_238, r_L_day_240, r_L_day_241, r_L_day_242, r_L_day_243, r_L_day_244, r_L_day_245, r_L_day_248, up2_o, up2_e, iN_ap, iN_up, i_ix, i_inb, i_lt, i_lt0, i_0lt, i_eq, i_ne0, i_00, i_11, i_01, i_10, i_b, i_rem2, n_rem, i_add, i_mul, i_sub, i_div, i_max, i_min, rdk_0, rdk_3, kp_none, kp_int, kp_ref, kp_long, kp_double, aK_v, aK_0, aK_ite, if_true, if_false, and_self, and_true, true_and, or_false, false_or, not_true_eq_false, not_false_eq_true, ite_self, ↓reduceIte, eq_self, Bool.false_eq_true, hA.1.1, hA.1.2, hA.2.1.1, hA.2.1.2, hA.2.2.1.1, hA.2.2.1.2, hA.2.2.2.1.1, hA.2.2.2.1.2, hA.2.2.2.2.1.1, hA.2.2.2.2.1.2, hA.2.2.2.2.2.1, hA.2.2.2.2.2.2, hi, ht, t, s1]
    · have hq : pl i ∉ q := fun z => s1 (f2.trans ((hst _ (by omega)).mpr z))
      have hn := LM_S h (S' := fun x => if x ∈ q ∧ lp x < i + 1 then 3 else stg R x) (fun m hm => by
        rw [lp_pl]
        by_cases y : pl m ∈ q ∧ m < i
        · rw [if_pos y, if_pos ⟨y.1, by omega⟩]
        · rw [if_neg y, if_neg (fun x => by
            by_cases w : m = i
            · rw [w] at x; exact hq x.1
            · exact y ⟨x.1, by omega⟩)])
      obtain ⟨N', ih, i2, i3⟩ := lz_mark (q := q) (n := n) (ms := ms) (A := A) (a9 := a9) (a11 := a11) hA hD hB hw h3 hst k (i + 1) _ (by omega) hn
      refine ⟨N', ?_, i2, i3⟩
      rw [← ih, r_L_day_207]
      by_cases t : lTh (N cc) i = true
      · simp (disch := omega) only [r_L_day_209, r_L_day_211, r_L_day_214, r_L_day_216, r_L_day_218, r_L_day_221, r_L_day_224, r_L_day_225, r_L_day_226, r_L_day_228, r_L_day_229, r_L_day_230, r_L_day_231, r_L_day_232, r_L_day_233, r_L_day_236, r_L_day_237, r_L_day_238, r_L_day_240, r_L_day_241, r_L_day_242, r_L_day_243, r_L_day_244, r_L_day_245, r_L_day_248, up2_o, up2_e, iN_ap, iN_up, i_ix, i_inb, i_lt, i_lt0, i_0lt, i_eq, i_ne0, i_00, i_11, i_01, i_10, i_b, i_rem2, n_rem, i_add, i_mul, i_sub, i_div, i_max, i_min, rdk_0, rdk_3, kp_none, kp_int, kp_ref, kp_long, kp_double, aK_v, aK_0, aK_ite, if_true, if_false, and_self, and_true, true_and, or_false, false_or, not_true_eq_false, not_false_eq_true, ite_self, ↓reduceIte, eq_self, Bool.false_eq_true, hA.1.1, hA.1.2, hA.2.1.1, hA.2.1.2, hA.2.2.1.1, hA.2.2.1.2, hA.2.2.2.1.1, hA.2.2.2.1.2, hA.2.2.2.2.1.1, hA.2.2.2.2.1.2, hA.2.2.2.2.2.1, hA.2.2.2.2.2.2, hi, ht, t, s1]
      · simp (disch := omega) only [r_L_day_209, r_L_day_211, r_L_day_214, r_L_day_216, r_L_day_218, r_L_day_221, r_L_day_224, r_L_day_225, r_L_day_226, r_L_day_228, r_L_day_229, r_L_day_230, r_L_day_231, r_L_day_232, r_L_day_233, r_L_day_236, r_L_day_237, r_L_day_238, r_L_day_240, r_L_day_241, r_L_day_242, r_L_day_243, r_L_day_244, r_L_day_245, r_L_day_248, up2_o, up2_e, iN_ap, iN_up, i_ix, i_inb, i_lt, i_lt0, i_0lt, i_eq, i_ne0, i_00, i_11, i_01, i_10, i_b, i_rem2, n_rem, i_add, i_mul, i_sub, i_div, i_max, i_min, rdk_0, rdk_3, kp_none, kp_int, kp_ref, kp_long, kp_double, aK_v, aK_0, aK_ite, if_true, if_false, and_self, and_true, true_and, or_false, false_or, not_true_eq_false, not_false_eq_true, ite_self, ↓reduceIte, eq_self, Bool.false_eq_true, hA.1.1, hA.1.2, hA.2.1.1, hA.2.1.2, hA.2.2.1.1, hA.2.2.1.2, hA.2.2.2.1.1, hA.2.2.2.1.2, hA.2.2.2.2.1.1, hA.2.2.2.2.1.2, hA.2.2.2.2.2.1, hA.2.2.2.2.2.2, hi, ht, t]
theorem lz_fst3 {N : Nat → Nat → Nat} {R : aY} {B : Nat → Nat} {o : Nat} (hA : LA Z mo mi sh cc) (hB : (∀ m, m < 36 → B m ≤ o) ∧ o ≤ 1000) (rs : List Nat) (h : LM N mo mi sh cc R (fun x => if x ∈ rs then 3 else stg R x) B o) (hw : WFz R) (h3 : LS3 R) (hx : ∀ x ∈ rs, x < 36 ∧ x % 6 < R 4 (x / 6)) (hp : rs.Pairwise (kLt (R 8) B)) :
    ex 103 0 [some (.int (nI 3)), some (.int (nI 4294967295)), some (.int (nI 4294967295)), some (.ref mo), some (.ref cc), none, none] [] (Z, iN N, L, u) = some (.inl (some (.int (nI (hdI rs)))), (Z, iN N, L, u)) := by
  have hb := LM_LB h hw h3 (fun m _ => by
    split
    · omega
    · have := stg_le (R := R) (m := m); omega) hB
  have hh := hw.2.1
  have hS : ∀ x, (if x ∈ rs then 3 else stg R x) = 3 ↔ x ∈ rs := fun x => by
    by_cases z : x ∈ rs
    · rw [if_pos z]; exact ⟨fun _ => z, fun _ => rfl⟩
    · rw [if_neg z]
      have := stg_le (R := R) (m := x)
      exact ⟨fun y => by omega, fun y => absurd y z⟩
  obtain ⟨b', e1, e2⟩ := lz_first (L := L) (u := u) (s := 3) (dd := 4294967295) (af := 0) (A := nI 4294967295) hA hb (Or.inl rfl) (by omega) (by omega) rfl
  have hm : ∀ m, m < 12 → (fC N mo cc 3 4294967295 0 m ↔ pl m ∈ rs) := fun m hm => by
    rw [fC_st h hh hm (fun z => (hx _ ((hS _).mp z)).2), hS]
    exact ⟨fun y => y.1, fun y => ⟨y, Or.inl rfl, Nat.zero_le _⟩⟩
  rw [e1]
  cases rs with
  | nil => rw [FI_nil e2 (fun m hm2 hc2 => by simpa using (hm m hm2).mp hc2)]; rfl
  | cons p rs =>
    obtain ⟨p1, p2⟩ := List.pairwise_cons.mp hp
    have hin : ∀ x ∈ p :: rs, lp x < 12 ∧ pl (lp x) = x := fun x hxx => by
      have hq := hx x hxx
      have := hh (x / 6) (by omega)
      exact (LS_in h3 hh hq.1 (by omega)).2.2
    rw [FI_cons e2 hm (hin p List.mem_cons_self) (fun x hxx => by
      have i1 := hin p List.mem_cons_self
      have i2 := hin x (List.mem_cons_of_mem _ hxx)
      have q1 := hx p List.mem_cons_self
      have q2 := hx x (List.mem_cons_of_mem _ hxx)
      have g1 := (h.2.2.2.2.1 (lp p) i1.1).2
      have g2 := (h.2.2.2.2.1 (lp x) i2.1).2
      have k1 := (h.2.2.2.1 (lp p) i1.1).2.2.2.1
      have k2 := (h.2.2.2.1 (lp x) i2.1).2.2.2.1
      rw [i1.2] at g1 k1
      rw [i2.2] at g2 k2
      have := p1 x hxx
      unfold fL
      rw [g1 q1.2, g2 q2.2, k1, k2]
      exact this)]
    rfl
theorem lz_roomto {N : Nat → Nat → Nat} {m d n ms : Nat} {A : Int32} {a11 : Option Value} (hA : LA Z mo mi sh cc) (hb : LB N mo cc) (hm : m < 12) (h0 : N 149 0 < 1000) (h1 : N 149 1 < 1000) (hd : d < 2000) (hr : lRm N mo cc m d = true) : ∀ (k e : Nat), e + k = d → (∀ x, e ≤ x → x < d → ¬ lRm N mo cc m x = true) →
    ex 104 329 [some (.ref mo), some (.ref mi), some (.ref sh), some (.ref 149), some (.ref 150), some (.ref cc), some (.int (nI n)), some (.int (nI ms)), some (.int A), some (.int (nI m)), some (.int (nI e)), a11] [] (Z, iN N, L, u) =
    ex 104 349 [some (.ref mo), some (.ref mi), some (.ref sh), some (.ref 149), some (.ref 150), some (.ref cc), some (.int (nI n)), some (.int (nI ms)), some (.int A), some (.int (nI m)), some (.int (nI d)), a11] [] (Z, iN N, L, u)
  | 0, e, he, _ => by
    have ee : e = d := by omega
    subst ee
    rw [r_L_day_329]
    simp (disch := omega) only [r_L_day_331, r_L_day_333, r_L_day_334, r_L_day_335, r_L_day_337, r_L_day_340, r_L_day_343, up2_o, up2_e, iN_ap, iN_up, i_ix, i_inb, i_lt, i_lt0, i_0lt, i_eq, i_ne0, i_00, i_11, i_01, i_10, i_b, i_rem2, n_rem, i_add, i_mul, i_sub, i_div, i_max, i_min, rdk_0, rdk_3, kp_none, kp_int, kp_ref, kp_long, kp_double, aK_v, aK_0, aK_ite, if_true, if_false, and_self, and_true, true_and, or_false, false_or, not_true_eq_false, not_false_eq_true, ite_self, ↓reduceIte, eq_self, Bool.false_eq_true, hA.1.1, hA.1.2, hA.2.1.1, hA.2.1.2, hA.2.2.1.1, hA.2.2.1.2, hA.2.2.2.1.1, hA.2.2.2.1.2, hA.2.2.2.2.1.1, hA.2.2.2.2.1.2, hA.2.2.2.2.2.1, hA.2.2.2.2.2.2, lz_room hA hb (show e < 2147483648 by omega) hm h0 h1, hr]
  | k + 1, e, he, hno => by
    have hn := hno e (Nat.le_refl _) (by omega)
    have ih := lz_roomto (n := n) (ms := ms) (A := A) (a11 := a11) hA hb hm h0 h1 hd hr k (e + 1) (by omega) (fun x hx => hno x (by omega))
    rw [r_L_day_329]
    simp (disch := omega) only [r_L_day_331, r_L_day_333, r_L_day_334, r_L_day_335, r_L_day_337, r_L_day_340, r_L_day_343, r_L_day_346, up2_o, up2_e, iN_ap, iN_up, i_ix, i_inb, i_lt, i_lt0, i_0lt, i_eq, i_ne0, i_00, i_11, i_01, i_10, i_b, i_rem2, n_rem, i_add, i_mul, i_sub, i_div, i_max, i_min, rdk_0, rdk_3, kp_none, kp_int, kp_ref, kp_long, kp_double, aK_v, aK_0, aK_ite, if_true, if_false, and_self, and_true, true_and, or_false, false_or, not_true_eq_false, not_false_eq_true, ite_self, ↓reduceIte, eq_self, Bool.false_eq_true, hA.1.1, hA.1.2, hA.2.1.1, hA.2.1.2, hA.2.2.1.1, hA.2.2.1.2, hA.2.2.2.1.1, hA.2.2.2.1.2, hA.2.2.2.2.1.1, hA.2.2.2.2.1.2, hA.2.2.2.2.2.1, hA.2.2.2.2.2.2, lz_room hA hb (show e < 2147483648 by omega) hm h0 h1, hn, Bool.false_eq_true, ih]
end Lg
