/-! the law's day: the modules of the day -/
section Le
variable {Z : aZ} {L : Nat → Nat → Int64} {u : Nat × Nat} {mo mi sh cc : Nat}
theorem lz_next1 {N : Nat → Nat → Nat} {R : aY} {B : Nat → Nat} {o af n ms : Nat} {A : Int32} {a9 a10 a11 : Option Value} (hA : LA Z mo mi sh cc) (hB : (∀ m, m < 36 → B m ≤ o) ∧ o ≤ 1000) (rs : List Nat) (h : LM N mo mi sh cc R (stg R) B o) (hw : WFz R) (h3 : LS3 R) (hx : ∀ x ∈ rs, x < 36 ∧ R 5 (x / 6) ≤ x % 6 ∧ x % 6 < R 4 (x / 6) ∧ R 8 x = R 0 0) (hp : rs.Pairwise (fun a b => B a < B b)) (hc : ∀ x, x < 36 → ((stg R x = 1 ∧ R 8 x = R 0 0 ∧ af ≤ B x) ↔ x ∈ rs)) (haf : af ≤ 2000) (hAf : A = nI (af + 4294967295)) :
    ex 104 170 [some (.ref mo), some (.ref mi), some (.ref sh), some (.ref 149), some (.ref 150), some (.ref cc), some (.int (nI n)), some (.int (nI ms)), some (.int A), a9, a10, a11] [] (Z, iN N, L, u) =
    ex 104 24 [some (.ref mo), some (.ref mi), some (.ref sh), some (.ref 149), some (.ref 150), some (.ref cc), some (.int (nI n)), some (.int (nI ms)), some (.int A), some (.int (nI (hdI rs))), a10, a11] [] (Z, iN N, L, u) := by
  have f := lz_fst1 (N := N) (L := L) (u := u) hA hB rs h hw h3 hx hp hc haf hAf
  simp (disch := omega) only [r_L_day_170, r_L_day_171, r_L_day_173, r_L_day_174, r_L_day_175, r_L_day_177, r_L_day_178, r_L_day_180, r_L_day_183, r_L_day_185, up2_o, up2_e, iN_ap, iN_up, i_ix, i_inb, i_lt, i_lt0, i_0lt, i_eq, i_ne0, i_00, i_11, i_01, i_10, i_b, i_rem2, n_rem, i_add, i_mul, i_sub, i_div, i_max, i_min, rdk_0, rdk_3, kp_none, kp_int, kp_ref, kp_long, kp_double, aK_v, aK_0, aK_ite, if_true, if_false, and_self, and_true, true_and, or_false, false_or, not_true_eq_false, not_false_eq_true, ite_self, ↓reduceIte, eq_self, Bool.false_eq_true, hA.1.1, hA.1.2, hA.2.1.1, hA.2.1.2, hA.2.2.1.1, hA.2.2.1.2, hA.2.2.2.1.1, hA.2.2.2.1.2, hA.2.2.2.2.1.1, hA.2.2.2.2.1.2, hA.2.2.2.2.2.1, hA.2.2.2.2.2.2, f]
theorem lz_day1 {B : Nat → Nat} {o : Nat} (hA : LA Z mo mi sh cc) (hD : LD mo mi sh cc) (hB : (∀ m, m < 36 → B m ≤ o) ∧ o ≤ 1000) : ∀ (rs : List Nat) (N : Nat → Nat → Nat) (R : aY) (af n ms : Nat) (A : Int32) (a10 a11 : Option Value), LM N mo mi sh cc R (stg R) B o → WFz R → LS3 R → rs.Nodup → (∀ x ∈ rs, x < 36 ∧ R 5 (x / 6) ≤ x % 6 ∧ x % 6 < R 4 (x / 6) ∧ R 8 x = R 0 0) → rs.Pairwise (fun a b => B a < B b) → (∀ x, x < 36 → ((stg R x = 1 ∧ R 8 x = R 0 0 ∧ af ≤ B x) ↔ x ∈ rs)) → ms ≤ 1 →
    ∃ N' A' b10 b11, ex 104 24 [some (.ref mo), some (.ref mi), some (.ref sh), some (.ref 149), some (.ref 150), some (.ref cc), some (.int (nI n)), some (.int (nI ms)), some (.int A), some (.int (nI (hdI rs))), a10, a11] [] (Z, iN N, L, u) =
      ex 104 188 [some (.ref mo), some (.ref mi), some (.ref sh), some (.ref 149), some (.ref 150), some (.ref cc), some (.int (nI (n + aC rs R))), some (.int (nI (if aLf rs R = true then 1 else ms))), some (.int A'), some (.int (nI 4294967295)), b10, b11] [] (Z, iN N', L, u) ∧ LM N' mo mi sh cc (aDo rs R) (stg (aDo rs R)) B o ∧ ∀ a, a ≠ mo → a ≠ mi → a ≠ sh → N' a = N a
  | [], N, R, af, n, ms, A, a10, a11, h, _, _, _, _, _, _, _ => by
    refine ⟨N, A, a10, a11, ?_, h, fun _ _ _ _ => rfl⟩
    have e1 : (if aLf ([] : List Nat) R = true then 1 else ms) = ms := by simp [aLf]
    have e2 : aC ([] : List Nat) R = 0 := rfl
    rw [e1, e2, Nat.add_zero]
    simp (disch := omega) only [r_L_day_24, r_L_day_26, up2_o, up2_e, iN_ap, iN_up, i_ix, i_inb, i_lt, i_lt0, i_0lt, i_eq, i_ne0, i_00, i_11, i_01, i_10, i_b, i_rem2, n_rem, i_add, i_mul, i_sub, i_div, i_max, i_min, rdk_0, rdk_3, kp_none, kp_int, kp_ref, kp_long, kp_double, aK_v, aK_0, aK_ite, if_true, if_false, and_self, and_true, true_and, or_false, false_or, not_true_eq_false, not_false_eq_true, ite_self, ↓reduceIte, eq_self, Bool.false_eq_true, hdI, zM1]
  | p :: rs, N, R, af, n, ms, A, a10, a11, h, hw, h3, hnd, hx, hp, hc, hms => by
    obtain ⟨n1, n2⟩ := List.nodup_cons.mp hnd
    obtain ⟨p1, p2⟩ := List.pairwise_cons.mp hp
    obtain ⟨hp36, hp5, hp4, hp8⟩ := hx p List.mem_cons_self
    have hxl : ∀ x ∈ rs, x < 36 ∧ R 5 (x / 6) ≤ x % 6 ∧ x % 6 < R 4 (x / 6) ∧ R 8 x = R 0 0 := fun x hxx => hx x (List.mem_cons_of_mem _ hxx)
    have hr3 := (hw.2.1 (p / 6) (by omega)).2.1
    obtain ⟨hp18, hp6, hm, hpm⟩ := LS_in h3 hw.2.1 hp36 (by omega)
    have hb : LB N mo cc := LM_LB h hw h3 (fun m _ => by have := stg_le (R := R) (m := m); omega) hB
    obtain ⟨m, em⟩ : ∃ m, m = lp p := ⟨_, rfl⟩
    rw [← em] at hm hpm
    have hm4 : m / 4 = p / 6 ∧ m % 4 = p % 6 := by
      have := lp_lt hp18 hp6
      rw [← em] at this
      exact this.2
    obtain ⟨b1, b2, b3, b4⟩ := hb.2.2.1 m hm
    obtain ⟨f0, f1, f2, f3, -⟩ := h.2.2.2.1 m hm
    rw [hpm] at f0 f1 f2 f3
    have hday : N cc 1 = R 0 0 := h.1.2.1
    have hcw : N cc 3 = R 0 2 := h.1.2.2.2.1
    have ht := hw.2.2.2.2.2
    have hmod : R 0 0 % R 0 2 < R 0 2 := Nat.mod_lt _ hw.1.1.2.1
    have hwind : N 150 (N cc 1 % N cc 3) = aWind R (R 0 0) := by
      unfold aWind
      rw [hday, hcw]
      exact h.2.1 _ hmod
    have hw9 : aWind R (R 0 0) ≤ 9 := hw.1.2.1 _ (by have := hw.1.1.2.2; omega)
    have hlw := lz_wind (N := N) (L := L) (u := u) (d := N cc 1) hA hb (by omega)
    rw [hwind] at hlw
    have hBp : af ≤ B p := ((hc p hp36).mpr List.mem_cons_self).2.2
    have hBo := hB.1 p hp36
    have hBo2 := hB.2
    have has : (m % 4 = 0 ∨ N mo (5 * (m - 1) + 2) = 2) ↔ R 5 (p / 6) = p % 6 := by
      by_cases z : m % 4 = 0
      · exact ⟨fun _ => by omega, fun _ => Or.inl z⟩
      · rw [(h.2.2.2.1 (m - 1) (by omega)).2.2.1, show pl (m - 1) = p - 1 by rw [← hpm]; unfold pl; omega]
        unfold stg
        rw [show (p - 1) / 6 = p / 6 by omega]
        by_cases w : (p - 1) % 6 < R 5 (p / 6)
        · rw [if_pos w]
          exact ⟨fun _ => by omega, fun _ => Or.inr rfl⟩
        · rw [if_neg w]
          refine ⟨fun v => ?_, fun v => by omega⟩
          rcases v with v | v
          · exact absurd v z
          · split at v <;> omega
    have eh : hdI (p :: rs) = m := em.symm
    rw [eh]
    -- what follows, where it is set
    have yes : aCan R p = true → ∀ (A1 : Int32), A1 = nI (B p) → ∃ N' A' b10 b11, ex 104 85 [some (.ref mo), some (.ref mi), some (.ref sh), some (.ref 149), some (.ref 150), some (.ref cc), some (.int (nI n)), some (.int (nI ms)), some (.int A1), some (.int (nI m)), a10, a11] [] (Z, iN N, L, u) =
        ex 104 188 [some (.ref mo), some (.ref mi), some (.ref sh), some (.ref 149), some (.ref 150), some (.ref cc), some (.int (nI (n + aC (p :: rs) R))), some (.int (nI (if aLf (p :: rs) R = true then 1 else ms))), some (.int A'), some (.int (nI 4294967295)), b10, b11] [] (Z, iN N', L, u) ∧ LM N' mo mi sh cc (aDo (p :: rs) R) (stg (aDo (p :: rs) R)) B o ∧ ∀ a, a ≠ mo → a ≠ mi → a ≠ sh → N' a = N a := by
      intro q A1 hA1
      obtain ⟨c1, c2, -⟩ := aCan_iff.mp q
      have h7 := (hw.2.2.1 p hp36).2
      have h2 := hw.1.2.2.2.2.2.2.1
      have e2 : N 149 2 = R 2 2 := h.2.2.1 2 (by omega)
      have hmul : N mo (5 * m + 1) * N 149 2 ≤ 9999 * 30 := by rw [f1, e2]; exact Nat.mul_le_mul h7 h2
      have hheld : N mo (5 * m + 1) * N 149 2 / 100 = aHeld R p := by rw [f1, e2]; rfl
      have hle : aHeld R p ≤ N mo (5 * m + 1) := by
        rw [f1]
        have : R 7 p * R 2 2 ≤ R 7 p * 30 := Nat.mul_le_mul_left _ h2
        unfold aHeld
        omega
      have hds := lz_dset (L := L) (u := u) (n := n) (ms := ms) (A := A1) (a10 := a10) (a11 := a11) hA hD hm (by omega) hheld hle (aHeld_le h7 h2)
      have hset := LM_set h hD hm (by rw [hpm]; exact c2) (by rw [hpm]; exact hp4)
      rw [hpm] at hset
      have hwz := WFz_set hw hp36 c2 hp4
      have h3s : LS3 (aSet R p) := LS3_o h3 (aSet_o (by omega) (by omega) (by omega)) (fun i => aSet_o (by omega) (by omega) (by omega))
      have e00 : aSet R p 0 0 = R 0 0 := aSet_o (by omega) (by omega) (by omega)
      have hx2 : ∀ x ∈ rs, x < 36 ∧ aSet R p 5 (x / 6) ≤ x % 6 ∧ x % 6 < aSet R p 4 (x / 6) ∧ aSet R p 8 x = aSet R p 0 0 := fun x hxx => by
        obtain ⟨u1, u2, u3, u4⟩ := hxl x hxx
        rw [aSet_5, aSet_o (a := 4) (by omega) (by omega) (by omega), aSet_o (a := 8) (by omega) (by omega) (by omega), e00]
        refine ⟨u1, ?_, u3, u4⟩
        split
        · rename_i w
          have : x ≠ p := fun z => n1 (z ▸ hxx)
          rw [w] at u2 ⊢
          omega
        · exact u2
      have hc2 : ∀ x, x < 36 → ((stg (aSet R p) x = 1 ∧ aSet R p 8 x = aSet R p 0 0 ∧ B p + 1 ≤ B x) ↔ x ∈ rs) := fun x hx36 => by
        rw [aSet_o (a := 8) (by omega) (by omega) (by omega), e00]
        refine ⟨fun ⟨a1, a2, a3⟩ => ?_, fun hxr => ?_⟩
        · have hne : x ≠ p := fun z => by rw [z] at a3; omega
          rw [stg_set c2 hne] at a1
          rcases List.mem_cons.mp ((hc x hx36).mp ⟨a1, a2, by omega⟩) with z | z
          · exact absurd z hne
          · exact z
        · have hne : x ≠ p := fun z => n1 (z ▸ hxr)
          obtain ⟨a1, a2, a3⟩ := (hc x hx36).mpr (List.mem_cons_of_mem _ hxr)
          have := p1 x hxr
          rw [stg_set c2 hne]
          exact ⟨a1, a2, by omega⟩
      have hn := lz_next1 (L := L) (u := u) (n := n + 1) (ms := ms) (a9 := some (.int (nI m))) (a10 := some (.int (nI (aHeld R p)))) (a11 := some (.int (nI 4))) hA hB rs hset hwz h3s hx2 p2 hc2 (by omega) (A := A1) (by rw [nI_wr]; exact hA1)
      obtain ⟨N', A', b10, b11, ih, ih2, ih3⟩ := lz_day1 hA hD hB rs _ _ (B p + 1) (n + 1) ms A1 (some (.int (nI (aHeld R p)))) (some (.int (nI 4))) hset hwz h3s n2 hx2 p2 hc2 hms
      have k1 : aLf (p :: rs) R = aLf rs (aSet R p) := by
        show (if aCan R p = true then _ else _) = _
        rw [if_pos q]
      have k2 : aC (p :: rs) R = aC rs (aSet R p) + 1 := by
        show (if aCan R p = true then _ else _) = _
        rw [if_pos q]
      have k3 : aDo (p :: rs) R = aDo rs (aSet R p) := by
        show aDo rs (if aCan R p = true then _ else _) = _
        rw [if_pos q]
      rw [k1, k2, k3, show n + (aC rs (aSet R p) + 1) = n + 1 + aC rs (aSet R p) by omega]
      refine ⟨N', A', b10, b11, ?_, ih2, fun a ha1 ha2 ha3 => (ih3 a ha1 ha2 ha3).trans ?_⟩
      · rw [hds, hn, ih]
      · funext j
        unfold stW
        rw [shW_o _ _ _ (Or.inl ha3), up2_o (fun z => ha2 z.1), up2_o (fun z => ha1 z.1)]
    -- what follows, where it is missed
    have no : ¬ aCan R p = true → ∀ (A1 : Int32), A1 = nI (B p) → ∃ N' A' b10 b11, ex 104 167 [some (.ref mo), some (.ref mi), some (.ref sh), some (.ref 149), some (.ref 150), some (.ref cc), some (.int (nI n)), some (.int (nI ms)), some (.int A1), some (.int (nI m)), a10, a11] [] (Z, iN N, L, u) =
        ex 104 188 [some (.ref mo), some (.ref mi), some (.ref sh), some (.ref 149), some (.ref 150), some (.ref cc), some (.int (nI (n + aC (p :: rs) R))), some (.int (nI (if aLf (p :: rs) R = true then 1 else ms))), some (.int A'), some (.int (nI 4294967295)), b10, b11] [] (Z, iN N', L, u) ∧ LM N' mo mi sh cc (aDo (p :: rs) R) (stg (aDo (p :: rs) R)) B o ∧ ∀ a, a ≠ mo → a ≠ mi → a ≠ sh → N' a = N a := by
      intro q A1 hA1
      have hc2 : ∀ x, x < 36 → ((stg R x = 1 ∧ R 8 x = R 0 0 ∧ B p + 1 ≤ B x) ↔ x ∈ rs) := fun x hx36 => by
        refine ⟨fun ⟨a1, a2, a3⟩ => ?_, fun hxr => ?_⟩
        · have hne : x ≠ p := fun z => by rw [z] at a3; omega
          rcases List.mem_cons.mp ((hc x hx36).mp ⟨a1, a2, by omega⟩) with z | z
          · exact absurd z hne
          · exact z
        · obtain ⟨a1, a2, a3⟩ := (hc x hx36).mpr (List.mem_cons_of_mem _ hxr)
          have := p1 x hxr
          exact ⟨a1, a2, by omega⟩
      have hn := lz_next1 (L := L) (u := u) (n := n) (ms := 1) (a9 := some (.int (nI m))) (a10 := a10) (a11 := a11) hA hB rs h hw h3 hxl p2 hc2 (by omega) (A := A1) (by rw [nI_wr]; exact hA1)
      obtain ⟨N', A', b10, b11, ih, ih2, ih3⟩ := lz_day1 hA hD hB rs N R (B p + 1) n 1 A1 a10 a11 h hw h3 n2 hxl p2 hc2 (by omega)
      have k1 : aLf (p :: rs) R = true := by
        show (if aCan R p = true then _ else (Nat.beq (R 8 p) (R 0 0) || aLf rs R)) = true
        rw [if_neg q, Nat.beq_eq.mpr hp8]
        rfl
      have k2 : aC (p :: rs) R = aC rs R := by
        show (if aCan R p = true then _ else _) = _
        rw [if_neg q]
      have k3 : aDo (p :: rs) R = aDo rs R := by
        show aDo rs (if aCan R p = true then _ else _) = _
        rw [if_neg q]
      rw [k1, k2, k3, if_pos rfl]
      rw [show (if aLf rs R = true then 1 else 1) = 1 by split <;> rfl] at ih
      refine ⟨N', A', b10, b11, ?_, ih2, ih3⟩
      rw [← ih, ← hn]
      simp (disch := omega) only [r_L_day_167, r_L_day_168, up2_o, up2_e, iN_ap, iN_up, i_ix, i_inb, i_lt, i_lt0, i_0lt, i_eq, i_ne0, i_00, i_11, i_01, i_10, i_b, i_rem2, n_rem, i_add, i_mul, i_sub, i_div, i_max, i_min, rdk_0, rdk_3, kp_none, kp_int, kp_ref, kp_long, kp_double, aK_v, aK_0, aK_ite, if_true, if_false, and_self, and_true, true_and, or_false, false_or, not_true_eq_false, not_false_eq_true, ite_self, ↓reduceIte, eq_self, Bool.false_eq_true, kp_int]
    by_cases w : 8 - 2 * N mo (5 * m) < aWind R (R 0 0)
    · obtain ⟨N', A', b10, b11, e1, e2⟩ := no (fun z => by have := (aCan_iff.mp z).2.2; omega) (nI (B p)) rfl
      refine ⟨N', A', b10, b11, ?_, e2⟩
      rw [← e1]
      simp (disch := omega) only [r_L_day_24, r_L_day_26, r_L_day_29, r_L_day_30, r_L_day_31, r_L_day_33, r_L_day_34, r_L_day_35, r_L_day_36, r_L_day_37, r_L_day_39, r_L_day_41, r_L_day_42, r_L_day_43, r_L_day_45, r_L_day_47, r_L_day_50, r_L_day_52, r_L_day_53, r_L_day_54, r_L_day_55, r_L_day_57, r_L_day_58, r_L_day_59, r_L_day_60, r_L_day_61, up2_o, up2_e, iN_ap, iN_up, i_ix, i_inb, i_lt, i_lt0, i_0lt, i_eq, i_ne0, i_00, i_11, i_01, i_10, i_b, i_rem2, n_rem, i_add, i_mul, i_sub, i_div, i_max, i_min, rdk_0, rdk_3, kp_none, kp_int, kp_ref, kp_long, kp_double, aK_v, aK_0, aK_ite, if_true, if_false, and_self, and_true, true_and, or_false, false_or, not_true_eq_false, not_false_eq_true, ite_self, ↓reduceIte, eq_self, Bool.false_eq_true, hA.1.1, hA.1.2, hA.2.1.1, hA.2.1.2, hA.2.2.1.1, hA.2.2.1.2, hA.2.2.2.1.1, hA.2.2.2.1.2, hA.2.2.2.2.1.1, hA.2.2.2.2.1.2, hA.2.2.2.2.2.1, hA.2.2.2.2.2.2, hlw, w, f3]
    · by_cases z : m % 4 = 0
      · obtain ⟨N', A', b10, b11, e1, e2⟩ := yes (aCan_iff.mpr ⟨hp8, has.mp (Or.inl z), by omega⟩) (nI (B p)) rfl
        refine ⟨N', A', b10, b11, ?_, e2⟩
        rw [← e1]
        simp (disch := omega) only [r_L_day_24, r_L_day_26, r_L_day_29, r_L_day_30, r_L_day_31, r_L_day_33, r_L_day_34, r_L_day_35, r_L_day_36, r_L_day_37, r_L_day_39, r_L_day_41, r_L_day_42, r_L_day_43, r_L_day_45, r_L_day_47, r_L_day_50, r_L_day_52, r_L_day_53, r_L_day_54, r_L_day_55, r_L_day_57, r_L_day_58, r_L_day_59, r_L_day_60, r_L_day_61, r_L_day_64, r_L_day_66, r_L_day_67, r_L_day_68, up2_o, up2_e, iN_ap, iN_up, i_ix, i_inb, i_lt, i_lt0, i_0lt, i_eq, i_ne0, i_00, i_11, i_01, i_10, i_b, i_rem2, n_rem, i_add, i_mul, i_sub, i_div, i_max, i_min, rdk_0, rdk_3, kp_none, kp_int, kp_ref, kp_long, kp_double, aK_v, aK_0, aK_ite, if_true, if_false, and_self, and_true, true_and, or_false, false_or, not_true_eq_false, not_false_eq_true, ite_self, ↓reduceIte, eq_self, Bool.false_eq_true, hA.1.1, hA.1.2, hA.2.1.1, hA.2.1.2, hA.2.2.1.1, hA.2.2.1.2, hA.2.2.2.1.1, hA.2.2.2.1.2, hA.2.2.2.2.1.1, hA.2.2.2.2.1.2, hA.2.2.2.2.2.1, hA.2.2.2.2.2.2, hlw, w, f3, z]
      · by_cases v : N mo (5 * (m - 1) + 2) = 2
        · obtain ⟨N', A', b10, b11, e1, e2⟩ := yes (aCan_iff.mpr ⟨hp8, has.mp (Or.inr v), by omega⟩) (nI (B p)) rfl
          refine ⟨N', A', b10, b11, ?_, e2⟩
          rw [← e1]
          simp (disch := omega) only [r_L_day_24, r_L_day_26, r_L_day_29, r_L_day_30, r_L_day_31, r_L_day_33, r_L_day_34, r_L_day_35, r_L_day_36, r_L_day_37, r_L_day_39, r_L_day_41, r_L_day_42, r_L_day_43, r_L_day_45, r_L_day_47, r_L_day_50, r_L_day_52, r_L_day_53, r_L_day_54, r_L_day_55, r_L_day_57, r_L_day_58, r_L_day_59, r_L_day_60, r_L_day_61, r_L_day_64, r_L_day_66, r_L_day_67, r_L_day_68, r_L_day_71, r_L_day_72, r_L_day_73, r_L_day_75, r_L_day_76, r_L_day_77, r_L_day_78, r_L_day_79, r_L_day_80, r_L_day_81, r_L_day_82, up2_o, up2_e, iN_ap, iN_up, i_ix, i_inb, i_lt, i_lt0, i_0lt, i_eq, i_ne0, i_00, i_11, i_01, i_10, i_b, i_rem2, n_rem, i_add, i_mul, i_sub, i_div, i_max, i_min, rdk_0, rdk_3, kp_none, kp_int, kp_ref, kp_long, kp_double, aK_v, aK_0, aK_ite, if_true, if_false, and_self, and_true, true_and, or_false, false_or, not_true_eq_false, not_false_eq_true, ite_self, ↓reduceIte, eq_self, Bool.false_eq_true, hA.1.1, hA.1.2, hA.2.1.1, hA.2.1.2, hA.2.2.1.1, hA.2.2.1.2, hA.2.2.2.1.1, hA.2.2.2.1.2, hA.2.2.2.2.1.1, hA.2.2.2.2.1.2, hA.2.2.2.2.2.1, hA.2.2.2.2.2.2, hlw, w, f3, v]
        · obtain ⟨N', A', b10, b11, e1, e2⟩ := no (fun y => by have := has.mpr (aCan_iff.mp y).2.1; omega) (nI (B p)) rfl
          refine ⟨N', A', b10, b11, ?_, e2⟩
          rw [← e1]
          have v2 := (hb.2.2.1 (m - 1) (by omega)).2.1
          simp (disch := omega) only [r_L_day_24, r_L_day_26, r_L_day_29, r_L_day_30, r_L_day_31, r_L_day_33, r_L_day_34, r_L_day_35, r_L_day_36, r_L_day_37, r_L_day_39, r_L_day_41, r_L_day_42, r_L_day_43, r_L_day_45, r_L_day_47, r_L_day_50, r_L_day_52, r_L_day_53, r_L_day_54, r_L_day_55, r_L_day_57, r_L_day_58, r_L_day_59, r_L_day_60, r_L_day_61, r_L_day_64, r_L_day_66, r_L_day_67, r_L_day_68, r_L_day_71, r_L_day_72, r_L_day_73, r_L_day_75, r_L_day_76, r_L_day_77, r_L_day_78, r_L_day_79, r_L_day_80, r_L_day_81, r_L_day_82, up2_o, up2_e, iN_ap, iN_up, i_ix, i_inb, i_lt, i_lt0, i_0lt, i_eq, i_ne0, i_00, i_11, i_01, i_10, i_b, i_rem2, n_rem, i_add, i_mul, i_sub, i_div, i_max, i_min, rdk_0, rdk_3, kp_none, kp_int, kp_ref, kp_long, kp_double, aK_v, aK_0, aK_ite, if_true, if_false, and_self, and_true, true_and, or_false, false_or, not_true_eq_false, not_false_eq_true, ite_self, ↓reduceIte, eq_self, Bool.false_eq_true, hA.1.1, hA.1.2, hA.2.1.1, hA.2.1.2, hA.2.2.1.1, hA.2.2.1.2, hA.2.2.2.1.1, hA.2.2.2.1.2, hA.2.2.2.2.1.1, hA.2.2.2.2.1.2, hA.2.2.2.2.2.1, hA.2.2.2.2.2.2, hlw, w, f3, v]
end Le
