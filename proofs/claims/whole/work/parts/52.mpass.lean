/-! the reference: a day passes as the function says -/
def aC : List Nat → aY → Nat
  | [], _ => 0
  | p :: l, R => if aCan R p = true then aC l (aSet R p) + 1 else aC l R
theorem aC_sum : ∀ (l : List Nat) (R : aY), (∀ x ∈ l, x < 36) → aC l R + sumN (R 5) 0 6 = sumN (aDo l R 5) 0 6
  | [], R, _ => Nat.zero_add _
  | p :: l, R, hx => by
    have hp := hx p List.mem_cons_self
    have hl : ∀ x ∈ l, x < 36 := fun x h => hx x (List.mem_cons_of_mem _ h)
    unfold aC aDo
    split
    · rw [← aC_sum l _ hl]
      have := sumN_up (f := R 5) (g := aSet R p 5) (a := 0) (v := 1) (n := 6) (p / 6) (by omega) (by rw [aSet_5, if_pos (by omega)]) (fun i _ hi => by rw [aSet_5, if_neg (by omega)])
      omega
    · exact aC_sum l R hl
theorem aC_le : ∀ (l : List Nat) (R : aY), aC l R ≤ l.length
  | [], _ => Nat.le_refl _
  | p :: l, R => by
    unfold aC
    split
    · have := aC_le l (aSet R p)
      rw [List.length_cons]
      omega
    · have := aC_le l R
      rw [List.length_cons]
      omega
theorem WFz_set {R : aY} {p : Nat} (h : WFz R) (hp : p < 36) (h5 : R 5 (p / 6) = p % 6) (h4 : p % 6 < R 4 (p / 6)) : WFz (aSet R p) := by
  obtain ⟨⟨w1, w2, w3⟩, wh, wp, ws, hz, ht⟩ := h
  have o : ∀ a j, a ≠ 12 → a ≠ 5 → a ≠ 9 → aSet R p a j = R a j := fun a j h1 h2 h3 => aSet_o h1 h2 h3
  have hr := wh (p / 6) (by omega)
  refine ⟨⟨?_, fun i hi => ?_, ?_⟩, fun i hi => ?_, fun i hi => ?_, fun i hi t ht => ?_, fun m hm => ?_, ?_⟩
  · rw [o 0 _ (by omega) (by omega) (by omega), o 0 _ (by omega) (by omega) (by omega)]; exact w1
  · rw [o 1 _ (by omega) (by omega) (by omega)]; exact w2 i hi
  · rw [o 2 _ (by omega) (by omega) (by omega), o 2 _ (by omega) (by omega) (by omega), o 2 _ (by omega) (by omega) (by omega), o 2 _ (by omega) (by omega) (by omega), o 2 _ (by omega) (by omega) (by omega)]; exact w3
  · rw [o 3 _ (by omega) (by omega) (by omega), o 4 _ (by omega) (by omega) (by omega), aSet_5, o 0 _ (by omega) (by omega) (by omega)]
    have hi2 := wh i hi
    refine ⟨?_, hi2.2⟩
    split
    · rename_i e
      rw [e]
      omega
    · exact hi2.1
  · rw [o 6 _ (by omega) (by omega) (by omega), o 7 _ (by omega) (by omega) (by omega)]; exact wp i hi
  · rw [aSet_12 ht, o 13 _ (by omega) (by omega) (by omega), o 3 _ (by omega) (by omega) (by omega)]
    have hi2 := ws i hi t ht
    by_cases e : i = p
    · rw [if_pos e]
      have := aHeld_le (wp p hp).2 w3.2.2.2.2.1
      refine ⟨by split <;> omega, hi2.2.1, fun h3 => ?_⟩
      rw [e] at h3
      omega
    · rw [if_neg e]
      exact hi2
  · have := hz m hm
    unfold zOn at this ⊢
    rw [o 4 _ (by omega) (by omega) (by omega), o 8 _ (by omega) (by omega) (by omega)]
    exact this
  · rw [o 0 _ (by omega) (by omega) (by omega)]; exact ht
theorem MZ_day {N : Nat → Nat → Nat} {R : aY} {B : Nat → Nat} {o d : Nat} (h : MZ (N 145) R B o) : MZ (up2 N 145 1 d 145) (up2 R 0 0 d) B o := by
  obtain ⟨⟨a1, a2, a3, a4⟩, b, c, d1, e, f, g⟩ := h
  have hz : ∀ i, i ≠ 1 → up2 N 145 1 d 145 i = N 145 i := fun i hi => up2_o (by omega)
  have hR : ∀ a j, a ≠ 0 ∨ j ≠ 0 → up2 R 0 0 d a j = R a j := fun a j h => up2_o (by omega)
  have ho : ∀ m k, zo (up2 N 145 1 d 145) m k = zo (N 145) m k := fun m k => by
    unfold zo
    exact hz _ (by omega)
  refine ⟨⟨?_, up2_e ⟨rfl, rfl⟩, ?_, ?_⟩, fun i hi => ?_, fun i hi => ?_, fun i hi => ?_, fun i hi => ?_, fun x hx => ?_, fun x hx t ht => ?_⟩
  · rw [hz _ (by omega), hR _ _ (by omega)]; exact a1
  · rw [hz _ (by omega)]; exact a3
  · rw [hz _ (by omega), hR _ _ (by omega)]; exact a4
  · rw [hz _ (by omega), hR _ _ (by omega)]; exact b i hi
  · rw [hz _ (by omega), hR _ _ (by omega)]; exact c i hi
  · rw [hz _ (by omega), hR _ _ (by omega)]; exact d1 i hi
  · rw [hz _ (by omega), hR _ _ (by omega)]; exact e i hi
  · unfold zOn stg
    rw [ho, ho, ho, ho, ho, ho, ho, ho, hR 6 _ (by omega), hR 7 _ (by omega), hR 5 _ (by omega), hR 4 _ (by omega), hR 8 _ (by omega), hR 9 _ (by omega), hR 11 _ (by omega), hR 10 _ (by omega)]
    exact f x hx
  · rw [ho, ho, hR 12 _ (by omega), hR 13 _ (by omega)]
    exact g x hx t ht
section Mp
variable {Z : aZ} {N : Nat → Nat → Nat} {L : Nat → Nat → Int64} {c : Nat × Nat}
theorem s_mPd_loop {n : Nat} {B : Nat → Nat} {o : Nat} (hM : MAt Z) (hn : n ≤ 36) (hB : (∀ m, m < 36 → B m ≤ o) ∧ o ≤ 1000) : ∀ (rs : List Nat) (i s mi : Nat) (N : Nat → Nat → Nat) (R : aY) (a5 a6 a7 : Option Value), i + rs.length = n → s ≤ i → mi ≤ 1 → (∀ j (h : j < rs.length), N 151 (i + j) = rs[j]) → rs.Nodup → (∀ x ∈ rs, x < 36 ∧ R 5 (x / 6) ≤ x % 6 ∧ x % 6 < R 4 (x / 6)) → WFz R → MZ (N 145) R B o →
    ∃ N' b5 b6 b7, ex 136 12 [some (.ref 144), some (.int (nI n)), some (.int (nI s)), some (.int (nI mi)), some (.int (nI i)), a5, a6, a7] [] (Z, iN N, L, c) = ex 136 136 [some (.ref 144), some (.int (nI n)), some (.int (nI (s + aC rs R))), some (.int (nI (if aLf rs R = true then 1 else mi))), some (.int (nI n)), b5, b6, b7] [] (Z, iN N', L, c) ∧ MZ (N' 145) (aDo rs R) B o ∧ ∀ a, a ≠ 145 → N' a = N a
  | [], i, s, mi, N, R, a5, a6, a7, hi, _, _, _, _, _, _, h => by
    have e : i = n := by simpa using hi
    subst e
    refine ⟨N, a5, a6, a7, ?_, h, fun _ _ => rfl⟩
    rw [r_X8_passDay_12]
    have e1 : (if aLf ([] : List Nat) R = true then 1 else mi) = mi := by simp [aLf]
    rw [e1]
    simp (disch := omega) only [r_X8_passDay_14, r_X8_passDay_15, r_X8_passDay_18, r_X8_passDay_19, r_X8_passDay_22, r_X8_passDay_24, r_X8_passDay_25, r_X8_passDay_27, r_X8_passDay_28, r_X8_passDay_30, r_X8_passDay_31, r_X8_passDay_34, r_X8_passDay_35, r_X8_passDay_38, r_X8_passDay_39, r_X8_passDay_40, r_X8_passDay_43, r_X8_passDay_44, r_X8_passDay_47, r_X8_passDay_48, r_X8_passDay_50, r_X8_passDay_52, r_X8_passDay_55, r_X8_passDay_56, r_X8_passDay_58, r_X8_passDay_59, r_X8_passDay_62, r_X8_passDay_63, r_X8_passDay_64, r_X8_passDay_67, r_X8_passDay_70, r_X8_passDay_71, r_X8_passDay_73, r_X8_passDay_76, r_X8_passDay_79, r_X8_passDay_80, r_X8_passDay_83, r_X8_passDay_84, r_X8_passDay_86, r_X8_passDay_88, r_X8_passDay_91, r_X8_passDay_92, r_X8_passDay_94, r_X8_passDay_97, r_X8_passDay_98, r_X8_passDay_100, r_X8_passDay_103, r_X8_passDay_104, r_X8_passDay_107, r_X8_passDay_108, r_X8_passDay_109, r_X8_passDay_110, r_X8_passDay_111, r_X8_passDay_114, r_X8_passDay_116, r_X8_passDay_119, r_X8_passDay_121, r_X8_passDay_124, r_X8_passDay_125, r_X8_passDay_128, r_X8_passDay_129, r_X8_passDay_130, r_X8_passDay_133, up2_o, up2_e, iN_ap, iN_up, i_ix, i_inb, i_lt, i_lt0, i_0lt, i_eq, i_ne0, i_00, i_11, i_01, i_10, i_b, i_rem2, n_rem, i_add, i_mul, i_sub, i_div, i_max, i_min, rdk_0, rdk_3, kp_none, kp_int, kp_ref, kp_long, kp_double, aK_v, aK_0, aK_ite, if_true, if_false, and_self, and_true, true_and, or_false, false_or, not_true_eq_false, not_false_eq_true, ite_self, ↓reduceIte, Nat.lt_irrefl, aC, Nat.add_zero]
  | p :: rs, i, s, mi, N, R, a5, a6, a7, hi, hsi, hmi, hq, hnd, hx, hw, h => by
    obtain ⟨e0, hq2⟩ := tl_at hq
    have e : i < n := by simp at hi; omega
    obtain ⟨n1, n2⟩ := List.nodup_cons.mp hnd
    obtain ⟨hp, hp5, hp4⟩ := hx p List.mem_cons_self
    have hxl : ∀ x ∈ rs, x < 36 ∧ R 5 (x / 6) ≤ x % 6 ∧ x % 6 < R 4 (x / 6) := fun x hxx => hx x (List.mem_cons_of_mem _ hxx)
    have hz : Zb (N 145) := MZs_Zb2 h hw (fun m _ => by have := stg_le (R := R) (m := m); omega) hB
    obtain ⟨f0, f1, f2, f3, -⟩ := h.2.2.2.2.2.1 p hp
    have f3 : zo (N 145) p 3 = R 8 p := by
      rw [f3]
      unfold zOn
      rw [if_neg (by omega)]
    have hday : N 145 1 = R 0 0 := h.1.2.1
    have hz3 := (hz.2.2.2.2.1 p hp).2.2.2.1
    have hz1 := hz.1.2.1
    have hmod : R 0 0 % R 0 2 < 60 := Nat.lt_of_lt_of_le (Nat.mod_lt _ hw.1.1.2.1) hw.1.1.2.2
    have hlift : zLift (N 145) p (N 145 1) = aLift R p (R 0 0) := by
      unfold zLift aLift zWind aWind
      rw [hday, f0, h.1.2.2.2, h.2.1 _ hmod]
    have has : zAs (N 145) p = true ↔ R 5 (p / 6) = p % 6 := by
      rw [zAs_iff]
      by_cases z : p % 6 = 0
      · exact ⟨fun _ => by omega, fun _ => Or.inl z⟩
      · rw [(h.2.2.2.2.2.1 (p - 1) (by omega)).2.2.1]
        unfold stg
        rw [show (p - 1) / 6 = p / 6 by omega]
        by_cases w : (p - 1) % 6 < R 5 (p / 6)
        · rw [if_pos w]
          exact ⟨fun _ => by omega, fun _ => Or.inr rfl⟩
        · rw [if_neg w]
          refine ⟨fun v => ?_, fun v => by omega⟩
          rcases v with v | v
          · exact absurd v z
          · split at v <;> omega
    have hof := s_mOf (N := N) (L := L) (c := c) hM (show 91 + 16 * p + 3 < 667 by omega)
    have hcl := s_mCanLift (L := L) (c := c) hM hp (show N 145 1 < 2147483648 by omega) hz
    have hia := s_mIsAheadSet (L := L) (c := c) hM hp hz
    by_cases q : aCan R p = true
    · obtain ⟨c1, c2, -⟩ := aCan_iff.mp q
      have c3 : aLift R p (R 0 0) = true := by
        unfold aCan at q
        exact (Bool.and_eq_true_iff.mp (Bool.and_eq_true_iff.mp q).2).2
      have hms := s_mSet (L := L) (c := c) hM hp hz (by rw [h.2.2.1 2 (by omega)]; exact hw.1.2.2.2.2.2.2.1)
      have hr : ∀ a, a ≠ 145 → mSet N p a = N a := fun a ha => by
        funext j
        exact mSet_o hp (Or.inl ha)
      obtain ⟨N', b5, b6, b7, ih, h2, h3⟩ := s_mPd_loop hM hn hB rs (i + 1) (s + 1) mi (mSet N p) (aSet R p) (some (.int (nI p))) (some (.int (nI 1))) (some (.int (nI 1))) (by simp at hi; omega) (by omega) hmi (fun j hj => by rw [hr 151 (by omega)]; exact hq2 j hj) n2 (fun x hxx => by
        obtain ⟨u1, u2, u3⟩ := hxl x hxx
        rw [aSet_5, aSet_o (a := 4) (by omega) (by omega) (by omega)]
        refine ⟨u1, ?_, u3⟩
        split
        · rename_i w
          have : x ≠ p := fun z => n1 (z ▸ hxx)
          rw [w] at u2 ⊢
          omega
        · exact u2) (WFz_set hw hp c2 hp4) (MZ_set h hp c2 hp4)
      refine ⟨N', b5, b6, b7, ?_, ?_, fun a ha => (h3 a ha).trans (hr a ha)⟩
      · have k1 : aLf (p :: rs) R = aLf rs (aSet R p) := by
          show (if aCan R p = true then _ else _) = _
          rw [if_pos q]
        have k2 : aC (p :: rs) R = aC rs (aSet R p) + 1 := by
          show (if aCan R p = true then _ else _) = _
          rw [if_pos q]
        rw [k1, k2, show s + (aC rs (aSet R p) + 1) = s + 1 + aC rs (aSet R p) by omega, ← ih, r_X8_passDay_12]
        have z1 : (nI (zo (N 145) p 3) = nI (N 145 1)) = True := eq_true (by rw [f3, hday, c1])
        have z2 : zLift (N 145) p (N 145 1) = true := by rw [hlift]; exact c3
        have z3 : zAs (N 145) p = true := has.mpr c2
        rcases (show mi = 0 ∨ mi = 1 by omega) with m0 | m0
        · subst m0
          simp (disch := omega) only [r_X8_passDay_14, r_X8_passDay_15, r_X8_passDay_18, r_X8_passDay_19, r_X8_passDay_22, r_X8_passDay_24, r_X8_passDay_25, r_X8_passDay_27, r_X8_passDay_28, r_X8_passDay_30, r_X8_passDay_31, r_X8_passDay_34, r_X8_passDay_35, r_X8_passDay_38, r_X8_passDay_39, r_X8_passDay_40, r_X8_passDay_43, r_X8_passDay_44, r_X8_passDay_47, r_X8_passDay_48, r_X8_passDay_50, r_X8_passDay_52, r_X8_passDay_55, r_X8_passDay_56, r_X8_passDay_58, r_X8_passDay_59, r_X8_passDay_62, r_X8_passDay_63, r_X8_passDay_64, r_X8_passDay_67, r_X8_passDay_70, r_X8_passDay_71, r_X8_passDay_73, r_X8_passDay_76, r_X8_passDay_79, r_X8_passDay_80, r_X8_passDay_83, r_X8_passDay_84, r_X8_passDay_86, r_X8_passDay_88, r_X8_passDay_91, r_X8_passDay_92, r_X8_passDay_94, r_X8_passDay_97, r_X8_passDay_98, r_X8_passDay_100, r_X8_passDay_103, r_X8_passDay_104, r_X8_passDay_107, r_X8_passDay_108, r_X8_passDay_109, r_X8_passDay_110, r_X8_passDay_111, r_X8_passDay_114, r_X8_passDay_116, r_X8_passDay_119, r_X8_passDay_121, r_X8_passDay_124, r_X8_passDay_125, r_X8_passDay_128, r_X8_passDay_129, r_X8_passDay_130, r_X8_passDay_133, hM.1.1, @id (Z.2.2.1 144 0 = .ref 145) hM.1.2.1, @id (Z.2.2.1 144 1 = .ref 146) hM.1.2.2.1, @id (Z.2.2.1 144 2 = .ref 147) hM.1.2.2.2.1, @id (Z.2.2.1 144 3 = .ref 148) hM.1.2.2.2.2.1, @id (Z.2.2.1 144 4 = .ref 149) hM.1.2.2.2.2.2.1, @id (Z.2.2.1 144 5 = .ref 150) hM.1.2.2.2.2.2.2.1, @id (Z.2.2.1 144 6 = .ref 151) hM.1.2.2.2.2.2.2.2, @id (Z.1 145 = 0) hM.2.1.1, @id (Z.1 146 = 0) hM.2.1.2.1, @id (Z.1 147 = 0) hM.2.1.2.2.1, @id (Z.1 148 = 0) hM.2.1.2.2.2.1, @id (Z.1 149 = 0) hM.2.1.2.2.2.2.1, @id (Z.1 150 = 0) hM.2.1.2.2.2.2.2.1, @id (Z.1 151 = 0) hM.2.1.2.2.2.2.2.2, @id (Z.2.1 145 = 667) hM.2.2.1, @id (Z.2.1 146 = 667) hM.2.2.2.1, @id (Z.2.1 147 = 4002) hM.2.2.2.2.1, @id (Z.2.1 148 = 60) hM.2.2.2.2.2.1, @id (Z.2.1 149 = 32) hM.2.2.2.2.2.2.1, @id (Z.2.1 150 = 32) hM.2.2.2.2.2.2.2.1, @id (Z.2.1 151 = 36) hM.2.2.2.2.2.2.2.2, up2_o, up2_e, iN_ap, iN_up, i_ix, i_inb, i_lt, i_lt0, i_0lt, i_eq, i_ne0, i_00, i_11, i_01, i_10, i_b, i_rem2, n_rem, i_add, i_mul, i_sub, i_div, i_max, i_min, rdk_0, rdk_3, kp_none, kp_int, kp_ref, kp_long, kp_double, aK_v, aK_0, aK_ite, if_true, if_false, and_self, and_true, true_and, or_false, false_or, not_true_eq_false, not_false_eq_true, ite_self, ↓reduceIte, e, e0, hof, hcl, hia, hms, z1, z2, z3]
        · subst m0
          simp (disch := omega) only [r_X8_passDay_14, r_X8_passDay_15, r_X8_passDay_18, r_X8_passDay_19, r_X8_passDay_22, r_X8_passDay_24, r_X8_passDay_25, r_X8_passDay_27, r_X8_passDay_28, r_X8_passDay_30, r_X8_passDay_31, r_X8_passDay_34, r_X8_passDay_35, r_X8_passDay_38, r_X8_passDay_39, r_X8_passDay_40, r_X8_passDay_43, r_X8_passDay_44, r_X8_passDay_47, r_X8_passDay_48, r_X8_passDay_50, r_X8_passDay_52, r_X8_passDay_55, r_X8_passDay_56, r_X8_passDay_58, r_X8_passDay_59, r_X8_passDay_62, r_X8_passDay_63, r_X8_passDay_64, r_X8_passDay_67, r_X8_passDay_70, r_X8_passDay_71, r_X8_passDay_73, r_X8_passDay_76, r_X8_passDay_79, r_X8_passDay_80, r_X8_passDay_83, r_X8_passDay_84, r_X8_passDay_86, r_X8_passDay_88, r_X8_passDay_91, r_X8_passDay_92, r_X8_passDay_94, r_X8_passDay_97, r_X8_passDay_98, r_X8_passDay_100, r_X8_passDay_103, r_X8_passDay_104, r_X8_passDay_107, r_X8_passDay_108, r_X8_passDay_109, r_X8_passDay_110, r_X8_passDay_111, r_X8_passDay_114, r_X8_passDay_116, r_X8_passDay_119, r_X8_passDay_121, r_X8_passDay_124, r_X8_passDay_125, r_X8_passDay_128, r_X8_passDay_129, r_X8_passDay_130, r_X8_passDay_133, hM.1.1, @id (Z.2.2.1 144 0 = .ref 145) hM.1.2.1, @id (Z.2.2.1 144 1 = .ref 146) hM.1.2.2.1, @id (Z.2.2.1 144 2 = .ref 147) hM.1.2.2.2.1, @id (Z.2.2.1 144 3 = .ref 148) hM.1.2.2.2.2.1, @id (Z.2.2.1 144 4 = .ref 149) hM.1.2.2.2.2.2.1, @id (Z.2.2.1 144 5 = .ref 150) hM.1.2.2.2.2.2.2.1, @id (Z.2.2.1 144 6 = .ref 151) hM.1.2.2.2.2.2.2.2, @id (Z.1 145 = 0) hM.2.1.1, @id (Z.1 146 = 0) hM.2.1.2.1, @id (Z.1 147 = 0) hM.2.1.2.2.1, @id (Z.1 148 = 0) hM.2.1.2.2.2.1, @id (Z.1 149 = 0) hM.2.1.2.2.2.2.1, @id (Z.1 150 = 0) hM.2.1.2.2.2.2.2.1, @id (Z.1 151 = 0) hM.2.1.2.2.2.2.2.2, @id (Z.2.1 145 = 667) hM.2.2.1, @id (Z.2.1 146 = 667) hM.2.2.2.1, @id (Z.2.1 147 = 4002) hM.2.2.2.2.1, @id (Z.2.1 148 = 60) hM.2.2.2.2.2.1, @id (Z.2.1 149 = 32) hM.2.2.2.2.2.2.1, @id (Z.2.1 150 = 32) hM.2.2.2.2.2.2.2.1, @id (Z.2.1 151 = 36) hM.2.2.2.2.2.2.2.2, up2_o, up2_e, iN_ap, iN_up, i_ix, i_inb, i_lt, i_lt0, i_0lt, i_eq, i_ne0, i_00, i_11, i_01, i_10, i_b, i_rem2, n_rem, i_add, i_mul, i_sub, i_div, i_max, i_min, rdk_0, rdk_3, kp_none, kp_int, kp_ref, kp_long, kp_double, aK_v, aK_0, aK_ite, if_true, if_false, and_self, and_true, true_and, or_false, false_or, not_true_eq_false, not_false_eq_true, ite_self, ↓reduceIte, e, e0, hof, hcl, hia, hms, z1, z2, z3]
      · have k3 : aDo (p :: rs) R = aDo rs (aSet R p) := by
          show aDo rs (if aCan R p = true then _ else _) = _
          rw [if_pos q]
        rw [k3]
        exact h2
    · have k2 : aC (p :: rs) R = aC rs R := by
        show (if aCan R p = true then _ else _) = _
        rw [if_neg q]
      have k3 : aDo (p :: rs) R = aDo rs R := by
        show aDo rs (if aCan R p = true then _ else _) = _
        rw [if_neg q]
      by_cases q1 : R 8 p = R 0 0
      · have k1 : aLf (p :: rs) R = true := by
          show (if aCan R p = true then _ else (Nat.beq (R 8 p) (R 0 0) || aLf rs R)) = true
          rw [if_neg q, Nat.beq_eq.mpr q1]
          rfl
        have z1 : (nI (zo (N 145) p 3) = nI (N 145 1)) = True := eq_true (by rw [f3, hday, q1])
        obtain ⟨N', b5, b6, b7, ih, h2, h3⟩ := s_mPd_loop hM hn hB rs (i + 1) s 1 N R (some (.int (nI p))) (some (.int (nI 1))) (some (.int (nI 0))) (by simp at hi; omega) (by omega) (by omega) hq2 n2 hxl hw h
        refine ⟨N', b5, b6, b7, ?_, by rw [k3]; exact h2, h3⟩
        rw [k1, k2, if_pos rfl]
        rw [show (if aLf rs R = true then 1 else 1) = 1 by split <;> rfl] at ih
        rw [← ih, r_X8_passDay_12]
        by_cases q2 : aLift R p (R 0 0) = true
        · have q3 : ¬ R 5 (p / 6) = p % 6 := fun w => q (aCan_iff.mpr ⟨q1, w, Nat.le_of_ble_eq_true q2⟩)
          have z2 : zLift (N 145) p (N 145 1) = true := by rw [hlift]; exact q2
          have z3 : ¬ zAs (N 145) p = true := fun w => q3 (has.mp w)
          rcases (show mi = 0 ∨ mi = 1 by omega) with m0 | m0
          · subst m0
            simp (disch := omega) only [r_X8_passDay_14, r_X8_passDay_15, r_X8_passDay_18, r_X8_passDay_19, r_X8_passDay_22, r_X8_passDay_24, r_X8_passDay_25, r_X8_passDay_27, r_X8_passDay_28, r_X8_passDay_30, r_X8_passDay_31, r_X8_passDay_34, r_X8_passDay_35, r_X8_passDay_38, r_X8_passDay_39, r_X8_passDay_40, r_X8_passDay_43, r_X8_passDay_44, r_X8_passDay_47, r_X8_passDay_48, r_X8_passDay_50, r_X8_passDay_52, r_X8_passDay_55, r_X8_passDay_56, r_X8_passDay_58, r_X8_passDay_59, r_X8_passDay_62, r_X8_passDay_63, r_X8_passDay_64, r_X8_passDay_67, r_X8_passDay_70, r_X8_passDay_71, r_X8_passDay_73, r_X8_passDay_76, r_X8_passDay_79, r_X8_passDay_80, r_X8_passDay_83, r_X8_passDay_84, r_X8_passDay_86, r_X8_passDay_88, r_X8_passDay_91, r_X8_passDay_92, r_X8_passDay_94, r_X8_passDay_97, r_X8_passDay_98, r_X8_passDay_100, r_X8_passDay_103, r_X8_passDay_104, r_X8_passDay_107, r_X8_passDay_108, r_X8_passDay_109, r_X8_passDay_110, r_X8_passDay_111, r_X8_passDay_114, r_X8_passDay_116, r_X8_passDay_119, r_X8_passDay_121, r_X8_passDay_124, r_X8_passDay_125, r_X8_passDay_128, r_X8_passDay_129, r_X8_passDay_130, r_X8_passDay_133, hM.1.1, @id (Z.2.2.1 144 0 = .ref 145) hM.1.2.1, @id (Z.2.2.1 144 1 = .ref 146) hM.1.2.2.1, @id (Z.2.2.1 144 2 = .ref 147) hM.1.2.2.2.1, @id (Z.2.2.1 144 3 = .ref 148) hM.1.2.2.2.2.1, @id (Z.2.2.1 144 4 = .ref 149) hM.1.2.2.2.2.2.1, @id (Z.2.2.1 144 5 = .ref 150) hM.1.2.2.2.2.2.2.1, @id (Z.2.2.1 144 6 = .ref 151) hM.1.2.2.2.2.2.2.2, @id (Z.1 145 = 0) hM.2.1.1, @id (Z.1 146 = 0) hM.2.1.2.1, @id (Z.1 147 = 0) hM.2.1.2.2.1, @id (Z.1 148 = 0) hM.2.1.2.2.2.1, @id (Z.1 149 = 0) hM.2.1.2.2.2.2.1, @id (Z.1 150 = 0) hM.2.1.2.2.2.2.2.1, @id (Z.1 151 = 0) hM.2.1.2.2.2.2.2.2, @id (Z.2.1 145 = 667) hM.2.2.1, @id (Z.2.1 146 = 667) hM.2.2.2.1, @id (Z.2.1 147 = 4002) hM.2.2.2.2.1, @id (Z.2.1 148 = 60) hM.2.2.2.2.2.1, @id (Z.2.1 149 = 32) hM.2.2.2.2.2.2.1, @id (Z.2.1 150 = 32) hM.2.2.2.2.2.2.2.1, @id (Z.2.1 151 = 36) hM.2.2.2.2.2.2.2.2, up2_o, up2_e, iN_ap, iN_up, i_ix, i_inb, i_lt, i_lt0, i_0lt, i_eq, i_ne0, i_00, i_11, i_01, i_10, i_b, i_rem2, n_rem, i_add, i_mul, i_sub, i_div, i_max, i_min, rdk_0, rdk_3, kp_none, kp_int, kp_ref, kp_long, kp_double, aK_v, aK_0, aK_ite, if_true, if_false, and_self, and_true, true_and, or_false, false_or, not_true_eq_false, not_false_eq_true, ite_self, ↓reduceIte, e, e0, hof, hcl, hia, z1, z2, z3, Bool.false_eq_true, Nat.add_zero]
          · subst m0
            simp (disch := omega) only [r_X8_passDay_14, r_X8_passDay_15, r_X8_passDay_18, r_X8_passDay_19, r_X8_passDay_22, r_X8_passDay_24, r_X8_passDay_25, r_X8_passDay_27, r_X8_passDay_28, r_X8_passDay_30, r_X8_passDay_31, r_X8_passDay_34, r_X8_passDay_35, r_X8_passDay_38, r_X8_passDay_39, r_X8_passDay_40, r_X8_passDay_43, r_X8_passDay_44, r_X8_passDay_47, r_X8_passDay_48, r_X8_passDay_50, r_X8_passDay_52, r_X8_passDay_55, r_X8_passDay_56, r_X8_passDay_58, r_X8_passDay_59, r_X8_passDay_62, r_X8_passDay_63, r_X8_passDay_64, r_X8_passDay_67, r_X8_passDay_70, r_X8_passDay_71, r_X8_passDay_73, r_X8_passDay_76, r_X8_passDay_79, r_X8_passDay_80, r_X8_passDay_83, r_X8_passDay_84, r_X8_passDay_86, r_X8_passDay_88, r_X8_passDay_91, r_X8_passDay_92, r_X8_passDay_94, r_X8_passDay_97, r_X8_passDay_98, r_X8_passDay_100, r_X8_passDay_103, r_X8_passDay_104, r_X8_passDay_107, r_X8_passDay_108, r_X8_passDay_109, r_X8_passDay_110, r_X8_passDay_111, r_X8_passDay_114, r_X8_passDay_116, r_X8_passDay_119, r_X8_passDay_121, r_X8_passDay_124, r_X8_passDay_125, r_X8_passDay_128, r_X8_passDay_129, r_X8_passDay_130, r_X8_passDay_133, hM.1.1, @id (Z.2.2.1 144 0 = .ref 145) hM.1.2.1, @id (Z.2.2.1 144 1 = .ref 146) hM.1.2.2.1, @id (Z.2.2.1 144 2 = .ref 147) hM.1.2.2.2.1, @id (Z.2.2.1 144 3 = .ref 148) hM.1.2.2.2.2.1, @id (Z.2.2.1 144 4 = .ref 149) hM.1.2.2.2.2.2.1, @id (Z.2.2.1 144 5 = .ref 150) hM.1.2.2.2.2.2.2.1, @id (Z.2.2.1 144 6 = .ref 151) hM.1.2.2.2.2.2.2.2, @id (Z.1 145 = 0) hM.2.1.1, @id (Z.1 146 = 0) hM.2.1.2.1, @id (Z.1 147 = 0) hM.2.1.2.2.1, @id (Z.1 148 = 0) hM.2.1.2.2.2.1, @id (Z.1 149 = 0) hM.2.1.2.2.2.2.1, @id (Z.1 150 = 0) hM.2.1.2.2.2.2.2.1, @id (Z.1 151 = 0) hM.2.1.2.2.2.2.2.2, @id (Z.2.1 145 = 667) hM.2.2.1, @id (Z.2.1 146 = 667) hM.2.2.2.1, @id (Z.2.1 147 = 4002) hM.2.2.2.2.1, @id (Z.2.1 148 = 60) hM.2.2.2.2.2.1, @id (Z.2.1 149 = 32) hM.2.2.2.2.2.2.1, @id (Z.2.1 150 = 32) hM.2.2.2.2.2.2.2.1, @id (Z.2.1 151 = 36) hM.2.2.2.2.2.2.2.2, up2_o, up2_e, iN_ap, iN_up, i_ix, i_inb, i_lt, i_lt0, i_0lt, i_eq, i_ne0, i_00, i_11, i_01, i_10, i_b, i_rem2, n_rem, i_add, i_mul, i_sub, i_div, i_max, i_min, rdk_0, rdk_3, kp_none, kp_int, kp_ref, kp_long, kp_double, aK_v, aK_0, aK_ite, if_true, if_false, and_self, and_true, true_and, or_false, false_or, not_true_eq_false, not_false_eq_true, ite_self, ↓reduceIte, e, e0, hof, hcl, hia, z1, z2, z3, Bool.false_eq_true, Nat.add_zero]
        · have z2 : ¬ zLift (N 145) p (N 145 1) = true := by rw [hlift]; exact q2
          rcases (show mi = 0 ∨ mi = 1 by omega) with m0 | m0
          · subst m0
            simp (disch := omega) only [r_X8_passDay_14, r_X8_passDay_15, r_X8_passDay_18, r_X8_passDay_19, r_X8_passDay_22, r_X8_passDay_24, r_X8_passDay_25, r_X8_passDay_27, r_X8_passDay_28, r_X8_passDay_30, r_X8_passDay_31, r_X8_passDay_34, r_X8_passDay_35, r_X8_passDay_38, r_X8_passDay_39, r_X8_passDay_40, r_X8_passDay_43, r_X8_passDay_44, r_X8_passDay_47, r_X8_passDay_48, r_X8_passDay_50, r_X8_passDay_52, r_X8_passDay_55, r_X8_passDay_56, r_X8_passDay_58, r_X8_passDay_59, r_X8_passDay_62, r_X8_passDay_63, r_X8_passDay_64, r_X8_passDay_67, r_X8_passDay_70, r_X8_passDay_71, r_X8_passDay_73, r_X8_passDay_76, r_X8_passDay_79, r_X8_passDay_80, r_X8_passDay_83, r_X8_passDay_84, r_X8_passDay_86, r_X8_passDay_88, r_X8_passDay_91, r_X8_passDay_92, r_X8_passDay_94, r_X8_passDay_97, r_X8_passDay_98, r_X8_passDay_100, r_X8_passDay_103, r_X8_passDay_104, r_X8_passDay_107, r_X8_passDay_108, r_X8_passDay_109, r_X8_passDay_110, r_X8_passDay_111, r_X8_passDay_114, r_X8_passDay_116, r_X8_passDay_119, r_X8_passDay_121, r_X8_passDay_124, r_X8_passDay_125, r_X8_passDay_128, r_X8_passDay_129, r_X8_passDay_130, r_X8_passDay_133, hM.1.1, @id (Z.2.2.1 144 0 = .ref 145) hM.1.2.1, @id (Z.2.2.1 144 1 = .ref 146) hM.1.2.2.1, @id (Z.2.2.1 144 2 = .ref 147) hM.1.2.2.2.1, @id (Z.2.2.1 144 3 = .ref 148) hM.1.2.2.2.2.1, @id (Z.2.2.1 144 4 = .ref 149) hM.1.2.2.2.2.2.1, @id (Z.2.2.1 144 5 = .ref 150) hM.1.2.2.2.2.2.2.1, @id (Z.2.2.1 144 6 = .ref 151) hM.1.2.2.2.2.2.2.2, @id (Z.1 145 = 0) hM.2.1.1, @id (Z.1 146 = 0) hM.2.1.2.1, @id (Z.1 147 = 0) hM.2.1.2.2.1, @id (Z.1 148 = 0) hM.2.1.2.2.2.1, @id (Z.1 149 = 0) hM.2.1.2.2.2.2.1, @id (Z.1 150 = 0) hM.2.1.2.2.2.2.2.1, @id (Z.1 151 = 0) hM.2.1.2.2.2.2.2.2, @id (Z.2.1 145 = 667) hM.2.2.1, @id (Z.2.1 146 = 667) hM.2.2.2.1, @id (Z.2.1 147 = 4002) hM.2.2.2.2.1, @id (Z.2.1 148 = 60) hM.2.2.2.2.2.1, @id (Z.2.1 149 = 32) hM.2.2.2.2.2.2.1, @id (Z.2.1 150 = 32) hM.2.2.2.2.2.2.2.1, @id (Z.2.1 151 = 36) hM.2.2.2.2.2.2.2.2, up2_o, up2_e, iN_ap, iN_up, i_ix, i_inb, i_lt, i_lt0, i_0lt, i_eq, i_ne0, i_00, i_11, i_01, i_10, i_b, i_rem2, n_rem, i_add, i_mul, i_sub, i_div, i_max, i_min, rdk_0, rdk_3, kp_none, kp_int, kp_ref, kp_long, kp_double, aK_v, aK_0, aK_ite, if_true, if_false, and_self, and_true, true_and, or_false, false_or, not_true_eq_false, not_false_eq_true, ite_self, ↓reduceIte, e, e0, hof, hcl, z1, z2, Bool.false_eq_true, Nat.add_zero]
          · subst m0
            simp (disch := omega) only [r_X8_passDay_14, r_X8_passDay_15, r_X8_passDay_18, r_X8_passDay_19, r_X8_passDay_22, r_X8_passDay_24, r_X8_passDay_25, r_X8_passDay_27, r_X8_passDay_28, r_X8_passDay_30, r_X8_passDay_31, r_X8_passDay_34, r_X8_passDay_35, r_X8_passDay_38, r_X8_passDay_39, r_X8_passDay_40, r_X8_passDay_43, r_X8_passDay_44, r_X8_passDay_47, r_X8_passDay_48, r_X8_passDay_50, r_X8_passDay_52, r_X8_passDay_55, r_X8_passDay_56, r_X8_passDay_58, r_X8_passDay_59, r_X8_passDay_62, r_X8_passDay_63, r_X8_passDay_64, r_X8_passDay_67, r_X8_passDay_70, r_X8_passDay_71, r_X8_passDay_73, r_X8_passDay_76, r_X8_passDay_79, r_X8_passDay_80, r_X8_passDay_83, r_X8_passDay_84, r_X8_passDay_86, r_X8_passDay_88, r_X8_passDay_91, r_X8_passDay_92, r_X8_passDay_94, r_X8_passDay_97, r_X8_passDay_98, r_X8_passDay_100, r_X8_passDay_103, r_X8_passDay_104, r_X8_passDay_107, r_X8_passDay_108, r_X8_passDay_109, r_X8_passDay_110, r_X8_passDay_111, r_X8_passDay_114, r_X8_passDay_116, r_X8_passDay_119, r_X8_passDay_121, r_X8_passDay_124, r_X8_passDay_125, r_X8_passDay_128, r_X8_passDay_129, r_X8_passDay_130, r_X8_passDay_133, hM.1.1, @id (Z.2.2.1 144 0 = .ref 145) hM.1.2.1, @id (Z.2.2.1 144 1 = .ref 146) hM.1.2.2.1, @id (Z.2.2.1 144 2 = .ref 147) hM.1.2.2.2.1, @id (Z.2.2.1 144 3 = .ref 148) hM.1.2.2.2.2.1, @id (Z.2.2.1 144 4 = .ref 149) hM.1.2.2.2.2.2.1, @id (Z.2.2.1 144 5 = .ref 150) hM.1.2.2.2.2.2.2.1, @id (Z.2.2.1 144 6 = .ref 151) hM.1.2.2.2.2.2.2.2, @id (Z.1 145 = 0) hM.2.1.1, @id (Z.1 146 = 0) hM.2.1.2.1, @id (Z.1 147 = 0) hM.2.1.2.2.1, @id (Z.1 148 = 0) hM.2.1.2.2.2.1, @id (Z.1 149 = 0) hM.2.1.2.2.2.2.1, @id (Z.1 150 = 0) hM.2.1.2.2.2.2.2.1, @id (Z.1 151 = 0) hM.2.1.2.2.2.2.2.2, @id (Z.2.1 145 = 667) hM.2.2.1, @id (Z.2.1 146 = 667) hM.2.2.2.1, @id (Z.2.1 147 = 4002) hM.2.2.2.2.1, @id (Z.2.1 148 = 60) hM.2.2.2.2.2.1, @id (Z.2.1 149 = 32) hM.2.2.2.2.2.2.1, @id (Z.2.1 150 = 32) hM.2.2.2.2.2.2.2.1, @id (Z.2.1 151 = 36) hM.2.2.2.2.2.2.2.2, up2_o, up2_e, iN_ap, iN_up, i_ix, i_inb, i_lt, i_lt0, i_0lt, i_eq, i_ne0, i_00, i_11, i_01, i_10, i_b, i_rem2, n_rem, i_add, i_mul, i_sub, i_div, i_max, i_min, rdk_0, rdk_3, kp_none, kp_int, kp_ref, kp_long, kp_double, aK_v, aK_0, aK_ite, if_true, if_false, and_self, and_true, true_and, or_false, false_or, not_true_eq_false, not_false_eq_true, ite_self, ↓reduceIte, e, e0, hof, hcl, z1, z2, Bool.false_eq_true, Nat.add_zero]
      · have k1 : aLf (p :: rs) R = aLf rs R := by
          show (if aCan R p = true then _ else (Nat.beq (R 8 p) (R 0 0) || aLf rs R)) = _
          rw [if_neg q, Bool.eq_false_iff.mpr (fun w => q1 (Nat.beq_eq.mp w)), Bool.false_or]
        have z1 : (nI (zo (N 145) p 3) = nI (N 145 1)) = False := by rw [i_eq (by omega) (by omega), f3, hday]; exact eq_false q1
        obtain ⟨N', b5, b6, b7, ih, h2, h3⟩ := s_mPd_loop hM hn hB rs (i + 1) s mi N R (some (.int (nI p))) (some (.int (nI 0))) (some (.int (nI 0))) (by simp at hi; omega) (by omega) hmi hq2 n2 hxl hw h
        refine ⟨N', b5, b6, b7, ?_, by rw [k3]; exact h2, h3⟩
        rw [k1, k2, ← ih, r_X8_passDay_12]
        rcases (show mi = 0 ∨ mi = 1 by omega) with m0 | m0
        · subst m0
          simp (disch := omega) only [r_X8_passDay_14, r_X8_passDay_15, r_X8_passDay_18, r_X8_passDay_19, r_X8_passDay_22, r_X8_passDay_24, r_X8_passDay_25, r_X8_passDay_27, r_X8_passDay_28, r_X8_passDay_30, r_X8_passDay_31, r_X8_passDay_34, r_X8_passDay_35, r_X8_passDay_38, r_X8_passDay_39, r_X8_passDay_40, r_X8_passDay_43, r_X8_passDay_44, r_X8_passDay_47, r_X8_passDay_48, r_X8_passDay_50, r_X8_passDay_52, r_X8_passDay_55, r_X8_passDay_56, r_X8_passDay_58, r_X8_passDay_59, r_X8_passDay_62, r_X8_passDay_63, r_X8_passDay_64, r_X8_passDay_67, r_X8_passDay_70, r_X8_passDay_71, r_X8_passDay_73, r_X8_passDay_76, r_X8_passDay_79, r_X8_passDay_80, r_X8_passDay_83, r_X8_passDay_84, r_X8_passDay_86, r_X8_passDay_88, r_X8_passDay_91, r_X8_passDay_92, r_X8_passDay_94, r_X8_passDay_97, r_X8_passDay_98, r_X8_passDay_100, r_X8_passDay_103, r_X8_passDay_104, r_X8_passDay_107, r_X8_passDay_108, r_X8_passDay_109, r_X8_passDay_110, r_X8_passDay_111, r_X8_passDay_114, r_X8_passDay_116, r_X8_passDay_119, r_X8_passDay_121, r_X8_passDay_124, r_X8_passDay_125, r_X8_passDay_128, r_X8_passDay_129, r_X8_passDay_130, r_X8_passDay_133, hM.1.1, @id (Z.2.2.1 144 0 = .ref 145) hM.1.2.1, @id (Z.2.2.1 144 1 = .ref 146) hM.1.2.2.1, @id (Z.2.2.1 144 2 = .ref 147) hM.1.2.2.2.1, @id (Z.2.2.1 144 3 = .ref 148) hM.1.2.2.2.2.1, @id (Z.2.2.1 144 4 = .ref 149) hM.1.2.2.2.2.2.1, @id (Z.2.2.1 144 5 = .ref 150) hM.1.2.2.2.2.2.2.1, @id (Z.2.2.1 144 6 = .ref 151) hM.1.2.2.2.2.2.2.2, @id (Z.1 145 = 0) hM.2.1.1, @id (Z.1 146 = 0) hM.2.1.2.1, @id (Z.1 147 = 0) hM.2.1.2.2.1, @id (Z.1 148 = 0) hM.2.1.2.2.2.1, @id (Z.1 149 = 0) hM.2.1.2.2.2.2.1, @id (Z.1 150 = 0) hM.2.1.2.2.2.2.2.1, @id (Z.1 151 = 0) hM.2.1.2.2.2.2.2.2, @id (Z.2.1 145 = 667) hM.2.2.1, @id (Z.2.1 146 = 667) hM.2.2.2.1, @id (Z.2.1 147 = 4002) hM.2.2.2.2.1, @id (Z.2.1 148 = 60) hM.2.2.2.2.2.1, @id (Z.2.1 149 = 32) hM.2.2.2.2.2.2.1, @id (Z.2.1 150 = 32) hM.2.2.2.2.2.2.2.1, @id (Z.2.1 151 = 36) hM.2.2.2.2.2.2.2.2, up2_o, up2_e, iN_ap, iN_up, i_ix, i_inb, i_lt, i_lt0, i_0lt, i_eq, i_ne0, i_00, i_11, i_01, i_10, i_b, i_rem2, n_rem, i_add, i_mul, i_sub, i_div, i_max, i_min, rdk_0, rdk_3, kp_none, kp_int, kp_ref, kp_long, kp_double, aK_v, aK_0, aK_ite, if_true, if_false, and_self, and_true, true_and, or_false, false_or, not_true_eq_false, not_false_eq_true, ite_self, ↓reduceIte, e, e0, hof, z1, Nat.add_zero]
        · subst m0
          simp (disch := omega) only [r_X8_passDay_14, r_X8_passDay_15, r_X8_passDay_18, r_X8_passDay_19, r_X8_passDay_22, r_X8_passDay_24, r_X8_passDay_25, r_X8_passDay_27, r_X8_passDay_28, r_X8_passDay_30, r_X8_passDay_31, r_X8_passDay_34, r_X8_passDay_35, r_X8_passDay_38, r_X8_passDay_39, r_X8_passDay_40, r_X8_passDay_43, r_X8_passDay_44, r_X8_passDay_47, r_X8_passDay_48, r_X8_passDay_50, r_X8_passDay_52, r_X8_passDay_55, r_X8_passDay_56, r_X8_passDay_58, r_X8_passDay_59, r_X8_passDay_62, r_X8_passDay_63, r_X8_passDay_64, r_X8_passDay_67, r_X8_passDay_70, r_X8_passDay_71, r_X8_passDay_73, r_X8_passDay_76, r_X8_passDay_79, r_X8_passDay_80, r_X8_passDay_83, r_X8_passDay_84, r_X8_passDay_86, r_X8_passDay_88, r_X8_passDay_91, r_X8_passDay_92, r_X8_passDay_94, r_X8_passDay_97, r_X8_passDay_98, r_X8_passDay_100, r_X8_passDay_103, r_X8_passDay_104, r_X8_passDay_107, r_X8_passDay_108, r_X8_passDay_109, r_X8_passDay_110, r_X8_passDay_111, r_X8_passDay_114, r_X8_passDay_116, r_X8_passDay_119, r_X8_passDay_121, r_X8_passDay_124, r_X8_passDay_125, r_X8_passDay_128, r_X8_passDay_129, r_X8_passDay_130, r_X8_passDay_133, hM.1.1, @id (Z.2.2.1 144 0 = .ref 145) hM.1.2.1, @id (Z.2.2.1 144 1 = .ref 146) hM.1.2.2.1, @id (Z.2.2.1 144 2 = .ref 147) hM.1.2.2.2.1, @id (Z.2.2.1 144 3 = .ref 148) hM.1.2.2.2.2.1, @id (Z.2.2.1 144 4 = .ref 149) hM.1.2.2.2.2.2.1, @id (Z.2.2.1 144 5 = .ref 150) hM.1.2.2.2.2.2.2.1, @id (Z.2.2.1 144 6 = .ref 151) hM.1.2.2.2.2.2.2.2, @id (Z.1 145 = 0) hM.2.1.1, @id (Z.1 146 = 0) hM.2.1.2.1, @id (Z.1 147 = 0) hM.2.1.2.2.1, @id (Z.1 148 = 0) hM.2.1.2.2.2.1, @id (Z.1 149 = 0) hM.2.1.2.2.2.2.1, @id (Z.1 150 = 0) hM.2.1.2.2.2.2.2.1, @id (Z.1 151 = 0) hM.2.1.2.2.2.2.2.2, @id (Z.2.1 145 = 667) hM.2.2.1, @id (Z.2.1 146 = 667) hM.2.2.2.1, @id (Z.2.1 147 = 4002) hM.2.2.2.2.1, @id (Z.2.1 148 = 60) hM.2.2.2.2.2.1, @id (Z.2.1 149 = 32) hM.2.2.2.2.2.2.1, @id (Z.2.1 150 = 32) hM.2.2.2.2.2.2.2.1, @id (Z.2.1 151 = 36) hM.2.2.2.2.2.2.2.2, up2_o, up2_e, iN_ap, iN_up, i_ix, i_inb, i_lt, i_lt0, i_0lt, i_eq, i_ne0, i_00, i_11, i_01, i_10, i_b, i_rem2, n_rem, i_add, i_mul, i_sub, i_div, i_max, i_min, rdk_0, rdk_3, kp_none, kp_int, kp_ref, kp_long, kp_double, aK_v, aK_0, aK_ite, if_true, if_false, and_self, and_true, true_and, or_false, false_or, not_true_eq_false, not_false_eq_true, ite_self, ↓reduceIte, e, e0, hof, z1, Nat.add_zero]
theorem s_mPassDay {R : aY} {q : List Nat} {B : Nat → Nat} {o : Nat} (hM : MAt Z) (h : MZ (N 145) R B o) (hw : WF R q) (hb : BK q B o) (ht : R 0 0 + 1 ≤ 1300) :
    ∃ N', ex 136 0 [some (.ref 144), none, none, none, none, none, none, none] [] (Z, iN N, L, c) = some (.inl (some (.int (nI (q.length - (aQ q R).length)))), (Z, iN N', L, c)) ∧ MZ (N' 145) (aP (R, q)).1 B o ∧ ∀ a, a ≠ 145 → a ≠ 151 → N' a = N a := by
  have hz : Zb (N 145) := MZs_Zb h hw (fun m _ => by have := stg_le (R := R) (m := m); omega) hb (by omega)
  obtain ⟨N1, l1, l2, l3⟩ := s_mLayOrder (L := L) (c := c) hM hz
  have hT := lfB_T h hw hb
  have hlen : (lfB (N 145) (6 * N 145 0) 0 []).length = q.length := by rw [← List.length_reverse, hT, aT_len]
  rw [hT] at l2
  rw [hlen] at l1
  have hx : ∀ x, x ∈ q ↔ x < 36 ∧ R 5 (x / 6) ≤ x % 6 ∧ x % 6 < R 4 (x / 6) := hw.2.2.2.2.2.2.1
  obtain ⟨N2, b5, b6, b7, k1, k2, k3⟩ := s_mPd_loop (L := L) (c := c) hM (WF_len hw) ⟨hb.2.1, hb.2.2.2⟩ (aT (R 8) q) 0 0 0 N1 R none none none (by rw [aT_len]; omega) (by omega) (by omega) (fun j hj => by rw [Nat.zero_add]; exact l2 j _ (List.getElem?_eq_getElem hj)) (aT_nd hw.2.2.2.2.2.1) (fun x hxx => (hx x).mp (aT_mem.mp hxx)) (WF_z hw (by omega)) (by rw [l3 145 (by omega)]; exact h)
  obtain ⟨d1, d2⟩ := aDo_aT (R := R) hb.1
  have hc : aC (aT (R 8) q) R = q.length - (aQ q R).length := by
    have s1 := aC_sum (aT (R 8) q) R (fun x hxx => ((hx x).mp (aT_mem.mp hxx)).1)
    have s2 := aQ_len q R (fun x hxx => ((hx x).mp hxx).1)
    rw [d1] at s1
    omega
  rw [d1] at k2
  rw [hc, d2, Nat.zero_add] at k1
  have w0 : WF (aN R q) (aQ q R) := WF_do hw
  have hday : N2 145 1 = R 0 0 := by
    rw [k2.1.2.1, aDo_o (by omega) (by omega) (by omega)]
  have k4 : MZ (up2 N2 145 1 (N2 145 1 + 1) 145) (aN R q) B o := by
    rw [hday]
    exact MZ_day k2
  have k5 : ∀ a, a ≠ 145 → a ≠ 151 → up2 N2 145 1 (N2 145 1 + 1) a = N a := fun a h1 h2 => by
    rw [← l3 a h2, ← k3 a h1]
    funext j
    exact up2_o (by omega)
  by_cases hl : aLf q R = true
  · have e00 : aN R q 0 0 = R 0 0 + 1 := up2_e ⟨rfl, rfl⟩
    obtain ⟨-, -, w3⟩ := WF_P (s := (R, q)) hw ht
    obtain ⟨N3, m1, m2, m3⟩ := s_mMoveAll (L := L) (c := c) hM k4 w0 (BK_sub hb (aQ_sub q R)) (by rw [e00]; exact ht) (w3 hl)
    rw [if_pos hl] at k1
    have eP : (aP (R, q)).1 = aMvL (aT (aN R q 8) (aQ q R)) [] (aN R q) := by
      unfold aP
      rw [if_pos hl]
    refine ⟨N3, ?_, by rw [eP]; exact m2, fun a h1 h2 => by rw [m3 a h1 h2, k5 a h1 h2]⟩
    simp (disch := omega) only [r_X8_passDay_0, r_X8_passDay_1, r_X8_passDay_4, r_X8_passDay_5, r_X8_passDay_6, r_X8_passDay_7, r_X8_passDay_8, r_X8_passDay_9, r_X8_passDay_10, hM.1.1, @id (Z.2.2.1 144 0 = .ref 145) hM.1.2.1, @id (Z.2.2.1 144 1 = .ref 146) hM.1.2.2.1, @id (Z.2.2.1 144 2 = .ref 147) hM.1.2.2.2.1, @id (Z.2.2.1 144 3 = .ref 148) hM.1.2.2.2.2.1, @id (Z.2.2.1 144 4 = .ref 149) hM.1.2.2.2.2.2.1, @id (Z.2.2.1 144 5 = .ref 150) hM.1.2.2.2.2.2.2.1, @id (Z.2.2.1 144 6 = .ref 151) hM.1.2.2.2.2.2.2.2, @id (Z.1 145 = 0) hM.2.1.1, @id (Z.1 146 = 0) hM.2.1.2.1, @id (Z.1 147 = 0) hM.2.1.2.2.1, @id (Z.1 148 = 0) hM.2.1.2.2.2.1, @id (Z.1 149 = 0) hM.2.1.2.2.2.2.1, @id (Z.1 150 = 0) hM.2.1.2.2.2.2.2.1, @id (Z.1 151 = 0) hM.2.1.2.2.2.2.2.2, @id (Z.2.1 145 = 667) hM.2.2.1, @id (Z.2.1 146 = 667) hM.2.2.2.1, @id (Z.2.1 147 = 4002) hM.2.2.2.2.1, @id (Z.2.1 148 = 60) hM.2.2.2.2.2.1, @id (Z.2.1 149 = 32) hM.2.2.2.2.2.2.1, @id (Z.2.1 150 = 32) hM.2.2.2.2.2.2.2.1, @id (Z.2.1 151 = 36) hM.2.2.2.2.2.2.2.2, up2_o, up2_e, iN_ap, iN_up, i_ix, i_inb, i_lt, i_lt0, i_0lt, i_eq, i_ne0, i_00, i_11, i_01, i_10, i_b, i_rem2, n_rem, i_add, i_mul, i_sub, i_div, i_max, i_min, rdk_0, rdk_3, kp_none, kp_int, kp_ref, kp_long, kp_double, aK_v, aK_0, aK_ite, if_true, if_false, and_self, and_true, true_and, or_false, false_or, not_true_eq_false, not_false_eq_true, ite_self, ↓reduceIte, l1, k1]
    simp (disch := omega) only [r_X8_passDay_136, r_X8_passDay_137, r_X8_passDay_140, r_X8_passDay_141, r_X8_passDay_142, r_X8_passDay_143, r_X8_passDay_144, r_X8_passDay_145, r_X8_passDay_146, r_X8_passDay_147, r_X8_passDay_150, r_X8_passDay_151, r_X8_passDay_154, r_X8_passDay_155, hM.1.1, @id (Z.2.2.1 144 0 = .ref 145) hM.1.2.1, @id (Z.2.2.1 144 1 = .ref 146) hM.1.2.2.1, @id (Z.2.2.1 144 2 = .ref 147) hM.1.2.2.2.1, @id (Z.2.2.1 144 3 = .ref 148) hM.1.2.2.2.2.1, @id (Z.2.2.1 144 4 = .ref 149) hM.1.2.2.2.2.2.1, @id (Z.2.2.1 144 5 = .ref 150) hM.1.2.2.2.2.2.2.1, @id (Z.2.2.1 144 6 = .ref 151) hM.1.2.2.2.2.2.2.2, @id (Z.1 145 = 0) hM.2.1.1, @id (Z.1 146 = 0) hM.2.1.2.1, @id (Z.1 147 = 0) hM.2.1.2.2.1, @id (Z.1 148 = 0) hM.2.1.2.2.2.1, @id (Z.1 149 = 0) hM.2.1.2.2.2.2.1, @id (Z.1 150 = 0) hM.2.1.2.2.2.2.2.1, @id (Z.1 151 = 0) hM.2.1.2.2.2.2.2.2, @id (Z.2.1 145 = 667) hM.2.2.1, @id (Z.2.1 146 = 667) hM.2.2.2.1, @id (Z.2.1 147 = 4002) hM.2.2.2.2.1, @id (Z.2.1 148 = 60) hM.2.2.2.2.2.1, @id (Z.2.1 149 = 32) hM.2.2.2.2.2.2.1, @id (Z.2.1 150 = 32) hM.2.2.2.2.2.2.2.1, @id (Z.2.1 151 = 36) hM.2.2.2.2.2.2.2.2, up2_o, up2_e, iN_ap, iN_up, i_ix, i_inb, i_lt, i_lt0, i_0lt, i_eq, i_ne0, i_00, i_11, i_01, i_10, i_b, i_rem2, n_rem, i_add, i_mul, i_sub, i_div, i_max, i_min, rdk_0, rdk_3, kp_none, kp_int, kp_ref, kp_long, kp_double, aK_v, aK_0, aK_ite, if_true, if_false, and_self, and_true, true_and, or_false, false_or, not_true_eq_false, not_false_eq_true, ite_self, ↓reduceIte, m1]
  · rw [if_neg hl] at k1
    have eP : (aP (R, q)).1 = aN R q := by
      unfold aP
      rw [if_neg hl]
    refine ⟨_, ?_, by rw [eP]; exact k4, k5⟩
    simp (disch := omega) only [r_X8_passDay_0, r_X8_passDay_1, r_X8_passDay_4, r_X8_passDay_5, r_X8_passDay_6, r_X8_passDay_7, r_X8_passDay_8, r_X8_passDay_9, r_X8_passDay_10, hM.1.1, @id (Z.2.2.1 144 0 = .ref 145) hM.1.2.1, @id (Z.2.2.1 144 1 = .ref 146) hM.1.2.2.1, @id (Z.2.2.1 144 2 = .ref 147) hM.1.2.2.2.1, @id (Z.2.2.1 144 3 = .ref 148) hM.1.2.2.2.2.1, @id (Z.2.2.1 144 4 = .ref 149) hM.1.2.2.2.2.2.1, @id (Z.2.2.1 144 5 = .ref 150) hM.1.2.2.2.2.2.2.1, @id (Z.2.2.1 144 6 = .ref 151) hM.1.2.2.2.2.2.2.2, @id (Z.1 145 = 0) hM.2.1.1, @id (Z.1 146 = 0) hM.2.1.2.1, @id (Z.1 147 = 0) hM.2.1.2.2.1, @id (Z.1 148 = 0) hM.2.1.2.2.2.1, @id (Z.1 149 = 0) hM.2.1.2.2.2.2.1, @id (Z.1 150 = 0) hM.2.1.2.2.2.2.2.1, @id (Z.1 151 = 0) hM.2.1.2.2.2.2.2.2, @id (Z.2.1 145 = 667) hM.2.2.1, @id (Z.2.1 146 = 667) hM.2.2.2.1, @id (Z.2.1 147 = 4002) hM.2.2.2.2.1, @id (Z.2.1 148 = 60) hM.2.2.2.2.2.1, @id (Z.2.1 149 = 32) hM.2.2.2.2.2.2.1, @id (Z.2.1 150 = 32) hM.2.2.2.2.2.2.2.1, @id (Z.2.1 151 = 36) hM.2.2.2.2.2.2.2.2, up2_o, up2_e, iN_ap, iN_up, i_ix, i_inb, i_lt, i_lt0, i_0lt, i_eq, i_ne0, i_00, i_11, i_01, i_10, i_b, i_rem2, n_rem, i_add, i_mul, i_sub, i_div, i_max, i_min, rdk_0, rdk_3, kp_none, kp_int, kp_ref, kp_long, kp_double, aK_v, aK_0, aK_ite, if_true, if_false, and_self, and_true, true_and, or_false, false_or, not_true_eq_false, not_false_eq_true, ite_self, ↓reduceIte, l1, k1]
    simp (disch := omega) only [r_X8_passDay_136, r_X8_passDay_137, r_X8_passDay_140, r_X8_passDay_141, r_X8_passDay_142, r_X8_passDay_143, r_X8_passDay_144, r_X8_passDay_145, r_X8_passDay_146, r_X8_passDay_147, r_X8_passDay_150, r_X8_passDay_151, r_X8_passDay_154, r_X8_passDay_155, hM.1.1, @id (Z.2.2.1 144 0 = .ref 145) hM.1.2.1, @id (Z.2.2.1 144 1 = .ref 146) hM.1.2.2.1, @id (Z.2.2.1 144 2 = .ref 147) hM.1.2.2.2.1, @id (Z.2.2.1 144 3 = .ref 148) hM.1.2.2.2.2.1, @id (Z.2.2.1 144 4 = .ref 149) hM.1.2.2.2.2.2.1, @id (Z.2.2.1 144 5 = .ref 150) hM.1.2.2.2.2.2.2.1, @id (Z.2.2.1 144 6 = .ref 151) hM.1.2.2.2.2.2.2.2, @id (Z.1 145 = 0) hM.2.1.1, @id (Z.1 146 = 0) hM.2.1.2.1, @id (Z.1 147 = 0) hM.2.1.2.2.1, @id (Z.1 148 = 0) hM.2.1.2.2.2.1, @id (Z.1 149 = 0) hM.2.1.2.2.2.2.1, @id (Z.1 150 = 0) hM.2.1.2.2.2.2.2.1, @id (Z.1 151 = 0) hM.2.1.2.2.2.2.2.2, @id (Z.2.1 145 = 667) hM.2.2.1, @id (Z.2.1 146 = 667) hM.2.2.2.1, @id (Z.2.1 147 = 4002) hM.2.2.2.2.1, @id (Z.2.1 148 = 60) hM.2.2.2.2.2.1, @id (Z.2.1 149 = 32) hM.2.2.2.2.2.2.1, @id (Z.2.1 150 = 32) hM.2.2.2.2.2.2.2.1, @id (Z.2.1 151 = 36) hM.2.2.2.2.2.2.2.2, up2_o, up2_e, iN_ap, iN_up, i_ix, i_inb, i_lt, i_lt0, i_0lt, i_eq, i_ne0, i_00, i_11, i_01, i_10, i_b, i_rem2, n_rem, i_add, i_mul, i_sub, i_div, i_max, i_min, rdk_0, rdk_3, kp_none, kp_int, kp_ref, kp_long, kp_double, aK_v, aK_0, aK_ite, if_true, if_false, and_self, and_true, true_and, or_false, false_or, not_true_eq_false, not_false_eq_true, ite_self, ↓reduceIte]
end Mp
