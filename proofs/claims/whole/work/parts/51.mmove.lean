/-! the reference moves all as the function says -/
def WFz (R : aY) : Prop := WFa R ∧ WFh R ∧ (∀ p, p < 36 → R 6 p ≤ 3 ∧ R 7 p ≤ 9999) ∧ WFs R ∧ (∀ m, m < 36 → zOn R m < 1400) ∧ R 0 0 ≤ 1300
theorem WF_z {R : aY} {q : List Nat} (h : WF R q) (ht : R 0 0 ≤ 1300) : WFz R := ⟨h.1, h.2.1, fun p hp => ⟨(h.2.2.1 p hp).1, (h.2.2.1 p hp).2.1⟩, h.2.2.2.1, fun m hm => WF_zOn h hm, ht⟩
theorem MZs_Zb2 {z : Nat → Nat} {R : aY} {S B : Nat → Nat} {o : Nat} (h : MZs z R S B o) (hw : WFz R) (hS : ∀ m, m < 36 → S m ≤ 3) (hb : (∀ m, m < 36 → B m ≤ o) ∧ o ≤ 1000) : Zb z := by
  obtain ⟨⟨a1, a2, a3, a4⟩, b, c, d, e, f, g⟩ := h
  obtain ⟨⟨w1, w2, w3⟩, wh, wp, ws, hz, ht⟩ := hw
  refine ⟨⟨by omega, by omega, by omega, by omega, by omega⟩, fun i hi => by rw [b i hi]; exact w2 i hi, fun i hi => ?_, fun i hi => by rw [e i hi]; exact (wh i hi).2.2.1, fun m hm => ?_, fun m hm t ht => ?_⟩
  · rw [c i hi]
    rcases (show i = 0 ∨ i = 1 ∨ i = 2 ∨ i = 3 ∨ i = 4 by omega) with rfl | rfl | rfl | rfl | rfl <;> omega
  · obtain ⟨f0, f1, f2, f3, f4, -⟩ := f m hm
    rw [f0, f1, f2, f3, f4]
    have := hz m hm
    have := hb.1 m hm
    exact ⟨(wp m hm).1, (wp m hm).2, hS m hm, by omega, by omega⟩
  · rw [(g m hm t ht).1, (g m hm t ht).2]
    exact ⟨(ws m hm t ht).1, (ws m hm t ht).2.1⟩
theorem WFz_mv {R : aY} {p d : Nat} (h : WFz R) (hd : d < 1400) : WFz (aMv R p d) := by
  obtain ⟨⟨w1, w2, w3⟩, wh, wp, ws, hz, ht⟩ := h
  have o : ∀ a j, a ≠ 8 → a ≠ 11 → aMv R p d a j = R a j := fun a j h1 h2 => aMv_o h1 h2
  refine ⟨⟨?_, fun i hi => ?_, ?_⟩, fun i hi => ?_, fun i hi => ?_, fun i hi t ht => ?_, fun m hm => ?_, ?_⟩
  · rw [o 0 _ (by omega) (by omega), o 0 _ (by omega) (by omega)]; exact w1
  · rw [o 1 _ (by omega) (by omega)]; exact w2 i hi
  · rw [o 2 _ (by omega) (by omega), o 2 _ (by omega) (by omega), o 2 _ (by omega) (by omega), o 2 _ (by omega) (by omega), o 2 _ (by omega) (by omega)]; exact w3
  · rw [o 3 _ (by omega) (by omega), o 4 _ (by omega) (by omega), o 5 _ (by omega) (by omega), o 0 _ (by omega) (by omega)]; exact wh i hi
  · rw [o 6 _ (by omega) (by omega), o 7 _ (by omega) (by omega)]; exact wp i hi
  · rw [o 12 _ (by omega) (by omega), o 13 _ (by omega) (by omega), o 3 _ (by omega) (by omega)]; exact ws i hi t ht
  · have := hz m hm
    unfold zOn at this ⊢
    rw [o 4 _ (by omega) (by omega), aMv_8]
    split
    · omega
    · rename_i h1
      rw [if_neg h1] at this
      split
      · exact hd
      · exact this
  · rw [o 0 _ (by omega) (by omega)]; exact ht
theorem MZs_2 {N : Nat → Nat → Nat} {R : aY} {S B : Nat → Nat} {o m v : Nat} (h : MZs (N 145) R S B o) : MZs (up2 N 145 (91 + 16 * m + 2) v 145) R (fun x => if x = m then v else S x) B o := by
  obtain ⟨⟨a1, a2, a3, a4⟩, b, c, d, e, f, g⟩ := h
  have ho : ∀ i, i < 91 → up2 N 145 (91 + 16 * m + 2) v 145 i = N 145 i := fun i hi => up2_o (by omega)
  refine ⟨⟨?_, ?_, ?_, ?_⟩, fun i hi => ?_, fun i hi => ?_, fun i hi => ?_, fun i hi => ?_, fun x hx => ?_, fun x hx t ht => ?_⟩
  · rw [ho _ (by omega)]; exact a1
  · rw [ho _ (by omega)]; exact a2
  · rw [ho _ (by omega)]; exact a3
  · rw [ho _ (by omega)]; exact a4
  · rw [ho _ (by omega)]; exact b i hi
  · rw [ho _ (by omega)]; exact c i hi
  · rw [ho _ (by omega)]; exact d i hi
  · rw [ho _ (by omega)]; exact e i hi
  · obtain ⟨f0, f1, f2, f3, f4, f5, f6, f7⟩ := f x hx
    rw [zo_o (k' := 0) (by omega) (by omega) (by omega), zo_o (k' := 1) (by omega) (by omega) (by omega), zo_o (k' := 3) (by omega) (by omega) (by omega), zo_o (k' := 4) (by omega) (by omega) (by omega), zo_o (k' := 5) (by omega) (by omega) (by omega), zo_o (k' := 6) (by omega) (by omega) (by omega), zo_o (k' := 7) (by omega) (by omega) (by omega)]
    refine ⟨f0, f1, ?_, f3, f4, f5, f6, f7⟩
    show _ = if x = m then v else S x
    by_cases z : x = m
    · rw [if_pos z, z, zo_e]
    · rw [if_neg z, zo_o (by omega) (by omega) (by omega)]
      exact f2
  · rw [zo_o (by omega) (by omega) (by omega), zo_o (by omega) (by omega) (by omega)]
    exact g x hx t ht
theorem MZs_S {z : Nat → Nat} {R : aY} {S S' B : Nat → Nat} {o : Nat} (h : MZs z R S B o) (he : ∀ x, x < 36 → S' x = S x) : MZs z R S' B o := by
  obtain ⟨a, b, c, d, e, f, g⟩ := h
  refine ⟨a, b, c, d, e, fun x hx => ?_, g⟩
  rw [he x hx]
  exact f x hx
def mvW (N : Nat → Nat → Nat) (p d : Nat) : Nat → Nat → Nat := up2 (up2 (up2 N 145 (91 + 16 * p + 6) (zo (N 145) p 6 + if d = zo (N 145) p 3 then 0 else 1)) 145 (91 + 16 * p + 3) d) 145 (91 + 16 * p + 2) 1
theorem MZs_mv {N : Nat → Nat → Nat} {R : aY} {S B : Nat → Nat} {o p d : Nat} (h : MZs (N 145) R S B o) (hp : p < 36) (h4 : p % 6 < R 4 (p / 6)) : MZs (mvW N p d 145) (aMv R p d) (fun x => if x = p then 1 else S x) B o := by
  have e3 : zo (N 145) p 3 = R 8 p := by
    rw [(h.2.2.2.2.2.1 p hp).2.2.2.1]
    unfold zOn
    rw [if_neg (by omega)]
  unfold mvW
  refine MZs_2 ?_
  obtain ⟨⟨a1, a2, a3, a4⟩, b, c, d1, e, f, g⟩ := h
  have ho : ∀ i, i < 91 → up2 (up2 N 145 (91 + 16 * p + 6) (zo (N 145) p 6 + if d = zo (N 145) p 3 then 0 else 1)) 145 (91 + 16 * p + 3) d 145 i = N 145 i := fun i hi => by rw [up2_o (by omega), up2_o (by omega)]
  have o2 : ∀ x k, k < 16 → k ≠ 3 → k ≠ 6 → zo (up2 (up2 N 145 (91 + 16 * p + 6) (zo (N 145) p 6 + if d = zo (N 145) p 3 then 0 else 1)) 145 (91 + 16 * p + 3) d 145) x k = zo (N 145) x k := fun x k h1 h2 h3 => by
    rw [zo_o (by omega) h1 (by omega), zo_o (by omega) h1 (by omega)]
  have oR : ∀ a j, a ≠ 8 → a ≠ 11 → aMv R p d a j = R a j := fun a j h1 h2 => aMv_o h1 h2
  refine ⟨⟨?_, ?_, ?_, ?_⟩, fun i hi => ?_, fun i hi => ?_, fun i hi => ?_, fun i hi => ?_, fun x hx => ?_, fun x hx t ht => ?_⟩
  · rw [ho _ (by omega), oR _ _ (by omega) (by omega)]; exact a1
  · rw [ho _ (by omega), oR _ _ (by omega) (by omega)]; exact a2
  · rw [ho _ (by omega)]; exact a3
  · rw [ho _ (by omega), oR _ _ (by omega) (by omega)]; exact a4
  · rw [ho _ (by omega), oR _ _ (by omega) (by omega)]; exact b i hi
  · rw [ho _ (by omega), oR _ _ (by omega) (by omega)]; exact c i hi
  · rw [ho _ (by omega), oR _ _ (by omega) (by omega)]; exact d1 i hi
  · rw [ho _ (by omega), oR _ _ (by omega) (by omega)]; exact e i hi
  · obtain ⟨f0, f1, f2, f3, f4, f5, f6, f7⟩ := f x hx
    rw [o2 x 0 (by omega) (by omega) (by omega), o2 x 1 (by omega) (by omega) (by omega), o2 x 2 (by omega) (by omega) (by omega), o2 x 4 (by omega) (by omega) (by omega), o2 x 5 (by omega) (by omega) (by omega), o2 x 7 (by omega) (by omega) (by omega), oR 6 _ (by omega) (by omega), oR 7 _ (by omega) (by omega), oR 9 _ (by omega) (by omega), oR 10 _ (by omega) (by omega)]
    refine ⟨f0, f1, f2, ?_, f4, f5, ?_, f7⟩
    · unfold zOn at f3 ⊢
      rw [oR 4 _ (by omega) (by omega), aMv_8]
      by_cases z : x = p
      · rw [z, zo_e, if_neg (by omega), if_pos rfl]
      · rw [zo_o (by omega) (by omega) (by omega), zo_o (by omega) (by omega) (by omega), if_neg z]
        exact f3
    · rw [zo_o (by omega) (by omega) (by omega)]
      unfold aMv
      by_cases z : x = p
      · subst z
        rw [zo_e, e3, f6]
        split
        · rfl
        · rw [up2_e ⟨rfl, rfl⟩]
      · rw [zo_o (by omega) (by omega) (by omega), f6]
        split
        · rfl
        · rw [up2_o (by omega), up2_o (by omega)]
  · rw [o2 x _ (by omega) (by omega) (by omega), o2 x _ (by omega) (by omega) (by omega), oR 12 _ (by omega) (by omega), oR 13 _ (by omega) (by omega)]
    exact g x hx t ht
theorem sumL_sumN {f : Nat → Nat} {n : Nat} : ∀ (l : List Nat), l.Nodup → (∀ x ∈ l, x < n) → sumL f l = sumN (fun m => if m ∈ l then f m else 0) 0 n
  | [], _, _ => by
    have := sumN_bd (f := fun m => if m ∈ ([] : List Nat) then f m else 0) (a := 0) (b := 0) (n := n) (fun i _ => by simp)
    unfold sumL
    omega
  | p :: l, hn, hx => by
    obtain ⟨n1, n2⟩ := List.nodup_cons.mp hn
    have ih := sumL_sumN (f := f) l n2 (fun x h => hx x (List.mem_cons_of_mem _ h))
    unfold sumL
    rw [ih, Nat.add_comm]
    refine sumN_up (v := f p) p (hx p List.mem_cons_self) ?_ (fun i hi hne => ?_)
    · rw [Nat.zero_add, if_neg n1, if_pos List.mem_cons_self, Nat.zero_add]
    · rw [Nat.zero_add]
      by_cases z : i ∈ l
      · rw [if_pos z, if_pos (List.mem_cons_of_mem _ z)]
      · rw [if_neg z, if_neg (fun w => (List.mem_cons.mp w).elim hne z)]
/-- what is booked for a day, counted over all places, is what is counted over those that were moved -/
theorem zBk_cnt {z : Nat → Nat} {R : aY} {S B : Nat → Nat} {o : Nat} {l : List Nat} (h : MZs z R S B o) (hh : WFh R) (hl : ∀ x ∈ l, x < 36 ∧ x % 6 < R 4 (x / 6)) (hn : l.Nodup) (hS : ∀ x, x < 36 → (S x = 1 ↔ x ∈ l)) (h0 : z 0 ≤ 6) (d : Nat) : zBk z d 1 = cnt R l d ∧ zBk z d 2 = wgt R l d := by
  have hlt : ∀ x ∈ l, x < 6 * z 0 := fun x hx => by
    have h1 := hl x hx
    have h2 := hh (x / 6) (by omega)
    rw [h.1.1]
    omega
  have his : ∀ m, m < 6 * z 0 → (zIs z d m = true ↔ m ∈ l ∧ R 8 m = d) := fun m hm => by
    have hm6 : m < 36 := by omega
    rw [zIs_iff, zTh_R h hh hm6, (h.2.2.2.2.2.1 m hm6).2.2.1, (h.2.2.2.2.2.1 m hm6).2.2.2.1, hS m hm6]
    unfold zOn
    refine ⟨fun ⟨a1, a2, a3⟩ => ?_, fun ⟨a1, a2⟩ => ?_⟩
    · rw [if_neg (by have := (hl m a2).2; omega)] at a3
      exact ⟨a2, a3⟩
    · have h1 := hl m a1
      have h2 := hh (m / 6) (by omega)
      rw [if_neg (by omega)]
      exact ⟨by omega, a1, a2⟩
  unfold zBk cnt wgt
  rw [sumL_sumN l hn hlt, sumL_sumN l hn hlt]
  constructor
  · refine sumN_congr (fun i hi => ?_)
    have := his (0 + i) (by omega)
    by_cases a : 0 + i ∈ l
    · by_cases b : R 8 (0 + i) = d
      · rw [if_pos (this.mpr ⟨a, b⟩), if_pos a, if_pos b, if_pos rfl]
      · rw [if_neg (fun w => b (this.mp w).2), if_pos a, if_neg b]
    · rw [if_neg (fun w => a (this.mp w).1), if_neg a]
  · refine sumN_congr (fun i hi => ?_)
    have := his (0 + i) (by omega)
    by_cases a : 0 + i ∈ l
    · by_cases b : R 8 (0 + i) = d
      · rw [if_pos (this.mpr ⟨a, b⟩), if_pos a, if_pos b, if_neg (by omega), (h.2.2.2.2.2.1 (0 + i) (by omega)).1]
      · rw [if_neg (fun w => b (this.mp w).2), if_pos a, if_neg b]
    · rw [if_neg (fun w => a (this.mp w).1), if_neg a]
section Mm
variable {Z : aZ} {N : Nat → Nat → Nat} {L : Nat → Nat → Int64} {c : Nat × Nat}
theorem s_mMv1 {n : Nat} {R : aY} {B : Nat → Nat} {o : Nat} (hM : MAt Z) (hn : n ≤ 36) : ∀ (rs : List Nat) (i : Nat) (N : Nat → Nat → Nat) (S : Nat → Nat), i + rs.length = n → (∀ j (h : j < rs.length), N 151 (i + j) = rs[j]) → (∀ x ∈ rs, x < 36) → MZs (N 145) R S B o →
    ∃ N', ex 135 7 [some (.ref 144), some (.int (nI n)), some (.int (nI i)), none, none] [] (Z, iN N, L, c) = ex 135 30 [some (.ref 144), some (.int (nI n)), some (.int (nI n)), none, none] [] (Z, iN N', L, c) ∧ MZs (N' 145) R (fun x => if x ∈ rs then 3 else S x) B o ∧ ∀ a, a ≠ 145 → N' a = N a
  | [], i, N, S, hi, _, _, h => by
    have e : i = n := by simpa using hi
    subst e
    refine ⟨N, ?_, MZs_S h (fun x _ => by simp), fun _ _ => rfl⟩
    rw [r_X8_moveAll_7]
    simp (disch := omega) only [r_X8_moveAll_8, r_X8_moveAll_9, r_X8_moveAll_12, r_X8_moveAll_13, r_X8_moveAll_14, r_X8_moveAll_17, r_X8_moveAll_18, r_X8_moveAll_19, r_X8_moveAll_20, r_X8_moveAll_21, r_X8_moveAll_24, r_X8_moveAll_27, up2_o, up2_e, iN_ap, iN_up, i_ix, i_inb, i_lt, i_lt0, i_0lt, i_eq, i_ne0, i_00, i_11, i_01, i_10, i_b, i_rem2, n_rem, i_add, i_mul, i_sub, i_div, i_max, i_min, rdk_0, rdk_3, kp_none, kp_int, kp_ref, kp_long, kp_double, aK_v, aK_0, aK_ite, if_true, if_false, and_self, and_true, true_and, or_false, false_or, not_true_eq_false, not_false_eq_true, ite_self, ↓reduceIte, Nat.lt_irrefl]
  | p :: rs, i, N, S, hi, hq, hb, h => by
    obtain ⟨e0, hq2⟩ := tl_at hq
    have e : i < n := by simp at hi; omega
    have hp := hb p List.mem_cons_self
    have hl := s_mLay (N := N) (L := L) (c := c) (v := 3) hM (show 91 + 16 * p + 2 < 667 by omega)
    obtain ⟨N', ih, h2, h3⟩ := s_mMv1 (R := R) (B := B) (o := o) hM hn rs (i + 1) (up2 N 145 (91 + 16 * p + 2) 3) _ (by simp at hi; omega) (fun j hj => by rw [up2_o (by omega)]; exact hq2 j hj) (fun x hx => hb x (List.mem_cons_of_mem _ hx)) (MZs_2 h)
    refine ⟨N', ?_, MZs_S h2 (fun x _ => ?_), fun a ha => (h3 a ha).trans (by funext j; exact up2_o (by omega))⟩
    · rw [r_X8_moveAll_7]
      simp (disch := omega) only [r_X8_moveAll_8, r_X8_moveAll_9, r_X8_moveAll_12, r_X8_moveAll_13, r_X8_moveAll_14, r_X8_moveAll_17, r_X8_moveAll_18, r_X8_moveAll_19, r_X8_moveAll_20, r_X8_moveAll_21, r_X8_moveAll_24, r_X8_moveAll_27, hM.1.1, @id (Z.2.2.1 144 0 = .ref 145) hM.1.2.1, @id (Z.2.2.1 144 1 = .ref 146) hM.1.2.2.1, @id (Z.2.2.1 144 2 = .ref 147) hM.1.2.2.2.1, @id (Z.2.2.1 144 3 = .ref 148) hM.1.2.2.2.2.1, @id (Z.2.2.1 144 4 = .ref 149) hM.1.2.2.2.2.2.1, @id (Z.2.2.1 144 5 = .ref 150) hM.1.2.2.2.2.2.2.1, @id (Z.2.2.1 144 6 = .ref 151) hM.1.2.2.2.2.2.2.2, @id (Z.1 145 = 0) hM.2.1.1, @id (Z.1 146 = 0) hM.2.1.2.1, @id (Z.1 147 = 0) hM.2.1.2.2.1, @id (Z.1 148 = 0) hM.2.1.2.2.2.1, @id (Z.1 149 = 0) hM.2.1.2.2.2.2.1, @id (Z.1 150 = 0) hM.2.1.2.2.2.2.2.1, @id (Z.1 151 = 0) hM.2.1.2.2.2.2.2.2, @id (Z.2.1 145 = 667) hM.2.2.1, @id (Z.2.1 146 = 667) hM.2.2.2.1, @id (Z.2.1 147 = 4002) hM.2.2.2.2.1, @id (Z.2.1 148 = 60) hM.2.2.2.2.2.1, @id (Z.2.1 149 = 32) hM.2.2.2.2.2.2.1, @id (Z.2.1 150 = 32) hM.2.2.2.2.2.2.2.1, @id (Z.2.1 151 = 36) hM.2.2.2.2.2.2.2.2, up2_o, up2_e, iN_ap, iN_up, i_ix, i_inb, i_lt, i_lt0, i_0lt, i_eq, i_ne0, i_00, i_11, i_01, i_10, i_b, i_rem2, n_rem, i_add, i_mul, i_sub, i_div, i_max, i_min, rdk_0, rdk_3, kp_none, kp_int, kp_ref, kp_long, kp_double, aK_v, aK_0, aK_ite, if_true, if_false, and_self, and_true, true_and, or_false, false_or, not_true_eq_false, not_false_eq_true, ite_self, ↓reduceIte, e, e0, hl, ih]
    · by_cases z : x ∈ rs
      · rw [if_pos z, if_pos (List.mem_cons_of_mem _ z)]
      · rw [if_neg z]
        by_cases w : x = p
        · rw [if_pos w, if_pos (w ▸ List.mem_cons_self)]
        · rw [if_neg w, if_neg (fun v => (List.mem_cons.mp v).elim w z)]
theorem s_mMv_in {p d n i : Nat} (hM : MAt Z) (hp : p < 36) (hd : d < 2000) (hz : Zb (N 145)) (hr : zRoom (N 145) p d = true) : ∀ (k e : Nat), e + k = d → (∀ x, e ≤ x → x < d → ¬ zRoom (N 145) p x = true) →
    ex 135 69 [some (.ref 144), some (.int (nI n)), some (.int (nI i)), some (.int (nI p)), some (.int (nI e))] [] (Z, iN N, L, c) = ex 135 85 [some (.ref 144), some (.int (nI n)), some (.int (nI i)), some (.int (nI p)), some (.int (nI d))] [] (Z, iN N, L, c)
  | 0, e, he, _ => by
    have ee : e = d := by omega
    subst ee
    rw [r_X8_moveAll_69]
    simp (disch := omega) only [r_X8_moveAll_70, r_X8_moveAll_71, r_X8_moveAll_73, r_X8_moveAll_76, r_X8_moveAll_79, r_X8_moveAll_82, hM.1.1, @id (Z.2.2.1 144 0 = .ref 145) hM.1.2.1, @id (Z.2.2.1 144 1 = .ref 146) hM.1.2.2.1, @id (Z.2.2.1 144 2 = .ref 147) hM.1.2.2.2.1, @id (Z.2.2.1 144 3 = .ref 148) hM.1.2.2.2.2.1, @id (Z.2.2.1 144 4 = .ref 149) hM.1.2.2.2.2.2.1, @id (Z.2.2.1 144 5 = .ref 150) hM.1.2.2.2.2.2.2.1, @id (Z.2.2.1 144 6 = .ref 151) hM.1.2.2.2.2.2.2.2, @id (Z.1 145 = 0) hM.2.1.1, @id (Z.1 146 = 0) hM.2.1.2.1, @id (Z.1 147 = 0) hM.2.1.2.2.1, @id (Z.1 148 = 0) hM.2.1.2.2.2.1, @id (Z.1 149 = 0) hM.2.1.2.2.2.2.1, @id (Z.1 150 = 0) hM.2.1.2.2.2.2.2.1, @id (Z.1 151 = 0) hM.2.1.2.2.2.2.2.2, @id (Z.2.1 145 = 667) hM.2.2.1, @id (Z.2.1 146 = 667) hM.2.2.2.1, @id (Z.2.1 147 = 4002) hM.2.2.2.2.1, @id (Z.2.1 148 = 60) hM.2.2.2.2.2.1, @id (Z.2.1 149 = 32) hM.2.2.2.2.2.2.1, @id (Z.2.1 150 = 32) hM.2.2.2.2.2.2.2.1, @id (Z.2.1 151 = 36) hM.2.2.2.2.2.2.2.2, up2_o, up2_e, iN_ap, iN_up, i_ix, i_inb, i_lt, i_lt0, i_0lt, i_eq, i_ne0, i_00, i_11, i_01, i_10, i_b, i_rem2, n_rem, i_add, i_mul, i_sub, i_div, i_max, i_min, rdk_0, rdk_3, kp_none, kp_int, kp_ref, kp_long, kp_double, aK_v, aK_0, aK_ite, if_true, if_false, and_self, and_true, true_and, or_false, false_or, not_true_eq_false, not_false_eq_true, ite_self, ↓reduceIte, s_mHasRoom hM hp (show e < 2147483648 by omega) hz, hr]
  | k + 1, e, he, hno => by
    have h1 := hno e (Nat.le_refl _) (by omega)
    have ih := s_mMv_in (n := n) (i := i) hM hp hd hz hr k (e + 1) (by omega) (fun x hx => hno x (by omega))
    rw [r_X8_moveAll_69]
    simp (disch := omega) only [r_X8_moveAll_70, r_X8_moveAll_71, r_X8_moveAll_73, r_X8_moveAll_76, r_X8_moveAll_79, r_X8_moveAll_82, hM.1.1, @id (Z.2.2.1 144 0 = .ref 145) hM.1.2.1, @id (Z.2.2.1 144 1 = .ref 146) hM.1.2.2.1, @id (Z.2.2.1 144 2 = .ref 147) hM.1.2.2.2.1, @id (Z.2.2.1 144 3 = .ref 148) hM.1.2.2.2.2.1, @id (Z.2.2.1 144 4 = .ref 149) hM.1.2.2.2.2.2.1, @id (Z.2.2.1 144 5 = .ref 150) hM.1.2.2.2.2.2.2.1, @id (Z.2.2.1 144 6 = .ref 151) hM.1.2.2.2.2.2.2.2, @id (Z.1 145 = 0) hM.2.1.1, @id (Z.1 146 = 0) hM.2.1.2.1, @id (Z.1 147 = 0) hM.2.1.2.2.1, @id (Z.1 148 = 0) hM.2.1.2.2.2.1, @id (Z.1 149 = 0) hM.2.1.2.2.2.2.1, @id (Z.1 150 = 0) hM.2.1.2.2.2.2.2.1, @id (Z.1 151 = 0) hM.2.1.2.2.2.2.2.2, @id (Z.2.1 145 = 667) hM.2.2.1, @id (Z.2.1 146 = 667) hM.2.2.2.1, @id (Z.2.1 147 = 4002) hM.2.2.2.2.1, @id (Z.2.1 148 = 60) hM.2.2.2.2.2.1, @id (Z.2.1 149 = 32) hM.2.2.2.2.2.2.1, @id (Z.2.1 150 = 32) hM.2.2.2.2.2.2.2.1, @id (Z.2.1 151 = 36) hM.2.2.2.2.2.2.2.2, up2_o, up2_e, iN_ap, iN_up, i_ix, i_inb, i_lt, i_lt0, i_0lt, i_eq, i_ne0, i_00, i_11, i_01, i_10, i_b, i_rem2, n_rem, i_add, i_mul, i_sub, i_div, i_max, i_min, rdk_0, rdk_3, kp_none, kp_int, kp_ref, kp_long, kp_double, aK_v, aK_0, aK_ite, if_true, if_false, and_self, and_true, true_and, or_false, false_or, not_true_eq_false, not_false_eq_true, ite_self, ↓reduceIte, s_mHasRoom hM hp (show e < 2147483648 by omega) hz, h1, Bool.false_eq_true, ih]
theorem s_mMv2 {n : Nat} {B : Nat → Nat} {o : Nat} {q : List Nat} (hM : MAt Z) (hn : n ≤ 36) (hB : (∀ m, m < 36 → B m ≤ o) ∧ o ≤ 1000) : ∀ (rs l : List Nat) (i : Nat) (N : Nat → Nat → Nat) (R : aY) (a3 a4 : Option Value), i + rs.length = n → (∀ j (h : j < rs.length), N 151 (i + j) = rs[j]) → rs.Nodup → l.Nodup → (∀ x, x ∈ q ↔ x ∈ l ∨ x ∈ rs) → (∀ x ∈ l, x ∉ rs) → (∀ x ∈ q, x < 36 ∧ x % 6 < R 4 (x / 6)) → (∀ x, x < 36 → (stg R x = 1 ↔ x ∈ q)) → WFz R → MZs (N 145) R (fun x => if x ∈ rs then 3 else stg R x) B o → aOK rs l R →
    ∃ N', ex 135 32 [some (.ref 144), some (.int (nI n)), some (.int (nI i)), a3, a4] [] (Z, iN N, L, c) = some (.inl none, (Z, iN N', L, c)) ∧ MZ (N' 145) (aMvL rs l R) B o ∧ ∀ a, a ≠ 145 → N' a = N a
  | [], l, i, N, R, a3, a4, hi, _, _, _, _, _, _, _, _, h, _ => by
    have e : i = n := by simpa using hi
    subst e
    refine ⟨N, ?_, MZs_S h (fun x _ => by simp [aMvL]), fun _ _ => rfl⟩
    simp (disch := omega) only [r_X8_moveAll_0, r_X8_moveAll_1, r_X8_moveAll_4, r_X8_moveAll_5, r_X8_moveAll_6, r_X8_moveAll_7, r_X8_moveAll_8, r_X8_moveAll_9, r_X8_moveAll_12, r_X8_moveAll_13, r_X8_moveAll_14, r_X8_moveAll_17, r_X8_moveAll_18, r_X8_moveAll_19, r_X8_moveAll_20, r_X8_moveAll_21, r_X8_moveAll_24, r_X8_moveAll_27, r_X8_moveAll_30, r_X8_moveAll_31, r_X8_moveAll_32, r_X8_moveAll_33, r_X8_moveAll_34, r_X8_moveAll_37, r_X8_moveAll_38, r_X8_moveAll_41, r_X8_moveAll_42, r_X8_moveAll_43, r_X8_moveAll_44, r_X8_moveAll_45, r_X8_moveAll_46, r_X8_moveAll_47, r_X8_moveAll_50, r_X8_moveAll_51, r_X8_moveAll_54, r_X8_moveAll_55, r_X8_moveAll_56, r_X8_moveAll_59, r_X8_moveAll_60, r_X8_moveAll_61, r_X8_moveAll_64, r_X8_moveAll_67, r_X8_moveAll_69, r_X8_moveAll_70, r_X8_moveAll_71, r_X8_moveAll_73, r_X8_moveAll_76, r_X8_moveAll_79, r_X8_moveAll_82, r_X8_moveAll_85, r_X8_moveAll_86, r_X8_moveAll_87, r_X8_moveAll_89, r_X8_moveAll_90, r_X8_moveAll_91, r_X8_moveAll_93, r_X8_moveAll_96, r_X8_moveAll_98, r_X8_moveAll_99, r_X8_moveAll_100, r_X8_moveAll_101, r_X8_moveAll_104, r_X8_moveAll_107, r_X8_moveAll_108, r_X8_moveAll_111, r_X8_moveAll_112, r_X8_moveAll_113, r_X8_moveAll_116, r_X8_moveAll_117, r_X8_moveAll_118, r_X8_moveAll_119, r_X8_moveAll_121, r_X8_moveAll_124, r_X8_moveAll_125, r_X8_moveAll_126, r_X8_moveAll_127, r_X8_moveAll_128, r_X8_moveAll_131, r_X8_moveAll_134, r_X8_moveAll_137, up2_o, up2_e, iN_ap, iN_up, i_ix, i_inb, i_lt, i_lt0, i_0lt, i_eq, i_ne0, i_00, i_11, i_01, i_10, i_b, i_rem2, n_rem, i_add, i_mul, i_sub, i_div, i_max, i_min, rdk_0, rdk_3, kp_none, kp_int, kp_ref, kp_long, kp_double, aK_v, aK_0, aK_ite, if_true, if_false, and_self, and_true, true_and, or_false, false_or, not_true_eq_false, not_false_eq_true, ite_self, ↓reduceIte, Nat.lt_irrefl]
  | p :: rs, l, i, N, R, a3, a4, hi, hq, hnd, hln, hql, hlr, hqb, hst, hw, h, hok => by
    obtain ⟨e0, hq2⟩ := tl_at hq
    have e : i < n := by simp at hi; omega
    obtain ⟨n1, n2⟩ := List.nodup_cons.mp hnd
    have hpq : p ∈ q := (hql p).mpr (Or.inr List.mem_cons_self)
    obtain ⟨hp, hp4⟩ := hqb p hpq
    have hpl : p ∉ l := fun z => hlr p z List.mem_cons_self
    obtain ⟨⟨o1, o2⟩, hok2⟩ := hok
    have hz : Zb (N 145) := MZs_Zb2 h hw (fun m _ => by
      split
      · omega
      · have := stg_le (R := R) (m := m); omega) hB
    have h0 : N 145 0 ≤ 6 := hz.1.1
    have hS : ∀ x, x < 36 → ((if x ∈ p :: rs then 3 else stg R x) = 1 ↔ x ∈ l) := fun x hx => by
      by_cases z : x ∈ p :: rs
      · rw [if_pos z]
        exact ⟨fun w => by omega, fun w => absurd z (hlr x w)⟩
      · rw [if_neg z, hst x hx, hql x]
        exact ⟨fun w => w.elim id (fun w => absurd w z), Or.inl⟩
    have hcn := zBk_cnt h hw.2.1 (fun x hx => hqb x ((hql x).mpr (Or.inl hx))) hln hS h0
    have f3 : zo (N 145) p 3 = R 8 p := by
      rw [(h.2.2.2.2.2.1 p hp).2.2.2.1]
      unfold zOn
      rw [if_neg (by omega)]
    have f0 : zo (N 145) p 0 = R 6 p := (h.2.2.2.2.2.1 p hp).1
    have hday : N 145 1 = R 0 0 := h.1.2.1
    have hah : zAh (N 145) p = if p % 6 = 0 then 0 else R 8 (p - 1) := by
      unfold zAh
      split
      · rfl
      · rw [(h.2.2.2.2.2.1 (p - 1) (by omega)).2.2.2.1]
        unfold zOn
        rw [if_neg (by rw [show (p - 1) / 6 = p / 6 by omega]; omega)]
    have hroom : ∀ d, zRoom (N 145) p d = true ↔ cnt R l d < R 2 0 ∧ wgt R l d + R 6 p ≤ R 2 1 := fun d => by
      rw [zRoom_iff, (hcn d).1, (hcn d).2, f0, h.2.2.1 0 (by omega), h.2.2.1 1 (by omega)]
    obtain ⟨g1, g2, g3⟩ := aOpen_iff.mp o2
    have hge : max (R 8 p) (R 0 0) ≤ aFo R l p := aFX_ge _ _
    have hno : ∀ x, max (R 8 p) (R 0 0) ≤ x → x < aFo R l p → ¬ aOpen R l p x = true := fun x h1 h2 => aFX_no _ _ x h1 h2
    have hz3 := (hz.2.2.2.2.1 p hp).2.2.2.1
    have hzd := hz.1.2.1
    have hza := zAh_lt hz hp
    obtain ⟨e1, he1⟩ : ∃ e1, e1 = if N 145 1 < zo (N 145) p 3 then zo (N 145) p 3 else N 145 1 := ⟨_, rfl⟩
    obtain ⟨e2, he2⟩ : ∃ e2, e2 = if zAh (N 145) p < e1 then e1 else zAh (N 145) p := ⟨_, rfl⟩
    have hb1 : e1 < 2147483648 := by rw [he1]; split <;> omega
    have he1m : e1 = max (R 8 p) (R 0 0) := by
      rw [he1, f3, hday]
      split <;> omega
    have hahd : zAh (N 145) p ≤ aFo R l p := by
      rw [hah]
      split
      · omega
      · omega
    have he2d : e2 ≤ aFo R l p := by
      rw [he2]
      split <;> omega
    have he2g : e1 ≤ e2 ∧ zAh (N 145) p ≤ e2 := by
      rw [he2]
      split <;> omega
    have hm1 := s_mMore (a := zo (N 145) p 3) (b := N 145 1) (h := (Z, iN N, L, c)) (by omega) (by omega)
    rw [← he1] at hm1
    have hm2 := s_mMore (a := e1) (b := zAh (N 145) p) (h := (Z, iN N, L, c)) hb1 (by omega)
    rw [← he2] at hm2
    have hin := s_mMv_in (L := L) (c := c) (n := n) (i := i) hM hp (show aFo R l p < 2000 by omega) hz ((hroom _).mpr ⟨g2, g3⟩) (aFo R l p - e2) e2 (by omega) (fun x h1 h2 hr => by
      refine hno x (by omega) h2 (aOpen_iff.mpr ⟨?_, (hroom x).mp hr⟩)
      rw [hah] at he2g
      by_cases z : p % 6 = 0
      · exact Or.inl (by omega)
      · rw [if_neg z] at he2g
        exact Or.inr (by omega))
    have hof3 := s_mOf (N := N) (L := L) (c := c) hM (show 91 + 16 * p + 3 < 667 by omega)
    have hof6 := s_mOf (N := N) (L := L) (c := c) hM (show 91 + 16 * p + 6 < 667 by omega)
    have hl6 := fun v => s_mLay (N := N) (L := L) (c := c) (v := v) hM (show 91 + 16 * p + 6 < 667 by omega)
    have hl3 := fun N1 => s_mLay (N := N1) (L := L) (c := c) (v := aFo R l p) hM (show 91 + 16 * p + 3 < 667 by omega)
    have hl2 := fun N1 => s_mLay (N := N1) (L := L) (c := c) (v := 1) hM (show 91 + 16 * p + 2 < 667 by omega)
    have hda := s_mDayAhead (N := N) (L := L) (c := c) hM hp
    have hr4 : ∀ i, aMv R p (aFo R l p) 4 i = R 4 i := fun i => aMv_o (by omega) (by omega)
    have hr5 : ∀ i, aMv R p (aFo R l p) 5 i = R 5 i := fun i => aMv_o (by omega) (by omega)
    have hstg : ∀ x, stg (aMv R p (aFo R l p)) x = stg R x := fun x => by
      unfold stg
      rw [hr4, hr5]
    have hW := MZs_mv (d := aFo R l p) h hp hp4
    have hWr : ∀ a, a ≠ 145 → mvW N p (aFo R l p) a = N a := fun a ha => by
      funext j
      unfold mvW
      rw [up2_o (by omega), up2_o (by omega), up2_o (by omega)]
    obtain ⟨N', ih, h2, h3⟩ := s_mMv2 (q := q) hM hn hB rs (p :: l) (i + 1) (mvW N p (aFo R l p)) (aMv R p (aFo R l p)) (some (.int (nI p))) (some (.int (nI (aFo R l p)))) (by simp at hi; omega) (fun j hj => by rw [hWr 151 (by omega)]; exact hq2 j hj) n2 (List.nodup_cons.mpr ⟨hpl, hln⟩) (fun x => by
      rw [hql x, List.mem_cons, List.mem_cons]
      exact ⟨fun h => h.elim (fun h => Or.inl (Or.inr h)) (fun h => h.elim (fun h => Or.inl (Or.inl h)) Or.inr), fun h => h.elim (fun h => h.elim (fun h => Or.inr (Or.inl h)) Or.inl) (fun h => Or.inr (Or.inr h))⟩) (fun x hx hxr => by
      rcases List.mem_cons.mp hx with w | w
      · exact n1 (w ▸ hxr)
      · exact hlr x w (List.mem_cons_of_mem _ hxr)) (fun x hx => by rw [hr4]; exact hqb x hx) (fun x hx => by rw [hstg]; exact hst x hx) (WFz_mv hw o1) (MZs_S hW (fun x hx => by
      rw [hstg]
      by_cases z : x = p
      · subst z
        rw [if_neg n1, if_pos rfl]
        exact (hst x hx).mpr hpq
      · rw [if_neg z]
        by_cases w : x ∈ rs
        · rw [if_pos w, if_pos (List.mem_cons_of_mem _ w)]
        · rw [if_neg w, if_neg (fun v => (List.mem_cons.mp v).elim z w)])) hok2
    refine ⟨N', ?_, h2, fun a ha => (h3 a ha).trans (hWr a ha)⟩
    unfold mvW at ih
    rw [r_X8_moveAll_32]
    by_cases z : aFo R l p = zo (N 145) p 3
    · rw [if_pos z] at ih
      have z2 : (nI (aFo R l p) = nI (zo (N 145) p 3)) = True := eq_true (by rw [z])
      simp (disch := omega) only [r_X8_moveAll_33, r_X8_moveAll_34, r_X8_moveAll_37, r_X8_moveAll_38, r_X8_moveAll_41, r_X8_moveAll_42, r_X8_moveAll_43, r_X8_moveAll_44, r_X8_moveAll_45, r_X8_moveAll_46, r_X8_moveAll_47, r_X8_moveAll_50, r_X8_moveAll_51, r_X8_moveAll_54, r_X8_moveAll_55, r_X8_moveAll_56, r_X8_moveAll_59, r_X8_moveAll_60, r_X8_moveAll_61, r_X8_moveAll_64, r_X8_moveAll_67, hM.1.1, @id (Z.2.2.1 144 0 = .ref 145) hM.1.2.1, @id (Z.2.2.1 144 1 = .ref 146) hM.1.2.2.1, @id (Z.2.2.1 144 2 = .ref 147) hM.1.2.2.2.1, @id (Z.2.2.1 144 3 = .ref 148) hM.1.2.2.2.2.1, @id (Z.2.2.1 144 4 = .ref 149) hM.1.2.2.2.2.2.1, @id (Z.2.2.1 144 5 = .ref 150) hM.1.2.2.2.2.2.2.1, @id (Z.2.2.1 144 6 = .ref 151) hM.1.2.2.2.2.2.2.2, @id (Z.1 145 = 0) hM.2.1.1, @id (Z.1 146 = 0) hM.2.1.2.1, @id (Z.1 147 = 0) hM.2.1.2.2.1, @id (Z.1 148 = 0) hM.2.1.2.2.2.1, @id (Z.1 149 = 0) hM.2.1.2.2.2.2.1, @id (Z.1 150 = 0) hM.2.1.2.2.2.2.2.1, @id (Z.1 151 = 0) hM.2.1.2.2.2.2.2.2, @id (Z.2.1 145 = 667) hM.2.2.1, @id (Z.2.1 146 = 667) hM.2.2.2.1, @id (Z.2.1 147 = 4002) hM.2.2.2.2.1, @id (Z.2.1 148 = 60) hM.2.2.2.2.2.1, @id (Z.2.1 149 = 32) hM.2.2.2.2.2.2.1, @id (Z.2.1 150 = 32) hM.2.2.2.2.2.2.2.1, @id (Z.2.1 151 = 36) hM.2.2.2.2.2.2.2.2, up2_o, up2_e, iN_ap, iN_up, i_ix, i_inb, i_lt, i_lt0, i_0lt, i_eq, i_ne0, i_00, i_11, i_01, i_10, i_b, i_rem2, n_rem, i_add, i_mul, i_sub, i_div, i_max, i_min, rdk_0, rdk_3, kp_none, kp_int, kp_ref, kp_long, kp_double, aK_v, aK_0, aK_ite, if_true, if_false, and_self, and_true, true_and, or_false, false_or, not_true_eq_false, not_false_eq_true, ite_self, ↓reduceIte, e, e0, hof3, hm1, hda, hm2, hin]
      simp (disch := omega) only [r_X8_moveAll_85, r_X8_moveAll_86, r_X8_moveAll_87, r_X8_moveAll_89, r_X8_moveAll_90, r_X8_moveAll_91, r_X8_moveAll_93, r_X8_moveAll_96, r_X8_moveAll_98, r_X8_moveAll_99, r_X8_moveAll_100, r_X8_moveAll_101, r_X8_moveAll_104, r_X8_moveAll_107, r_X8_moveAll_108, r_X8_moveAll_111, r_X8_moveAll_112, r_X8_moveAll_113, r_X8_moveAll_116, r_X8_moveAll_117, r_X8_moveAll_118, r_X8_moveAll_119, r_X8_moveAll_121, r_X8_moveAll_124, r_X8_moveAll_125, r_X8_moveAll_126, r_X8_moveAll_127, r_X8_moveAll_128, r_X8_moveAll_131, r_X8_moveAll_134, hM.1.1, @id (Z.2.2.1 144 0 = .ref 145) hM.1.2.1, @id (Z.2.2.1 144 1 = .ref 146) hM.1.2.2.1, @id (Z.2.2.1 144 2 = .ref 147) hM.1.2.2.2.1, @id (Z.2.2.1 144 3 = .ref 148) hM.1.2.2.2.2.1, @id (Z.2.2.1 144 4 = .ref 149) hM.1.2.2.2.2.2.1, @id (Z.2.2.1 144 5 = .ref 150) hM.1.2.2.2.2.2.2.1, @id (Z.2.2.1 144 6 = .ref 151) hM.1.2.2.2.2.2.2.2, @id (Z.1 145 = 0) hM.2.1.1, @id (Z.1 146 = 0) hM.2.1.2.1, @id (Z.1 147 = 0) hM.2.1.2.2.1, @id (Z.1 148 = 0) hM.2.1.2.2.2.1, @id (Z.1 149 = 0) hM.2.1.2.2.2.2.1, @id (Z.1 150 = 0) hM.2.1.2.2.2.2.2.1, @id (Z.1 151 = 0) hM.2.1.2.2.2.2.2.2, @id (Z.2.1 145 = 667) hM.2.2.1, @id (Z.2.1 146 = 667) hM.2.2.2.1, @id (Z.2.1 147 = 4002) hM.2.2.2.2.1, @id (Z.2.1 148 = 60) hM.2.2.2.2.2.1, @id (Z.2.1 149 = 32) hM.2.2.2.2.2.2.1, @id (Z.2.1 150 = 32) hM.2.2.2.2.2.2.2.1, @id (Z.2.1 151 = 36) hM.2.2.2.2.2.2.2.2, up2_o, up2_e, iN_ap, iN_up, i_ix, i_inb, i_lt, i_lt0, i_0lt, i_eq, i_ne0, i_00, i_11, i_01, i_10, i_b, i_rem2, n_rem, i_add, i_mul, i_sub, i_div, i_max, i_min, rdk_0, rdk_3, kp_none, kp_int, kp_ref, kp_long, kp_double, aK_v, aK_0, aK_ite, if_true, if_false, and_self, and_true, true_and, or_false, false_or, not_true_eq_false, not_false_eq_true, ite_self, ↓reduceIte, hof3, hof6, z2, hl6, hl3, hl2, ih]
    · rw [if_neg z] at ih
      have z2 : (nI (aFo R l p) = nI (zo (N 145) p 3)) = False := by rw [i_eq (by omega) (by omega)]; exact eq_false z
      simp (disch := omega) only [r_X8_moveAll_33, r_X8_moveAll_34, r_X8_moveAll_37, r_X8_moveAll_38, r_X8_moveAll_41, r_X8_moveAll_42, r_X8_moveAll_43, r_X8_moveAll_44, r_X8_moveAll_45, r_X8_moveAll_46, r_X8_moveAll_47, r_X8_moveAll_50, r_X8_moveAll_51, r_X8_moveAll_54, r_X8_moveAll_55, r_X8_moveAll_56, r_X8_moveAll_59, r_X8_moveAll_60, r_X8_moveAll_61, r_X8_moveAll_64, r_X8_moveAll_67, hM.1.1, @id (Z.2.2.1 144 0 = .ref 145) hM.1.2.1, @id (Z.2.2.1 144 1 = .ref 146) hM.1.2.2.1, @id (Z.2.2.1 144 2 = .ref 147) hM.1.2.2.2.1, @id (Z.2.2.1 144 3 = .ref 148) hM.1.2.2.2.2.1, @id (Z.2.2.1 144 4 = .ref 149) hM.1.2.2.2.2.2.1, @id (Z.2.2.1 144 5 = .ref 150) hM.1.2.2.2.2.2.2.1, @id (Z.2.2.1 144 6 = .ref 151) hM.1.2.2.2.2.2.2.2, @id (Z.1 145 = 0) hM.2.1.1, @id (Z.1 146 = 0) hM.2.1.2.1, @id (Z.1 147 = 0) hM.2.1.2.2.1, @id (Z.1 148 = 0) hM.2.1.2.2.2.1, @id (Z.1 149 = 0) hM.2.1.2.2.2.2.1, @id (Z.1 150 = 0) hM.2.1.2.2.2.2.2.1, @id (Z.1 151 = 0) hM.2.1.2.2.2.2.2.2, @id (Z.2.1 145 = 667) hM.2.2.1, @id (Z.2.1 146 = 667) hM.2.2.2.1, @id (Z.2.1 147 = 4002) hM.2.2.2.2.1, @id (Z.2.1 148 = 60) hM.2.2.2.2.2.1, @id (Z.2.1 149 = 32) hM.2.2.2.2.2.2.1, @id (Z.2.1 150 = 32) hM.2.2.2.2.2.2.2.1, @id (Z.2.1 151 = 36) hM.2.2.2.2.2.2.2.2, up2_o, up2_e, iN_ap, iN_up, i_ix, i_inb, i_lt, i_lt0, i_0lt, i_eq, i_ne0, i_00, i_11, i_01, i_10, i_b, i_rem2, n_rem, i_add, i_mul, i_sub, i_div, i_max, i_min, rdk_0, rdk_3, kp_none, kp_int, kp_ref, kp_long, kp_double, aK_v, aK_0, aK_ite, if_true, if_false, and_self, and_true, true_and, or_false, false_or, not_true_eq_false, not_false_eq_true, ite_self, ↓reduceIte, e, e0, hof3, hm1, hda, hm2, hin]
      simp (disch := omega) only [r_X8_moveAll_85, r_X8_moveAll_86, r_X8_moveAll_87, r_X8_moveAll_89, r_X8_moveAll_90, r_X8_moveAll_91, r_X8_moveAll_93, r_X8_moveAll_96, r_X8_moveAll_98, r_X8_moveAll_99, r_X8_moveAll_100, r_X8_moveAll_101, r_X8_moveAll_104, r_X8_moveAll_107, r_X8_moveAll_108, r_X8_moveAll_111, r_X8_moveAll_112, r_X8_moveAll_113, r_X8_moveAll_116, r_X8_moveAll_117, r_X8_moveAll_118, r_X8_moveAll_119, r_X8_moveAll_121, r_X8_moveAll_124, r_X8_moveAll_125, r_X8_moveAll_126, r_X8_moveAll_127, r_X8_moveAll_128, r_X8_moveAll_131, r_X8_moveAll_134, hM.1.1, @id (Z.2.2.1 144 0 = .ref 145) hM.1.2.1, @id (Z.2.2.1 144 1 = .ref 146) hM.1.2.2.1, @id (Z.2.2.1 144 2 = .ref 147) hM.1.2.2.2.1, @id (Z.2.2.1 144 3 = .ref 148) hM.1.2.2.2.2.1, @id (Z.2.2.1 144 4 = .ref 149) hM.1.2.2.2.2.2.1, @id (Z.2.2.1 144 5 = .ref 150) hM.1.2.2.2.2.2.2.1, @id (Z.2.2.1 144 6 = .ref 151) hM.1.2.2.2.2.2.2.2, @id (Z.1 145 = 0) hM.2.1.1, @id (Z.1 146 = 0) hM.2.1.2.1, @id (Z.1 147 = 0) hM.2.1.2.2.1, @id (Z.1 148 = 0) hM.2.1.2.2.2.1, @id (Z.1 149 = 0) hM.2.1.2.2.2.2.1, @id (Z.1 150 = 0) hM.2.1.2.2.2.2.2.1, @id (Z.1 151 = 0) hM.2.1.2.2.2.2.2.2, @id (Z.2.1 145 = 667) hM.2.2.1, @id (Z.2.1 146 = 667) hM.2.2.2.1, @id (Z.2.1 147 = 4002) hM.2.2.2.2.1, @id (Z.2.1 148 = 60) hM.2.2.2.2.2.1, @id (Z.2.1 149 = 32) hM.2.2.2.2.2.2.1, @id (Z.2.1 150 = 32) hM.2.2.2.2.2.2.2.1, @id (Z.2.1 151 = 36) hM.2.2.2.2.2.2.2.2, up2_o, up2_e, iN_ap, iN_up, i_ix, i_inb, i_lt, i_lt0, i_0lt, i_eq, i_ne0, i_00, i_11, i_01, i_10, i_b, i_rem2, n_rem, i_add, i_mul, i_sub, i_div, i_max, i_min, rdk_0, rdk_3, kp_none, kp_int, kp_ref, kp_long, kp_double, aK_v, aK_0, aK_ite, if_true, if_false, and_self, and_true, true_and, or_false, false_or, not_true_eq_false, not_false_eq_true, ite_self, ↓reduceIte, hof3, hof6, z2, hl6, hl3, hl2, ih]
theorem s_mMoveAll {R : aY} {q : List Nat} {B : Nat → Nat} {o : Nat} (hM : MAt Z) (h : MZ (N 145) R B o) (hw : WF R q) (hb : BK q B o) (ht : R 0 0 ≤ 1300) (hok : aOK (aT (R 8) q) [] R) :
    ∃ N', ex 135 0 [some (.ref 144), none, none, none, none] [] (Z, iN N, L, c) = some (.inl none, (Z, iN N', L, c)) ∧ MZ (N' 145) (aMvL (aT (R 8) q) [] R) B o ∧ ∀ a, a ≠ 145 → a ≠ 151 → N' a = N a := by
  have hz : Zb (N 145) := MZs_Zb h hw (fun m _ => by have := stg_le (R := R) (m := m); omega) hb ht
  obtain ⟨N1, l1, l2, l3⟩ := s_mLayOrder (L := L) (c := c) hM hz
  have hT := lfB_T h hw hb
  have hlen : (lfB (N 145) (6 * N 145 0) 0 []).length = q.length := by rw [← List.length_reverse, hT, aT_len]
  rw [hT] at l2
  rw [hlen] at l1
  have hx : ∀ x ∈ q, x < 36 := fun x hx => ((hw.2.2.2.2.2.2.1 x).mp hx).1
  obtain ⟨N2, k1, k2, k3⟩ := s_mMv1 (L := L) (c := c) hM (WF_len hw) (aT (R 8) q) 0 N1 (stg R) (by rw [aT_len]; omega) (fun j hj => by rw [Nat.zero_add]; exact l2 j _ (List.getElem?_eq_getElem hj)) (fun x hxx => hx x (aT_mem.mp hxx)) (by rw [l3 145 (by omega)]; exact h)
  obtain ⟨N3, j1, j2, j3⟩ := s_mMv2 (L := L) (c := c) (q := q) hM (WF_len hw) ⟨hb.2.1, hb.2.2.2⟩ (aT (R 8) q) [] 0 N2 R none none (by rw [aT_len]; omega) (fun j hj => by rw [Nat.zero_add, k3 151 (by omega)]; exact l2 j _ (List.getElem?_eq_getElem hj)) (aT_nd hw.2.2.2.2.2.1) List.nodup_nil (fun x => by rw [aT_mem]; simp) (fun x hx => by simp at hx) (fun x hxx => by have := (hw.2.2.2.2.2.2.1 x).mp hxx; exact ⟨this.1, this.2.2⟩) (fun x hxx => stg_1 hw hxx) (WF_z hw ht) k2 hok
  refine ⟨N3, ?_, j2, fun a h1 h2 => by rw [j3 a h1, k3 a h1, l3 a h2]⟩
  simp (disch := omega) only [r_X8_moveAll_0, r_X8_moveAll_1, r_X8_moveAll_4, r_X8_moveAll_5, r_X8_moveAll_6, hM.1.1, @id (Z.2.2.1 144 0 = .ref 145) hM.1.2.1, @id (Z.2.2.1 144 1 = .ref 146) hM.1.2.2.1, @id (Z.2.2.1 144 2 = .ref 147) hM.1.2.2.2.1, @id (Z.2.2.1 144 3 = .ref 148) hM.1.2.2.2.2.1, @id (Z.2.2.1 144 4 = .ref 149) hM.1.2.2.2.2.2.1, @id (Z.2.2.1 144 5 = .ref 150) hM.1.2.2.2.2.2.2.1, @id (Z.2.2.1 144 6 = .ref 151) hM.1.2.2.2.2.2.2.2, @id (Z.1 145 = 0) hM.2.1.1, @id (Z.1 146 = 0) hM.2.1.2.1, @id (Z.1 147 = 0) hM.2.1.2.2.1, @id (Z.1 148 = 0) hM.2.1.2.2.2.1, @id (Z.1 149 = 0) hM.2.1.2.2.2.2.1, @id (Z.1 150 = 0) hM.2.1.2.2.2.2.2.1, @id (Z.1 151 = 0) hM.2.1.2.2.2.2.2.2, @id (Z.2.1 145 = 667) hM.2.2.1, @id (Z.2.1 146 = 667) hM.2.2.2.1, @id (Z.2.1 147 = 4002) hM.2.2.2.2.1, @id (Z.2.1 148 = 60) hM.2.2.2.2.2.1, @id (Z.2.1 149 = 32) hM.2.2.2.2.2.2.1, @id (Z.2.1 150 = 32) hM.2.2.2.2.2.2.2.1, @id (Z.2.1 151 = 36) hM.2.2.2.2.2.2.2.2, up2_o, up2_e, iN_ap, iN_up, i_ix, i_inb, i_lt, i_lt0, i_0lt, i_eq, i_ne0, i_00, i_11, i_01, i_10, i_b, i_rem2, n_rem, i_add, i_mul, i_sub, i_div, i_max, i_min, rdk_0, rdk_3, kp_none, kp_int, kp_ref, kp_long, kp_double, aK_v, aK_0, aK_ite, if_true, if_false, and_self, and_true, true_and, or_false, false_or, not_true_eq_false, not_false_eq_true, ite_self, ↓reduceIte, l1, k1]
  simp (disch := omega) only [r_X8_moveAll_30, r_X8_moveAll_31, up2_o, up2_e, iN_ap, iN_up, i_ix, i_inb, i_lt, i_lt0, i_0lt, i_eq, i_ne0, i_00, i_11, i_01, i_10, i_b, i_rem2, n_rem, i_add, i_mul, i_sub, i_div, i_max, i_min, rdk_0, rdk_3, kp_none, kp_int, kp_ref, kp_long, kp_double, aK_v, aK_0, aK_ite, if_true, if_false, and_self, and_true, true_and, or_false, false_or, not_true_eq_false, not_false_eq_true, ite_self, ↓reduceIte, j1]
end Mm
