/-! the class: a day passes in a yard as the function says -/
theorem foX_eq {N : Nat → Nat → Nat} {s y p : Nat} {R : aY} {l : List Nat} (h : ∀ d, d < 1400 → sOpen N s y p d = aOpen R l p d) : ∀ (k e : Nat), e + k ≤ 1400 → foX N s y p k e = aFX R l p k e
  | 0, _, _ => rfl
  | k + 1, e, he => by
    unfold foX aFX
    rw [h e (by omega), foX_eq h k (e + 1) (by omega)]
theorem mvS_rg {N : Nat → Nat → Nat} {s y p : Nat} (hd : s + 4 < y ∨ y + 15 < s) (hp : p < 36) : rg (mvS N s y p) y = aMv (rg N y) p (foD N s y p) := by
  have e8 : rg N y 8 p = N (y + 8) p := rg_at (n := 36) rfl hp
  have e11 : rg N y 11 p = N (y + 11) p := rg_at (n := 36) rfl hp
  unfold mvS aMv
  rw [rg_congr (fun k i hk _ => sPut_o (by omega)), e8, e11]
  split
  · rfl
  · rw [rg_up (n := 36) rfl hp, rg_up (n := 36) rfl hp]
theorem cnt_mv {R : aY} {p d e : Nat} {l : List Nat} (hp : p ∉ l) : cnt (aMv R p d) (p :: l) e = (if d = e then 1 else 0) + cnt R l e := by
  show (if aMv R p d 8 p = e then 1 else 0) + sumL _ l = _
  rw [aMv_8, if_pos rfl]
  congr 1
  refine sumL_congr l (fun x hx => ?_)
  rw [aMv_8, if_neg (fun z : x = p => hp (z ▸ hx))]
theorem wgt_mv {R : aY} {p d e : Nat} {l : List Nat} (hp : p ∉ l) : wgt (aMv R p d) (p :: l) e = (if d = e then R 6 p else 0) + wgt R l e := by
  show (if aMv R p d 8 p = e then aMv R p d 6 p else 0) + sumL _ l = _
  rw [aMv_8, if_pos rfl, aMv_o (by omega) (by omega)]
  congr 1
  refine sumL_congr l (fun x hx => ?_)
  rw [aMv_8, if_neg (fun z : x = p => hp (z ▸ hx)), aMv_o (by omega) (by omega)]
theorem mvX_rg {s y : Nat} (hd : s + 4 < y ∨ y + 15 < s) : ∀ (rs l : List Nat) (N : Nat → Nat → Nat), (∀ d, d < 1400 → N (s + 1) d = cnt (rg N y) l d ∧ N (s + 2) d = wgt (rg N y) l d) → N s 3 = l.length → l.length + rs.length ≤ 36 → (∀ x ∈ rs, x < 36 ∧ x ∉ l) → rs.Nodup → (∀ x, x < 36 → N (y + 8) x < 4294967296) → N y 0 ≤ 1400 → (∀ x ∈ rs, N (y + 8) x ≤ 1400) → SH N s → aOK rs l (rg N y) →
    mvOK s y rs N ∧ rg (mvX s y rs N) y = aMvL rs l (rg N y) ∧ SH (mvX s y rs N) s ∧ ∀ a j, (a < s ∨ s + 3 < a) → a ≠ y + 8 → a ≠ y + 11 → mvX s y rs N a j = N a j
  | [], l, N, _, _, _, _, _, _, _, _, hsh, _ => ⟨trivial, rfl, hsh, fun _ _ _ _ _ => rfl⟩
  | p :: rs, l, N, hsl, h3, hlen, hx, hnd, hb, ht, ho8, hsh, hok => by
    obtain ⟨hp, hpl⟩ := hx p List.mem_cons_self
    obtain ⟨n1, n2⟩ := List.nodup_cons.mp hnd
    obtain ⟨⟨o1, o2⟩, hok2⟩ := hok
    have hp8 := ho8 p List.mem_cons_self
    have e8 : rg N y 8 p = N (y + 8) p := rg_at (n := 36) rfl hp
    have e00 : rg N y 0 0 = N y 0 := rg_at0 (by omega)
    have hop : ∀ d, d < 1400 → sOpen N s y p d = aOpen (rg N y) l p d := fun d hdd => by
      unfold sOpen aOpen
      rw [(hsl d hdd).1, (hsl d hdd).2, rg_at (k := 2) (i := 0) (n := 5) rfl (by omega), rg_at (k := 2) (i := 1) (n := 5) rfl (by omega), rg_at (k := 6) (n := 36) rfl hp, rg_at (k := 8) (n := 36) rfl (show p - 1 < 36 by omega)]
    have hfo : foD N s y p = aFo (rg N y) l p := by
      unfold foD aFo
      rw [e8, e00]
      exact foX_eq hop _ _ (by omega)
    have hrg := mvS_rg (N := N) hd hp
    rw [hfo] at hrg
    have hw : N (y + 6) p = rg N y 6 p := (rg_at (n := 36) rfl hp).symm
    have hsl2 : ∀ d, d < 1400 → mvS N s y p (s + 1) d = cnt (rg (mvS N s y p) y) (p :: l) d ∧ mvS N s y p (s + 2) d = wgt (rg (mvS N s y p) y) (p :: l) d := fun d hdd => by
      rw [hrg, cnt_mv hpl, wgt_mv hpl]
      unfold mvS
      rw [sPut_1, sPut_2, hfo]
      have o : ∀ a e, a = s + 1 ∨ a = s + 2 → (if aFo (rg N y) l p = N (y + 8) p then N else up2 (up2 N (y + 8) p (aFo (rg N y) l p)) (y + 11) p (N (y + 11) p + 1)) a e = N a e := fun a e h => by
        split
        · rfl
        · rw [up2_o (by omega), up2_o (by omega)]
      rw [o _ _ (Or.inl rfl), o _ _ (Or.inl rfl), o _ _ (Or.inr rfl), o _ _ (Or.inr rfl), (hsl d hdd).1, (hsl d hdd).2, (hsl _ o1).1, (hsl _ o1).2, hw]
      by_cases z : d = aFo (rg N y) l p
      · subst z
        rw [if_pos rfl, if_pos rfl, if_pos rfl, if_pos rfl]
        omega
      · rw [if_neg z, if_neg z, if_neg (fun w => z w.symm), if_neg (fun w => z w.symm)]
        omega
    have h8x : ∀ x, mvS N s y p (y + 8) x = if x = p then aFo (rg N y) l p else N (y + 8) x := fun x => by
      unfold mvS
      rw [sPut_o (by omega), hfo]
      split
      · rename_i w
        split
        · rename_i w2; rw [w2, w]
        · rfl
      · rw [up2_o (by omega)]
        unfold up2
        simp
    have hsh2 : SH (mvS N s y p) s := by
      unfold mvS
      refine SH_put (SH_congr hsh (fun a j _ _ => ?_)) (by rw [hfo]; exact o1) ?_
      · split
        · rfl
        · rw [up2_o (by omega), up2_o (by omega)]
      · have : (if foD N s y p = N (y + 8) p then N else up2 (up2 N (y + 8) p (foD N s y p)) (y + 11) p (N (y + 11) p + 1)) s 3 = N s 3 := by
          split
          · rfl
          · rw [up2_o (by omega), up2_o (by omega)]
        rw [this, h3]
        simp at hlen
        omega
    obtain ⟨r1, r2, r3, r4⟩ := mvX_rg hd rs (p :: l) (mvS N s y p) hsl2 (by rw [mvS_n hd, h3]; rfl) (by simp at hlen ⊢; omega) (fun x hxx => ⟨(hx x (List.mem_cons_of_mem _ hxx)).1, fun z => by
      rcases List.mem_cons.mp z with w | w
      · exact n1 (w ▸ hxx)
      · exact (hx x (List.mem_cons_of_mem _ hxx)).2 w⟩) n2 (fun x hxx => by
      rw [h8x]
      split
      · omega
      · exact hb x hxx) (by rw [mvS_o (by omega) (by omega) (by omega)]; exact ht) (fun x hxx => by
      rw [h8x]
      split
      · omega
      · exact ho8 x (List.mem_cons_of_mem _ hxx)) hsh2 (by rw [hrg]; exact hok2)
    refine ⟨⟨⟨by rw [hfo]; exact o1, by rw [hfo, hop _ o1]; exact o2⟩, r1⟩, ?_, r3, fun a j h1 h2 h4 => ?_⟩
    · unfold mvX aMvL
      rw [r2, hrg]
    · unfold mvX
      rw [r4 a j h1 h2 h4, mvS_o h1 h2 h4]
/-- what a yard's objects are, and what they hold -/
def CY (N : Nat → Nat → Nat) (y : Nat) (R : aY) (q : List Nat) : Prop := rg N y = R ∧ QH N y q
theorem CY_at {N : Nat → Nat → Nat} {y : Nat} {R : aY} {q : List Nat} (h : CY N y R q) (k : Nat) {i n : Nat} (hn : yW k = n) (hi : i < n) : N (y + k) i = R k i := by
  rw [← h.1]
  exact (rg_at hn hi).symm
theorem CY_at0 {N : Nat → Nat → Nat} {y i : Nat} {R : aY} {q : List Nat} (h : CY N y R q) (hi : i < 3) : N y i = R 0 i := by
  rw [← h.1]
  exact (rg_at0 hi).symm
theorem stX_o {y : Nat} {a j : Nat} (h1 : a ≠ y + 15) (h2 : a ≠ y + 12) (h3 : a ≠ y + 5) (h4 : a ≠ y + 9) : ∀ (q : List Nat) (k lf : Nat) (N : Nat → Nat → Nat), (stX y q k lf N).2.2 a j = N a j
  | [], _, _, _ => rfl
  | p :: l, k, lf, N => by
    unfold stX
    split
    · rw [stX_o h1 h2 h3 h4 l, ySet_o h2 h3 h4]
    · rw [stX_o h1 h2 h3 h4 l, up2_o (fun z => h1 z.1)]
def aPn : Nat → aY × List Nat → aY × List Nat
  | 0, S => S
  | k + 1, S => aPn k (aP S)
theorem st_1 {N : Nat → Nat → Nat} {y : Nat} {R : aY} {q : List Nat} {V : Nat → Nat → Nat} (hV : V = up2 (stX y q 0 0 N).2.2 y 3 (stX y q 0 0 N).1) (hc : CY N y R q) (hw : WF R q) : CY V y (aDo q R) (aQ q R) ∧ (stX y q 0 0 N).2.1 = (if aLf q R = true then 1 else 0) ∧ ∀ a j, (a < y ∨ y + 15 < a) → V a j = N a j := by
  subst hV
  have hx : ∀ x ∈ q, x < 36 := fun x hx => ((hw.2.2.2.2.2.2.1 x).mp hx).1
  have h2 : N y 2 = R 0 2 := CY_at0 hc (by omega)
  obtain ⟨r1, r2, r3⟩ := stX_rg (y := y) q 0 0 N (by omega) hx (by rw [h2]; exact hw.1.1.2.1) (by rw [h2]; exact hw.1.1.2.2)
  rw [hc.1] at r1 r2 r3
  refine ⟨⟨by rw [rg_3]; exact r1, ?_⟩, r2, fun a j h => ?_⟩
  · rw [← r3]
    exact stX_QH
  · rw [up2_o (by omega), stX_o (by omega) (by omega) (by omega) (by omega)]
theorem QH_congr {N N' : Nat → Nat → Nat} {y : Nat} {q : List Nat} (h : QH N y q) (h3 : N' y 3 = N y 3) (h15 : ∀ i, N' (y + 15) i = N (y + 15) i) : QH N' y q := ⟨by rw [h3]; exact h.1, fun i hi => by rw [h15]; exact h.2 i hi⟩
theorem AtL_of {f : Nat → Nat} {l : List Nat} (h : ∀ i (hi : i < l.length), f i = l[i]) : AtL f l := fun i x hx => by
  have hi := AtL_lt hx
  rw [List.getElem?_eq_getElem hi] at hx
  rw [h i hi]
  exact Option.some.inj hx
theorem mvT_eq {N : Nat → Nat → Nat} {y : Nat} {R : aY} {q : List Nat} (hc : CY N y R q) (hx : ∀ x ∈ q, x < 36) : mvT N y q = aT (R 8) q := by
  unfold mvT aT
  congr 1
  have : ∀ (rs l : List Nat), (∀ x ∈ rs, x < 36) → (∀ x ∈ l, x < 36) → srtR (N (y + 8)) rs l = srtR (R 8) rs l := by
    have hi : ∀ (p : Nat) (l : List Nat), p < 36 → (∀ x ∈ l, x < 36) → insR (N (y + 8)) p l = insR (R 8) p l := by
      intro p l hp
      induction l with
      | nil => intro _; rfl
      | cons a l ih =>
        intro hl
        unfold insR
        rw [CY_at hc 8 (n := 36) rfl hp, CY_at hc 8 (n := 36) rfl (hl a List.mem_cons_self), ih (fun x hx => hl x (List.mem_cons_of_mem _ hx))]
    intro rs
    induction rs with
    | nil => intro l _ _; rfl
    | cons a rs ih =>
      intro l h1 h2
      unfold srtR
      rw [hi a l (h1 a List.mem_cons_self) h2]
      refine ih _ (fun x hx => h1 x (List.mem_cons_of_mem _ hx)) (fun x hx => ?_)
      rcases (insR_mem l).mp hx with w | w
      · rw [w]; exact h1 a List.mem_cons_self
      · exact h2 x w
  exact this q [] hx (fun x hx => by simp at hx)
theorem mv_2 {N : Nat → Nat → Nat} {s y : Nat} {R : aY} {q : List Nat} {V : Nat → Nat → Nat} (hd : s + 4 < y ∨ y + 15 < s) (hV : V = mvX s y (mvT N y q) (mv2 N s y q)) (hc : CY N y R q) (hw : WF R q) (hs : SH N s) (ht : R 0 0 ≤ 1300) (hok : aOK (aT (R 8) q) [] R) :
    mvOK s y (mvT N y q) (mv2 N s y q) ∧ CY V y (aMvL (aT (R 8) q) [] R) q ∧ SH V s ∧ ∀ a j, (a < y ∨ y + 15 < a) → (a < s ∨ s + 4 < a) → V a j = N a j := by
  subst hV
  have hx : ∀ x ∈ q, x < 36 := fun x hx => ((hw.2.2.2.2.2.2.1 x).mp hx).1
  rw [mvT_eq hc hx]
  have hlen := WF_len hw
  have e1 : rg (mv2 N s y q) y = R := by
    rw [← hc.1]
    exact rg_congr (fun k i hk _ => mv2_o (by omega))
  have hs1 : SH (sortX s (N (y + 8)) q 0 N) s := SH_congr hs (fun a j _ _ => sortX_o _ _ _ _ _ (by omega))
  have hcl := SH_clear hs1
  have e3 : sortX s (N (y + 8)) q 0 N s 3 = N s 3 := sortX_o _ _ _ _ _ (by omega)
  rw [e3] at hcl
  have h30 : mv2 N s y q s 3 = 0 := up2_e ⟨rfl, rfl⟩
  have hd8 : ∀ x, x < 36 → R 8 x < 1400 ∨ R 8 x = 4294967295 := fun x hx => by
    obtain ⟨b1, b2, -⟩ := hw.2.2.2.2.1 x hx
    by_cases z : x % 6 < R 4 (x / 6)
    · exact Or.inl (b2 z).1
    · exact Or.inr (b1 (by omega))
  have e8 : ∀ x, x < 36 → mv2 N s y q (y + 8) x = R 8 x := fun x hx => by
    rw [mv2_o (by omega)]
    exact CY_at hc 8 (n := 36) rfl hx
  have e00 : mv2 N s y q y 0 = R 0 0 := by
    rw [mv2_o (by omega)]
    exact CY_at0 hc (by omega)
  obtain ⟨r1, r2, r3, r4⟩ := mvX_rg hd (aT (R 8) q) [] (mv2 N s y q) (fun d _ => hcl d) h30 (by rw [aT_len]; simpa using hlen) (fun x hxx => ⟨hx x (aT_mem.mp hxx), by simp⟩) (aT_nd hw.2.2.2.2.2.1) (fun x hxx => by
    rw [e8 x hxx]
    have := hd8 x hxx
    omega) (by rw [e00]; omega) (fun x hxx => by
    have hm := (hw.2.2.2.2.2.2.1 x).mp (aT_mem.mp hxx)
    rw [e8 x hm.1]
    have := ((hw.2.2.2.2.1 x hm.1).2.1 hm.2.2).1
    omega) ⟨by rw [h30]; omega, fun j hj => by rw [h30] at hj; omega, fun e => Or.inl (hcl e)⟩ (by rw [e1]; exact hok)
  rw [e1] at r2
  refine ⟨r1, ⟨r2, ?_⟩, r3, fun a j h1 h2 => ?_⟩
  · exact QH_congr hc.2 (by rw [r4 _ _ (by omega) (by omega) (by omega), mv2_o (by omega)]) (fun i => by rw [r4 _ _ (by omega) (by omega) (by omega), mv2_o (by omega)])
  · rw [r4 a j (by omega) (by omega) (by omega), mv2_o (by omega)]
section Pd
variable {Z : aZ} {L : Nat → Nat → Int64} {c : Nat × Nat} {y s : Nat}
theorem s_passDays_loop {n : Nat} (hy : YAt Z y) (hz : SAt Z s) (hd : s + 4 < y ∨ y + 15 < s) (hn : n ≤ 1000) : ∀ (k i : Nat) (N : Nat → Nat → Nat) (S : aY × List Nat) (a4 : Option Value), i + k = n → CY N y S.1 S.2 → WF S.1 S.2 → S.1 0 0 + k ≤ 1300 → SH N s →
    ∃ N', ex 18 2 [some (.ref s), some (.ref y), some (.int (nI n)), some (.int (nI i)), a4] [] (Z, iN N, L, c) = some (.inl none, (Z, iN N', L, c)) ∧ CY N' y (aPn k S).1 (aPn k S).2 ∧ SH N' s ∧ ∀ a j, (a < y ∨ y + 15 < a) → (a < s ∨ s + 4 < a) → N' a j = N a j
  | 0, i, N, S, a4, e, hc, hw, ht, hs => by
    have e : i = n := by omega
    subst e
    refine ⟨N, ?_, hc, hs, fun _ _ _ _ => rfl⟩
    simp (disch := omega) only [r_X3_passDays_0, r_X3_passDays_1, r_X3_passDays_2, r_X3_passDays_3, r_X3_passDays_4, r_X3_passDays_7, r_X3_passDays_8, r_X3_passDays_11, r_X3_passDays_13, r_X3_passDays_14, r_X3_passDays_15, r_X3_passDays_18, r_X3_passDays_19, r_X3_passDays_20, r_X3_passDays_23, r_X3_passDays_25, r_X3_passDays_28, r_X3_passDays_29, r_X3_passDays_30, r_X3_passDays_33, r_X3_passDays_36, r_X3_passDays_39, up2_o, up2_e, iN_ap, iN_up, i_ix, i_inb, i_lt, i_lt0, i_0lt, i_eq, i_ne0, i_00, i_11, i_01, i_10, i_b, i_rem2, n_rem, i_add, i_mul, i_sub, i_div, i_max, i_min, rdk_0, rdk_3, kp_none, kp_int, kp_ref, kp_long, kp_double, aK_v, aK_0, aK_ite, if_true, if_false, and_self, and_true, true_and, or_false, false_or, not_true_eq_false, not_false_eq_true, ite_self, ↓reduceIte, Nat.lt_irrefl]
  | k + 1, i, N, S, a4, e, hc, hw, ht, hs => by
    obtain ⟨R, q⟩ := S
    have hx : ∀ x ∈ q, x < 36 := fun x hx => ((hw.2.2.2.2.2.2.1 x).mp hx).1
    have e1 : i < n := by omega
    have hlen := WF_len hw
    have z0 := hz.1
    have y0 := hy.1
    obtain ⟨w1, w2, w3⟩ := WF_P (s := (R, q)) hw (by dsimp only at ht ⊢; omega)
    obtain ⟨wa, wh, wp, ws, wd, wq⟩ := hw
    have hN2 : N y 2 = R 0 2 := CY_at0 hc (by omega)
    have hN0 : N y 0 = R 0 0 := CY_at0 hc (by omega)
    have hst := s_setTodays (L := L) (c := c) hy hc.2 hlen (fun x hxx => ⟨hx x hxx, by
      have hm := (wq.2.1 x).mp hxx
      rw [CY_at hc 8 (n := 36) rfl hm.1]
      have := ((wd x hm.1).2.1 hm.2.2).1
      omega⟩) (by rw [hN2]; exact wa.1.2.1) (by rw [hN2]; exact wa.1.2.2) (by rw [hN0]; dsimp only at ht; omega) (fun x hxx => by
      rw [CY_at hc 6 (n := 36) rfl hxx, CY_at hc 7 (n := 36) rfl hxx]
      exact ⟨(wp x hxx).1, (wp x hxx).2.1⟩) (fun i hi => by
      rw [CY_at hc 1 (n := 60) rfl hi]
      exact wa.2.1 i hi) (fun h hh => by
      rw [CY_at hc 5 (n := 6) rfl hh]
      have := wh h hh
      omega) (by rw [CY_at hc 2 (n := 5) rfl (by omega)]; exact wa.2.2.2.2.2.2.1)
    obtain ⟨V, hV⟩ : ∃ V, V = up2 (stX y q 0 0 N).2.2 y 3 (stX y q 0 0 N).1 := ⟨_, rfl⟩
    obtain ⟨v1, v2, v3⟩ := st_1 hV hc ⟨wa, wh, wp, ws, wd, wq⟩
    rw [← hV, v2] at hst
    have u1 : CY (up2 V y 0 (V y 0 + 1)) y (aN R q) (aQ q R) := by
      have e0 : V y 0 = R 0 0 := (CY_at0 v1 (by omega)).trans (aDo_o (by omega) (by omega) (by omega) _ _)
      refine ⟨?_, QH_congr v1.2 (up2_o (by omega)) (fun i => up2_o (by omega))⟩
      rw [rg_up0 (by omega), v1.1, e0]
      rfl
    have u2 : ∀ a j, (a < y ∨ y + 15 < a) → up2 V y 0 (V y 0 + 1) a j = N a j := fun a j h => by rw [up2_o (by omega), v3 a j h]
    have u3 : SH (up2 V y 0 (V y 0 + 1)) s := SH_congr hs (fun a j h1 h2 => u2 a j (by omega))
    unfold aPn
    by_cases hl : aLf q R = true
    · have w3 := w3 hl
      obtain ⟨W, hW⟩ : ∃ W, W = mvX s y (mvT (up2 V y 0 (V y 0 + 1)) y (aQ q R)) (mv2 (up2 V y 0 (V y 0 + 1)) s y (aQ q R)) := ⟨_, rfl⟩
      have e00 : aN R q 0 0 = R 0 0 + 1 := up2_e ⟨rfl, rfl⟩
      have wd0 : WF (aN R q) (aQ q R) := WF_do ⟨wa, wh, wp, ws, wd, wq⟩
      obtain ⟨x1, x2, x3, x4⟩ := mv_2 hd hW u1 wd0 u3 (by rw [e00]; dsimp only at ht; omega) w3
      have hx2 : ∀ x ∈ aQ q R, x < 36 := fun x hxx => ((wd0.2.2.2.2.2.2.1 x).mp hxx).1
      have hmv := s_moveAll (L := L) (c := c) hy hz hd u3 u1.2 (WF_len wd0) (fun x hxx => by
        have hm := (wd0.2.2.2.2.2.2.1 x).mp hxx
        have hdx := (wd0.2.2.2.2.1 x hm.1).2.1 hm.2.2
        refine ⟨hm.1, ?_, fun h1 => ?_⟩
        · rw [CY_at u1 8 (n := 36) rfl hm.1]
          omega
        · rw [CY_at u1 8 (n := 36) rfl (show x - 1 < 36 by omega)]
          have := hdx.2 h1
          omega) (fun x hxx => by
        rw [CY_at u1 6 (n := 36) rfl hxx]
        exact (wd0.2.2.1 x hxx).1) (by
        rw [CY_at u1 2 (n := 5) rfl (by omega)]
        have := wd0.1.2.2
        omega) (by
        rw [CY_at u1 2 (n := 5) rfl (by omega)]
        have := wd0.1.2.2
        omega) (by
        rw [CY_at0 u1 (by omega), e00]
        dsimp only at ht
        omega) x1
      rw [← hW] at hmv
      have eP : aP (R, q) = (aMvL (aT (aN R q 8) (aQ q R)) [] (aN R q), aQ q R) := by
        unfold aP
        rw [if_pos hl]
      rw [eP] at w1 w2 ⊢
      obtain ⟨N', ih1, ih2, ih3, ih4⟩ := s_passDays_loop hy hz hd hn k (i + 1) W _ (some (.int (nI 1))) (by omega) x2 w1 (by dsimp only at w2 ht ⊢; rw [w2]; omega) x3
      refine ⟨N', ?_, ih2, ih3, fun a j h1 h2 => by rw [ih4 a j h1 h2, x4 a j h1 h2, u2 a j h1]⟩
      rw [if_pos hl] at hst
      rw [r_X3_passDays_2]
      simp (disch := omega) only [r_X3_passDays_0, r_X3_passDays_1, r_X3_passDays_3, r_X3_passDays_4, r_X3_passDays_7, r_X3_passDays_8, r_X3_passDays_11, r_X3_passDays_13, r_X3_passDays_14, r_X3_passDays_15, r_X3_passDays_18, r_X3_passDays_19, r_X3_passDays_20, r_X3_passDays_23, r_X3_passDays_25, r_X3_passDays_28, r_X3_passDays_29, r_X3_passDays_30, r_X3_passDays_33, r_X3_passDays_36, r_X3_passDays_39, z0, y0, up2_o, up2_e, iN_ap, iN_up, i_ix, i_inb, i_lt, i_lt0, i_0lt, i_eq, i_ne0, i_00, i_11, i_01, i_10, i_b, i_rem2, n_rem, i_add, i_mul, i_sub, i_div, i_max, i_min, rdk_0, rdk_3, kp_none, kp_int, kp_ref, kp_long, kp_double, aK_v, aK_0, aK_ite, if_true, if_false, and_self, and_true, true_and, or_false, false_or, not_true_eq_false, not_false_eq_true, ite_self, ↓reduceIte, e1, hst, hmv, ih1]
    · have eP : aP (R, q) = (aN R q, aQ q R) := by
        unfold aP
        rw [if_neg hl]
      rw [eP] at w1 w2 ⊢
      obtain ⟨N', ih1, ih2, ih3, ih4⟩ := s_passDays_loop hy hz hd hn k (i + 1) (up2 V y 0 (V y 0 + 1)) _ (some (.int (nI 0))) (by omega) u1 w1 (by dsimp only at w2 ht ⊢; rw [w2]; omega) u3
      refine ⟨N', ?_, ih2, ih3, fun a j h1 h2 => by rw [ih4 a j h1 h2, u2 a j h1]⟩
      rw [if_neg hl] at hst
      rw [r_X3_passDays_2]
      simp (disch := omega) only [r_X3_passDays_0, r_X3_passDays_1, r_X3_passDays_3, r_X3_passDays_4, r_X3_passDays_7, r_X3_passDays_8, r_X3_passDays_11, r_X3_passDays_13, r_X3_passDays_14, r_X3_passDays_15, r_X3_passDays_18, r_X3_passDays_19, r_X3_passDays_20, r_X3_passDays_23, r_X3_passDays_25, r_X3_passDays_28, r_X3_passDays_29, r_X3_passDays_30, r_X3_passDays_33, r_X3_passDays_36, r_X3_passDays_39, z0, y0, up2_o, up2_e, iN_ap, iN_up, i_ix, i_inb, i_lt, i_lt0, i_0lt, i_eq, i_ne0, i_00, i_11, i_01, i_10, i_b, i_rem2, n_rem, i_add, i_mul, i_sub, i_div, i_max, i_min, rdk_0, rdk_3, kp_none, kp_int, kp_ref, kp_long, kp_double, aK_v, aK_0, aK_ite, if_true, if_false, and_self, and_true, true_and, or_false, false_or, not_true_eq_false, not_false_eq_true, ite_self, ↓reduceIte, e1, hst, ih1]
theorem s_passDays {n : Nat} {N : Nat → Nat → Nat} {R : aY} {q : List Nat} (hy : YAt Z y) (hz : SAt Z s) (hd : s + 4 < y ∨ y + 15 < s) (hn : n ≤ 1000) (hc : CY N y R q) (hw : WF R q) (ht : R 0 0 + n ≤ 1300) (hs : SH N s) :
    ∃ N', ex 18 0 [some (.ref s), some (.ref y), some (.int (nI n)), none, none] [] (Z, iN N, L, c) = some (.inl none, (Z, iN N', L, c)) ∧ CY N' y (aPn n (R, q)).1 (aPn n (R, q)).2 ∧ SH N' s ∧ ∀ a j, (a < y ∨ y + 15 < a) → (a < s ∨ s + 4 < a) → N' a j = N a j := by
  obtain ⟨N', h1, h2⟩ := s_passDays_loop (L := L) (c := c) hy hz hd hn n 0 N (R, q) none (by omega) hc hw ht hs
  refine ⟨N', ?_, h2⟩
  simp only [r_X3_passDays_0, r_X3_passDays_1, kp_none, kp_int, kp_ref]
  exact h1
end Pd
