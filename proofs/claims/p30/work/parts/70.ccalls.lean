/-! the class: what a call gives -/
def CR (Z : aZ) (L : Nat → Nat → Int64) (c : Nat × Nat) (N : Nat → Nat → Nat) (kd : Nat → Nat) (e : Option (aR × aH)) (r : Nat × Nat × aSt) : Prop :=
  ∃ N', e = (if r.1 = 0 then some (.inl (some (.int (nI r.2.1))), (Z, iN N', L, c)) else some (.inr (kd r.1), (Z, iN N', L, bc c))) ∧ CI N' r.2.2 ∧ ∀ a, 144 ≤ a → N' a = N a
theorem CI_up {N N' : Nat → Nat → Nat} {S : aSt} {R' : aY} {q' : List Nat} {sv' : List (aY × List Nat)} (h : CI N S) (hc : CY N' 1 R' q') (hv : VS N' sv') (ht : N' 136 = N 136 ∧ N' 137 = N 137) (hs : SH N' 131) (hk : ∀ a, 144 ≤ a → N' a = N a) : CI N' ((R', q'), sv', S.2.2) :=
  ⟨hc, hv, by rw [ht.1, ht.2]; exact h.2.2.1, hs, fun i hi => by rw [hk 100001 (by omega), hk 100002 (by omega)]; exact h.2.2.2.2 i hi⟩
theorem VS_congr {N N' : Nat → Nat → Nat} {sv : List (aY × List Nat)} (h : VS N sv) (he : ∀ a, 33 ≤ a → a < 131 → N' a = N a) : VS N' sv := by
  obtain ⟨a, b, c⟩ := h
  refine ⟨by rw [he 33 (by omega) (by omega)]; exact a, by rw [he 33 (by omega) (by omega)]; exact b, fun k s hk => ?_⟩
  rw [he 33 (by omega) (by omega)]
  exact CY_congr (c k s hk) (fun a h1 h2 => he a (by omega) (by omega))
theorem CR_fail {Z : aZ} {L : Nat → Nat → Int64} {c : Nat × Nat} {N : Nat → Nat → Nat} {kd : Nat → Nat} {S : aSt} {k e : Nat} (h : CI N S) (hk : k ≠ 0) (he : kd k = e) : CR Z L c N kd (some (.inr e, (Z, iN N, L, bc c))) (k, 0, S) :=
  ⟨N, by rw [if_neg hk, he], h, fun _ _ => rfl⟩
theorem CR_get {Z : aZ} {L : Nat → Nat → Int64} {c : Nat × Nat} {N : Nat → Nat → Nat} {kd : Nat → Nat} {S : aSt} {v : Nat} (h : CI N S) : CR Z L c N kd (some (.inl (some (.int (nI v))), (Z, iN N, L, c))) (0, v, S) :=
  ⟨N, by rw [if_pos rfl], h, fun _ _ => rfl⟩
/-! days with room, taken in -/
theorem tkX_1 {s y : Nat} (hd : s + 4 < y ∨ y + 15 < s) : ∀ (q : List Nat) (N : Nat → Nat → Nat) (d : Nat), tkX s y q N (s + 1) d = N (s + 1) d + sumL (fun p => if N (y + 8) p = d then 1 else 0) q ∧ tkX s y q N (s + 2) d = N (s + 2) d + sumL (fun p => if N (y + 8) p = d then N (y + 6) p else 0) q
  | [], _, _ => ⟨rfl, rfl⟩
  | p :: q, N, d => by
    obtain ⟨a, b⟩ := tkX_1 hd q (sPut N s (N (y + 8) p) (N (y + 6) p)) d
    have o8 : ∀ x, sPut N s (N (y + 8) p) (N (y + 6) p) (y + 8) x = N (y + 8) x := fun x => sPut_o (by omega)
    have o6 : ∀ x, sPut N s (N (y + 8) p) (N (y + 6) p) (y + 6) x = N (y + 6) x := fun x => sPut_o (by omega)
    unfold tkX
    rw [a, b, sPut_1, sPut_2]
    simp only [o8, o6, sumL]
    constructor
    · by_cases z : d = N (y + 8) p
      · rw [if_pos z, if_pos z.symm, z]
        omega
      · rw [if_neg z, if_neg (fun w => z w.symm)]
        omega
    · by_cases z : d = N (y + 8) p
      · rw [if_pos z, if_pos z.symm, z]
        omega
      · rw [if_neg z, if_neg (fun w => z w.symm)]
        omega
theorem tkX_SH {s y : Nat} (hd : s + 4 < y ∨ y + 15 < s) : ∀ (q : List Nat) (N : Nat → Nat → Nat), SH N s → (∀ x ∈ q, N (y + 8) x < 1400) → N s 3 + q.length ≤ 36 → SH (tkX s y q N) s
  | [], _, h, _, _ => h
  | p :: q, N, h, hx, hl => by
    unfold tkX
    rw [List.length_cons] at hl
    refine tkX_SH hd q _ (SH_put h (hx p List.mem_cons_self) (by omega)) (fun x hxx => ?_) (by rw [sPut_n]; omega)
    rw [sPut_o (by omega)]
    exact hx x (List.mem_cons_of_mem _ hxx)
section Cb
variable {Z : aZ} {N : Nat → Nat → Nat} {L : Nat → Nat → Int64} {c : Nat × Nat}
theorem q_takeIn {R : aY} {q : List Nat} (hC : ZC Z) (hc : CY N 1 R q) (hw : WF R q) (hs : SH N 131) :
    ∃ N', ex 16 0 [some (.ref 131), some (.ref 1), none, none] [] (Z, iN N, L, c) = some (.inl none, (Z, iN N', L, c)) ∧ (∀ d, N' (131 + 1) d = cnt R q d ∧ N' (131 + 2) d = wgt R q d) ∧ SH N' 131 ∧ ∀ a, (a < 131 ∨ 135 ≤ a) → N' a = N a := by
  have hx : ∀ x ∈ q, x < 36 ∧ N (1 + 8) x < 1400 := fun x hxx => by
    have hm := (hw.2.2.2.2.2.2.1 x).mp hxx
    rw [CY_at hc 8 (n := 36) rfl hm.1]
    exact ⟨hm.1, ((hw.2.2.2.2.1 x hm.1).2.1 hm.2.2).1⟩
  have ht := s_takeIn (L := L) (c := c) hC.2.1 hC.2.2.2.2.1 (Or.inr (by omega)) hc.2 (WF_len hw) hx rfl hs.1 hs.2.1
  have hcl := SH_clear hs
  have o : ∀ a j, (a < 131 ∨ 131 + 3 < a) → up2 (clX 131 (N 131 3) 0 N) 131 3 0 a j = N a j := fun a j h => by
    rw [up2_o (by omega), clX_o _ _ _ _ _ (by omega) (by omega)]
  refine ⟨_, ht, fun d => ?_, ?_, fun a ha => ?_⟩
  · obtain ⟨a, b⟩ := tkX_1 (s := 131) (y := 1) (Or.inr (by omega)) q (up2 (clX 131 (N 131 3) 0 N) 131 3 0) d
    rw [a, b, (hcl d).1, (hcl d).2, Nat.zero_add, Nat.zero_add]
    constructor
    · refine sumL_congr q (fun x hxx => ?_)
      rw [o _ _ (by omega), CY_at hc 8 (n := 36) rfl (hx x hxx).1]
    · refine sumL_congr q (fun x hxx => ?_)
      rw [o _ _ (by omega), o _ _ (by omega), CY_at hc 8 (n := 36) rfl (hx x hxx).1, CY_at hc 6 (n := 36) rfl (hx x hxx).1]
  · refine tkX_SH (Or.inr (by omega)) q _ ⟨by rw [up2_e ⟨rfl, rfl⟩]; omega, fun j hj => by rw [up2_e ⟨rfl, rfl⟩] at hj; omega, fun e => Or.inl (hcl e)⟩ (fun x hxx => ?_) (by rw [up2_e ⟨rfl, rfl⟩, Nat.zero_add]; exact WF_len hw)
    rw [o _ _ (by omega)]
    exact (hx x hxx).2
  · funext j
    rw [tkX_o _ _ _ _ (by omega), o _ _ (by omega)]
theorem q_isOpen {R : aY} {q : List Nat} {p d : Nat} (hC : ZC Z) (hc : CY N 1 R q) (hw : WF R q) (hsl : ∀ d, N (131 + 1) d = cnt R q d ∧ N (131 + 2) d = wgt R q d) (hp : p < 36) (hd : d < 1400) (ha : 1 ≤ p % 6 → p % 6 ≤ R 4 (p / 6)) :
    ex 17 0 [some (.ref 131), some (.ref 1), some (.int (nI p)), some (.int (nI d)), none] [] (Z, iN N, L, c) = some (.inl (some (.int (nI (if aOpen R q p d = true then 1 else 0)))), (Z, iN N, L, c)) := by
  have hl := WF_len hw
  have e6 : N (1 + 6) p = R 6 p := CY_at hc 6 (n := 36) rfl hp
  have e20 : N (1 + 2) 0 = R 2 0 := CY_at hc 2 (n := 5) rfl (by omega)
  have e21 : N (1 + 2) 1 = R 2 1 := CY_at hc 2 (n := 5) rfl (by omega)
  have bc1 : cnt R q d ≤ 36 := by
    have := sumL_bd (f := fun x => if R 8 x = d then 1 else 0) (b := 1) q (fun x _ => by split <;> omega)
    unfold cnt
    omega
  have bw1 : wgt R q d ≤ 108 := by
    have := sumL_bd (f := fun x => if R 8 x = d then R 6 x else 0) (b := 3) q (fun x hxx => by
      have := (hw.2.2.1 x ((hw.2.2.2.2.2.2.1 x).mp hxx).1).1
      split <;> omega)
    unfold wgt
    omega
  have h6 := (hw.2.2.1 p hp).1
  have h2 := hw.1.2.2
  rw [s_isOpen (L := L) (c := c) hC.2.1 hC.2.2.2.2.1 hd hp (fun h1 => by
    rw [CY_at hc 8 (n := 36) rfl (show p - 1 < 36 by omega)]
    have := ((hw.2.2.2.2.1 (p - 1) (by omega)).2.1 (by have := ha h1; rw [show (p - 1) / 6 = p / 6 by omega]; omega)).1
    omega) (by rw [(hsl d).1]; omega) (by rw [(hsl d).2]; omega) (by rw [e6]; omega) (by rw [e20]; omega) (by rw [e21]; omega)]
  have e : sOpen N 131 1 p d = aOpen R q p d := by
    unfold sOpen aOpen
    rw [(hsl d).1, (hsl d).2, e6, e20, e21, CY_at hc 8 (n := 36) rfl (show p - 1 < 36 by omega)]
  rw [e]
theorem CY_book {R : aY} {q : List Nat} {p d : Nat} (hc : CY N 1 R q) (hp : p < 36) : CY (up2 (up2 (up2 (up2 N (1 + 15) (N 1 3) p) 1 3 (N 1 3 + 1)) (1 + 8) p d) (1 + 4) (p / 6) (N (1 + 4) (p / 6) + 1)) 1 (bkR R p d) (q ++ [p]) := by
  refine ⟨?_, QH_of ?_ (AtL_app.mpr ⟨fun i x hx => ?_, ?_⟩)⟩
  · rw [rg_up (n := 6) rfl (by omega), rg_up (n := 36) rfl hp, rg_3, rg_o (by omega), hc.1, CY_at hc 4 (n := 6) rfl (by omega)]
    rfl
  · rw [up2_o (by omega), up2_o (by omega), up2_e ⟨rfl, rfl⟩, hc.2.1]
    simp
  · have hi := AtL_lt hx
    rw [up2_o (by omega), up2_o (by omega), up2_o (by omega), up2_o (by have := hc.2.1; omega)]
    exact AtL_of hc.2.2 i x hx
  · rw [up2_o (by omega), up2_o (by omega), up2_o (by omega)]
    exact up2_e ⟨rfl, hc.2.1.symm⟩
theorem q_book {S : aSt} {h d : Nat} (hC : ZC Z) (hI : CI N S) (hS : SOK S) (hh : h < 4294967296) (hd : d < 4294967296) :
    CR Z L c N (fun k => k - 1) (ex 58 0 [some (.ref 0), some (.int (nI h)), some (.int (nI d)), none, none] [] (Z, iN N, L, c)) (oBook S h d) := by
  obtain ⟨⟨R, q⟩, sv, tx⟩ := S
  have hw := hS.1.1
  have h0 := hw.1.1.1
  have ht := hS.1.2
  have kh := q_reqHouse (L := L) (c := c) hC hI hw hh
  have hc := hI.1
  unfold oBook
  dsimp only at hw h0 kh ht hc ⊢
  have e0 : N 1 0 = R 0 0 := CY_at0 hc (by omega)
  by_cases q1 : h < R 0 1
  · rw [if_pos q1] at kh
    rw [if_neg (not_not_intro q1)]
    have hh6 : h < 6 := by omega
    have hh1 := hw.2.1 h hh6
    have e4 : N (1 + 4) h = R 4 h := CY_at hc 4 (n := 6) rfl hh6
    have e3 : N (1 + 3) h = R 3 h := CY_at hc 3 (n := 6) rfl hh6
    by_cases q2 : d < R 0 0 ∨ 999 < d
    · rw [if_pos q2]
      by_cases q21 : nI d < nI (R 0 0)
      · simp (disch := omega) only [r_X7_book_0, r_X7_book_1, r_X7_book_2, r_X7_book_5, r_X7_book_6, r_X7_book_7, r_X7_book_10, r_X7_book_13, r_X7_book_16, r_X7_book_17, r_X7_book_20, r_X7_book_23, r_X7_book_33, r_X7_book_34, r_X7_book_37, r_X7_book_40, r_X7_book_41, r_X7_book_42, r_X7_book_43, r_X7_book_46, r_X7_book_49, r_X7_book_50, r_X7_book_51, r_X7_book_54, r_X7_book_64, r_X7_book_65, r_X7_book_68, r_X7_book_71, r_X7_book_72, r_X7_book_73, r_X7_book_74, r_X7_book_75, r_X7_book_76, r_X7_book_79, r_X7_book_81, r_X7_book_82, r_X7_book_85, r_X7_book_86, r_X7_book_89, r_X7_book_92, r_X7_book_93, r_X7_book_96, r_X7_book_97, r_X7_book_100, r_X7_book_102, r_X7_book_103, r_X7_book_106, r_X7_book_109, r_X7_book_119, r_X7_book_120, r_X7_book_123, r_X7_book_124, r_X7_book_127, r_X7_book_130, r_X7_book_131, r_X7_book_134, r_X7_book_136, r_X7_book_137, r_X7_book_140, r_X7_book_141, @id (Z.1 0 = 10) hC.1.1, @id (Z.2.2.1 0 0 = .ref 1) hC.1.2.1, @id (Z.2.2.1 0 1 = .ref 17) hC.1.2.2.1, @id (Z.2.2.1 0 2 = .ref 33) hC.1.2.2.2.1, @id (Z.2.2.1 0 3 = .ref 131) hC.1.2.2.2.2.1, @id (Z.2.2.1 0 4 = .ref 136) hC.1.2.2.2.2.2.1, @id (Z.2.2.1 0 5 = .ref 138) hC.1.2.2.2.2.2.2.1, @id (Z.2.2.1 0 6 = .ref 141) hC.1.2.2.2.2.2.2.2, @id (Z.1 1 = 9) hC.2.1.1, @id (Z.1 17 = 9) hC.2.2.1.1, @id (Z.1 33 = 6) hC.2.2.2.1.1, @id (Z.1 131 = 7) hC.2.2.2.2.1.1, @id (Z.1 136 = 5) hC.2.2.2.2.2.1.1, @id (Z.1 138 = 4) hC.2.2.2.2.2.2.1.1, @id (Z.1 141 = 8) hC.2.2.2.2.2.2.2.1.1, up2_o, up2_e, iN_ap, iN_up, i_ix, i_inb, i_lt, i_lt0, i_0lt, i_eq, i_ne0, i_00, i_11, i_01, i_10, i_b, i_rem2, n_rem, i_add, i_mul, i_sub, i_div, i_max, i_min, rdk_0, rdk_3, kp_none, kp_int, kp_ref, kp_long, kp_double, aK_v, aK_0, aK_ite, if_true, if_false, and_self, and_true, true_and, or_false, false_or, not_true_eq_false, not_false_eq_true, ite_self, ↓reduceIte, kh, e0, q21, bmp_e]
        exact CR_fail hI (by omega) rfl
      · have q22 : nI 999 < nI d := by
          rw [i_ltU hd (by omega)] at q21
          rw [i_gtU hd (by omega)]
          omega
        simp (disch := omega) only [r_X7_book_0, r_X7_book_1, r_X7_book_2, r_X7_book_5, r_X7_book_6, r_X7_book_7, r_X7_book_10, r_X7_book_13, r_X7_book_16, r_X7_book_17, r_X7_book_20, r_X7_book_23, r_X7_book_33, r_X7_book_34, r_X7_book_37, r_X7_book_40, r_X7_book_41, r_X7_book_42, r_X7_book_43, r_X7_book_46, r_X7_book_49, r_X7_book_50, r_X7_book_51, r_X7_book_54, r_X7_book_64, r_X7_book_65, r_X7_book_68, r_X7_book_71, r_X7_book_72, r_X7_book_73, r_X7_book_74, r_X7_book_75, r_X7_book_76, r_X7_book_79, r_X7_book_81, r_X7_book_82, r_X7_book_85, r_X7_book_86, r_X7_book_89, r_X7_book_92, r_X7_book_93, r_X7_book_96, r_X7_book_97, r_X7_book_100, r_X7_book_102, r_X7_book_103, r_X7_book_106, r_X7_book_109, r_X7_book_119, r_X7_book_120, r_X7_book_123, r_X7_book_124, r_X7_book_127, r_X7_book_130, r_X7_book_131, r_X7_book_134, r_X7_book_136, r_X7_book_137, r_X7_book_140, r_X7_book_141, @id (Z.1 0 = 10) hC.1.1, @id (Z.2.2.1 0 0 = .ref 1) hC.1.2.1, @id (Z.2.2.1 0 1 = .ref 17) hC.1.2.2.1, @id (Z.2.2.1 0 2 = .ref 33) hC.1.2.2.2.1, @id (Z.2.2.1 0 3 = .ref 131) hC.1.2.2.2.2.1, @id (Z.2.2.1 0 4 = .ref 136) hC.1.2.2.2.2.2.1, @id (Z.2.2.1 0 5 = .ref 138) hC.1.2.2.2.2.2.2.1, @id (Z.2.2.1 0 6 = .ref 141) hC.1.2.2.2.2.2.2.2, @id (Z.1 1 = 9) hC.2.1.1, @id (Z.1 17 = 9) hC.2.2.1.1, @id (Z.1 33 = 6) hC.2.2.2.1.1, @id (Z.1 131 = 7) hC.2.2.2.2.1.1, @id (Z.1 136 = 5) hC.2.2.2.2.2.1.1, @id (Z.1 138 = 4) hC.2.2.2.2.2.2.1.1, @id (Z.1 141 = 8) hC.2.2.2.2.2.2.2.1.1, up2_o, up2_e, iN_ap, iN_up, i_ix, i_inb, i_lt, i_lt0, i_0lt, i_eq, i_ne0, i_00, i_11, i_01, i_10, i_b, i_rem2, n_rem, i_add, i_mul, i_sub, i_div, i_max, i_min, rdk_0, rdk_3, kp_none, kp_int, kp_ref, kp_long, kp_double, aK_v, aK_0, aK_ite, if_true, if_false, and_self, and_true, true_and, or_false, false_or, not_true_eq_false, not_false_eq_true, ite_self, ↓reduceIte, kh, e0, q21, q22, bmp_e]
        exact CR_fail hI (by omega) rfl
    · rw [if_neg q2]
      have q21 : ¬ d < R 0 0 := fun z => q2 (Or.inl z)
      have q22 : ¬ 999 < d := fun z => q2 (Or.inr z)
      by_cases q3 : R 4 h < R 3 h
      · obtain ⟨p, hp⟩ : ∃ p, p = 6 * h + R 4 h := ⟨_, rfl⟩
        have hp36 : p < 36 := by omega
        have hpl := s_placeOf (p := h) (t := R 4 h) (h := (Z, iN N, L, c))
        rw [show h * 6 + R 4 h = p by omega] at hpl
        rw [← hp]
        obtain ⟨N1, t1, t2, t3, t4⟩ := q_takeIn (L := L) (c := c) hC hc hw hI.2.2.2.1
        have hc1 : CY N1 1 R q := CY_congr hc (fun a h1 h2 => t4 a (by omega))
        have ho := q_isOpen (L := L) (c := c) (p := p) (d := d) hC hc1 hw t2 hp36 (by omega) (fun _ => by rw [show p / 6 = h by omega]; omega)
        have hv1 : VS N1 sv := VS_congr hI.2.1 (fun a h1 h2 => t4 a (by omega))
        have hI1 : CI N1 ((R, q), sv, tx) := CI_up (S := ((R, q), sv, tx)) hI hc1 hv1 ⟨t4 136 (by omega), t4 137 (by omega)⟩ t3 (fun a ha => t4 a (by omega))
        by_cases q4 : aOpen R q p d = true
        · rw [if_pos ⟨q3, q4⟩]
          obtain ⟨N2, s1, s2, s3⟩ := q_save (L := L) (c := c) hC hI1 hS.2.1 (WF_len hw)
          have hc2 : CY N2 1 R q := CY_congr hc1 (fun a h1 h2 => s3 a (by omega))
          have hq36 : N2 1 3 < 36 := by
            have hwb := WF_len (WF_book (d := d) hw hh6 q3 (by omega) (fun h1 => by
              have := (aOpen_iff.mp q4).1
              rw [hp] at this
              rcases this with z | z
              · omega
              · exact z))
            rw [hc2.2.1]
            simp at hwb
            omega
          have hb := s_bookPlace (N := N2) (L := L) (c := c) (d := d) hC.2.1 hp36 hq36
          have hc3 := CY_book (d := d) hc2 hp36
          refine ⟨_, ?_, CI_up (S := ((R, q), sv, tx)) hI1 hc3 ?_ ⟨?_, ?_⟩ ?_ ?_, fun a ha => ?_⟩
          · rw [if_pos rfl]
            simp (disch := omega) only [r_X7_book_0, r_X7_book_1, r_X7_book_2, r_X7_book_5, r_X7_book_6, r_X7_book_7, r_X7_book_10, r_X7_book_13, r_X7_book_16, r_X7_book_17, r_X7_book_20, r_X7_book_23, r_X7_book_33, r_X7_book_34, r_X7_book_37, r_X7_book_40, r_X7_book_41, r_X7_book_42, r_X7_book_43, r_X7_book_46, r_X7_book_49, r_X7_book_50, r_X7_book_51, r_X7_book_54, r_X7_book_64, r_X7_book_65, r_X7_book_68, r_X7_book_71, r_X7_book_72, r_X7_book_73, r_X7_book_74, r_X7_book_75, r_X7_book_76, r_X7_book_79, r_X7_book_81, r_X7_book_82, r_X7_book_85, r_X7_book_86, r_X7_book_89, r_X7_book_92, r_X7_book_93, r_X7_book_96, r_X7_book_97, r_X7_book_100, r_X7_book_102, r_X7_book_103, r_X7_book_106, r_X7_book_109, r_X7_book_119, r_X7_book_120, r_X7_book_123, r_X7_book_124, r_X7_book_127, r_X7_book_130, r_X7_book_131, r_X7_book_134, r_X7_book_136, r_X7_book_137, r_X7_book_140, r_X7_book_141, @id (Z.1 0 = 10) hC.1.1, @id (Z.2.2.1 0 0 = .ref 1) hC.1.2.1, @id (Z.2.2.1 0 1 = .ref 17) hC.1.2.2.1, @id (Z.2.2.1 0 2 = .ref 33) hC.1.2.2.2.1, @id (Z.2.2.1 0 3 = .ref 131) hC.1.2.2.2.2.1, @id (Z.2.2.1 0 4 = .ref 136) hC.1.2.2.2.2.2.1, @id (Z.2.2.1 0 5 = .ref 138) hC.1.2.2.2.2.2.2.1, @id (Z.2.2.1 0 6 = .ref 141) hC.1.2.2.2.2.2.2.2, @id (Z.1 1 = 9) hC.2.1.1, @id (Z.1 17 = 9) hC.2.2.1.1, @id (Z.1 33 = 6) hC.2.2.2.1.1, @id (Z.1 131 = 7) hC.2.2.2.2.1.1, @id (Z.1 136 = 5) hC.2.2.2.2.2.1.1, @id (Z.1 138 = 4) hC.2.2.2.2.2.2.1.1, @id (Z.1 141 = 8) hC.2.2.2.2.2.2.2.1.1, hC.2.1.1, @id (Z.1 (1 + 4) = 0) (yK hC.2.1 4 rfl), @id (Z.2.1 (1 + 4) = 6) (yL hC.2.1 4 rfl), @id (Z.2.2.1 1 7 = .ref (1 + 4)) (yR hC.2.1 4 rfl), @id (Z.1 (1 + 3) = 0) (yK hC.2.1 3 rfl), @id (Z.2.1 (1 + 3) = 6) (yL hC.2.1 3 rfl), @id (Z.2.2.1 1 6 = .ref (1 + 3)) (yR hC.2.1 3 rfl), up2_o, up2_e, iN_ap, iN_up, i_ix, i_inb, i_lt, i_lt0, i_0lt, i_eq, i_ne0, i_00, i_11, i_01, i_10, i_b, i_rem2, n_rem, i_add, i_mul, i_sub, i_div, i_max, i_min, rdk_0, rdk_3, kp_none, kp_int, kp_ref, kp_long, kp_double, aK_v, aK_0, aK_ite, if_true, if_false, and_self, and_true, true_and, or_false, false_or, not_true_eq_false, not_false_eq_true, ite_self, ↓reduceIte, kh, e0, q21, q22, e4, e3, q3, hpl, t1, ho, q4, s1, hb]
          · refine VS_congr s2 (fun a h1 h2 => ?_)
            funext j
            rw [up2_o (by omega), up2_o (by omega), up2_o (by omega), up2_o (by omega)]
          · funext j
            rw [up2_o (by omega), up2_o (by omega), up2_o (by omega), up2_o (by omega), s3 136 (by omega)]
          · funext j
            rw [up2_o (by omega), up2_o (by omega), up2_o (by omega), up2_o (by omega), s3 137 (by omega)]
          · refine SH_congr t3 (fun a j h1 h2 => ?_)
            rw [up2_o (by omega), up2_o (by omega), up2_o (by omega), up2_o (by omega), s3 a (by omega)]
          · intro a ha
            funext j
            rw [up2_o (by omega), up2_o (by omega), up2_o (by omega), up2_o (by omega), s3 a (by omega)]
          · funext j
            rw [up2_o (by omega), up2_o (by omega), up2_o (by omega), up2_o (by omega), s3 a (by omega), t4 a (by omega)]
        · rw [if_neg (fun z => q4 z.2)]
          refine ⟨N1, ?_, hI1, fun a ha => t4 a (by omega)⟩
          rw [if_neg (by omega)]
          simp (disch := omega) only [r_X7_book_0, r_X7_book_1, r_X7_book_2, r_X7_book_5, r_X7_book_6, r_X7_book_7, r_X7_book_10, r_X7_book_13, r_X7_book_16, r_X7_book_17, r_X7_book_20, r_X7_book_23, r_X7_book_33, r_X7_book_34, r_X7_book_37, r_X7_book_40, r_X7_book_41, r_X7_book_42, r_X7_book_43, r_X7_book_46, r_X7_book_49, r_X7_book_50, r_X7_book_51, r_X7_book_54, r_X7_book_64, r_X7_book_65, r_X7_book_68, r_X7_book_71, r_X7_book_72, r_X7_book_73, r_X7_book_74, r_X7_book_75, r_X7_book_76, r_X7_book_79, r_X7_book_81, r_X7_book_82, r_X7_book_85, r_X7_book_86, r_X7_book_89, r_X7_book_92, r_X7_book_93, r_X7_book_96, r_X7_book_97, r_X7_book_100, r_X7_book_102, r_X7_book_103, r_X7_book_106, r_X7_book_109, r_X7_book_119, r_X7_book_120, r_X7_book_123, r_X7_book_124, r_X7_book_127, r_X7_book_130, r_X7_book_131, r_X7_book_134, r_X7_book_136, r_X7_book_137, r_X7_book_140, r_X7_book_141, @id (Z.1 0 = 10) hC.1.1, @id (Z.2.2.1 0 0 = .ref 1) hC.1.2.1, @id (Z.2.2.1 0 1 = .ref 17) hC.1.2.2.1, @id (Z.2.2.1 0 2 = .ref 33) hC.1.2.2.2.1, @id (Z.2.2.1 0 3 = .ref 131) hC.1.2.2.2.2.1, @id (Z.2.2.1 0 4 = .ref 136) hC.1.2.2.2.2.2.1, @id (Z.2.2.1 0 5 = .ref 138) hC.1.2.2.2.2.2.2.1, @id (Z.2.2.1 0 6 = .ref 141) hC.1.2.2.2.2.2.2.2, @id (Z.1 1 = 9) hC.2.1.1, @id (Z.1 17 = 9) hC.2.2.1.1, @id (Z.1 33 = 6) hC.2.2.2.1.1, @id (Z.1 131 = 7) hC.2.2.2.2.1.1, @id (Z.1 136 = 5) hC.2.2.2.2.2.1.1, @id (Z.1 138 = 4) hC.2.2.2.2.2.2.1.1, @id (Z.1 141 = 8) hC.2.2.2.2.2.2.2.1.1, hC.2.1.1, @id (Z.1 (1 + 4) = 0) (yK hC.2.1 4 rfl), @id (Z.2.1 (1 + 4) = 6) (yL hC.2.1 4 rfl), @id (Z.2.2.1 1 7 = .ref (1 + 4)) (yR hC.2.1 4 rfl), @id (Z.1 (1 + 3) = 0) (yK hC.2.1 3 rfl), @id (Z.2.1 (1 + 3) = 6) (yL hC.2.1 3 rfl), @id (Z.2.2.1 1 6 = .ref (1 + 3)) (yR hC.2.1 3 rfl), up2_o, up2_e, iN_ap, iN_up, i_ix, i_inb, i_lt, i_lt0, i_0lt, i_eq, i_ne0, i_00, i_11, i_01, i_10, i_b, i_rem2, n_rem, i_add, i_mul, i_sub, i_div, i_max, i_min, rdk_0, rdk_3, kp_none, kp_int, kp_ref, kp_long, kp_double, aK_v, aK_0, aK_ite, if_true, if_false, and_self, and_true, true_and, or_false, false_or, not_true_eq_false, not_false_eq_true, ite_self, ↓reduceIte, kh, e0, q21, q22, e4, e3, q3, hpl, t1, ho, q4, Bool.false_eq_true, bmp_e]
      · rw [if_neg (fun z => q3 z.1)]
        simp (disch := omega) only [r_X7_book_0, r_X7_book_1, r_X7_book_2, r_X7_book_5, r_X7_book_6, r_X7_book_7, r_X7_book_10, r_X7_book_13, r_X7_book_16, r_X7_book_17, r_X7_book_20, r_X7_book_23, r_X7_book_33, r_X7_book_34, r_X7_book_37, r_X7_book_40, r_X7_book_41, r_X7_book_42, r_X7_book_43, r_X7_book_46, r_X7_book_49, r_X7_book_50, r_X7_book_51, r_X7_book_54, r_X7_book_64, r_X7_book_65, r_X7_book_68, r_X7_book_71, r_X7_book_72, r_X7_book_73, r_X7_book_74, r_X7_book_75, r_X7_book_76, r_X7_book_79, r_X7_book_81, r_X7_book_82, r_X7_book_85, r_X7_book_86, r_X7_book_89, r_X7_book_92, r_X7_book_93, r_X7_book_96, r_X7_book_97, r_X7_book_100, r_X7_book_102, r_X7_book_103, r_X7_book_106, r_X7_book_109, r_X7_book_119, r_X7_book_120, r_X7_book_123, r_X7_book_124, r_X7_book_127, r_X7_book_130, r_X7_book_131, r_X7_book_134, r_X7_book_136, r_X7_book_137, r_X7_book_140, r_X7_book_141, @id (Z.1 0 = 10) hC.1.1, @id (Z.2.2.1 0 0 = .ref 1) hC.1.2.1, @id (Z.2.2.1 0 1 = .ref 17) hC.1.2.2.1, @id (Z.2.2.1 0 2 = .ref 33) hC.1.2.2.2.1, @id (Z.2.2.1 0 3 = .ref 131) hC.1.2.2.2.2.1, @id (Z.2.2.1 0 4 = .ref 136) hC.1.2.2.2.2.2.1, @id (Z.2.2.1 0 5 = .ref 138) hC.1.2.2.2.2.2.2.1, @id (Z.2.2.1 0 6 = .ref 141) hC.1.2.2.2.2.2.2.2, @id (Z.1 1 = 9) hC.2.1.1, @id (Z.1 17 = 9) hC.2.2.1.1, @id (Z.1 33 = 6) hC.2.2.2.1.1, @id (Z.1 131 = 7) hC.2.2.2.2.1.1, @id (Z.1 136 = 5) hC.2.2.2.2.2.1.1, @id (Z.1 138 = 4) hC.2.2.2.2.2.2.1.1, @id (Z.1 141 = 8) hC.2.2.2.2.2.2.2.1.1, hC.2.1.1, @id (Z.1 (1 + 4) = 0) (yK hC.2.1 4 rfl), @id (Z.2.1 (1 + 4) = 6) (yL hC.2.1 4 rfl), @id (Z.2.2.1 1 7 = .ref (1 + 4)) (yR hC.2.1 4 rfl), @id (Z.1 (1 + 3) = 0) (yK hC.2.1 3 rfl), @id (Z.2.1 (1 + 3) = 6) (yL hC.2.1 3 rfl), @id (Z.2.2.1 1 6 = .ref (1 + 3)) (yR hC.2.1 3 rfl), up2_o, up2_e, iN_ap, iN_up, i_ix, i_inb, i_lt, i_lt0, i_0lt, i_eq, i_ne0, i_00, i_11, i_01, i_10, i_b, i_rem2, n_rem, i_add, i_mul, i_sub, i_div, i_max, i_min, rdk_0, rdk_3, kp_none, kp_int, kp_ref, kp_long, kp_double, aK_v, aK_0, aK_ite, if_true, if_false, and_self, and_true, true_and, or_false, false_or, not_true_eq_false, not_false_eq_true, ite_self, ↓reduceIte, kh, e0, q21, q22, e4, e3, q3, bmp_e]
        exact CR_fail hI (by omega) rfl
  · rw [if_neg q1] at kh
    rw [if_pos q1]
    simp (disch := omega) only [r_X7_book_0, r_X7_book_1, r_X7_book_2, r_X7_book_5, r_X7_book_6, r_X7_book_7, r_X7_book_10, r_X7_book_13, r_X7_book_16, r_X7_book_17, r_X7_book_20, r_X7_book_23, r_X7_book_33, r_X7_book_34, r_X7_book_37, r_X7_book_40, r_X7_book_41, r_X7_book_42, r_X7_book_43, r_X7_book_46, r_X7_book_49, r_X7_book_50, r_X7_book_51, r_X7_book_54, r_X7_book_64, r_X7_book_65, r_X7_book_68, r_X7_book_71, r_X7_book_72, r_X7_book_73, r_X7_book_74, r_X7_book_75, r_X7_book_76, r_X7_book_79, r_X7_book_81, r_X7_book_82, r_X7_book_85, r_X7_book_86, r_X7_book_89, r_X7_book_92, r_X7_book_93, r_X7_book_96, r_X7_book_97, r_X7_book_100, r_X7_book_102, r_X7_book_103, r_X7_book_106, r_X7_book_109, r_X7_book_119, r_X7_book_120, r_X7_book_123, r_X7_book_124, r_X7_book_127, r_X7_book_130, r_X7_book_131, r_X7_book_134, r_X7_book_136, r_X7_book_137, r_X7_book_140, r_X7_book_141, @id (Z.1 0 = 10) hC.1.1, @id (Z.2.2.1 0 0 = .ref 1) hC.1.2.1, @id (Z.2.2.1 0 1 = .ref 17) hC.1.2.2.1, @id (Z.2.2.1 0 2 = .ref 33) hC.1.2.2.2.1, @id (Z.2.2.1 0 3 = .ref 131) hC.1.2.2.2.2.1, @id (Z.2.2.1 0 4 = .ref 136) hC.1.2.2.2.2.2.1, @id (Z.2.2.1 0 5 = .ref 138) hC.1.2.2.2.2.2.2.1, @id (Z.2.2.1 0 6 = .ref 141) hC.1.2.2.2.2.2.2.2, @id (Z.1 1 = 9) hC.2.1.1, @id (Z.1 17 = 9) hC.2.2.1.1, @id (Z.1 33 = 6) hC.2.2.2.1.1, @id (Z.1 131 = 7) hC.2.2.2.2.1.1, @id (Z.1 136 = 5) hC.2.2.2.2.2.1.1, @id (Z.1 138 = 4) hC.2.2.2.2.2.2.1.1, @id (Z.1 141 = 8) hC.2.2.2.2.2.2.2.1.1, up2_o, up2_e, iN_ap, iN_up, i_ix, i_inb, i_lt, i_lt0, i_0lt, i_eq, i_ne0, i_00, i_11, i_01, i_10, i_b, i_rem2, n_rem, i_add, i_mul, i_sub, i_div, i_max, i_min, rdk_0, rdk_3, kp_none, kp_int, kp_ref, kp_long, kp_double, aK_v, aK_0, aK_ite, if_true, if_false, and_self, and_true, true_and, or_false, false_or, not_true_eq_false, not_false_eq_true, ite_self, ↓reduceIte, kh, aT_X7_book]
    exact CR_fail hI (by omega) rfl
end Cb
