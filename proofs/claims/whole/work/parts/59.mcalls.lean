/-! the reference: book, unbook, set, pass, undo -/
def bkW (N : Nat → Nat → Nat) (p d : Nat) : Nat → Nat → Nat := up2 (up2 (up2 (up2 N 145 (91 + 16 * p + 2) 1) 145 (91 + 16 * p + 3) d) 145 (91 + 16 * p + 4) (N 145 2)) 145 2 (N 145 2 + 1)
def ubW (N : Nat → Nat → Nat) (p : Nat) : Nat → Nat → Nat := up2 (up2 N 145 (91 + 16 * p + 2) 0) 145 (91 + 16 * p + 3) 0
theorem MZ_book {N : Nat → Nat → Nat} {R : aY} {B : Nat → Nat} {o p d : Nat} (h : MZ (N 145) R B o) (hp : p < 36) (h4 : p % 6 = R 4 (p / 6)) (h5 : R 5 (p / 6) ≤ R 4 (p / 6)) : MZ (bkW N p d 145) (bkR R p d) (fun x => if x = p then o else B x) (o + 1) := by
  obtain ⟨⟨a1, a2, a3, a4⟩, b, c, d1, e, f, g⟩ := h
  have hz : ∀ i, i ≠ 2 → i ≠ 91 + 16 * p + 2 → i ≠ 91 + 16 * p + 3 → i ≠ 91 + 16 * p + 4 → bkW N p d 145 i = N 145 i := fun i h1 h2 h3 h4 => by
    unfold bkW
    rw [up2_o (by omega), up2_o (by omega), up2_o (by omega), up2_o (by omega)]
  have hR : ∀ k j, k ≠ 8 → k ≠ 4 → bkR R p d k j = R k j := fun k j h1 h2 => by
    unfold bkR
    rw [up2_o (by omega), up2_o (by omega)]
  have h44 : ∀ j, bkR R p d 4 j = if j = p / 6 then R 4 (p / 6) + 1 else R 4 j := fun j => by
    unfold bkR
    by_cases z : j = p / 6
    · rw [if_pos z, up2_e ⟨rfl, z⟩]
    · rw [if_neg z, up2_o (by omega), up2_o (by omega)]
  have h88 : ∀ j, bkR R p d 8 j = if j = p then d else R 8 j := fun j => by
    unfold bkR
    rw [up2_o (by omega)]
    by_cases z : j = p
    · rw [if_pos z, up2_e ⟨rfl, z⟩]
    · rw [if_neg z, up2_o (by omega)]
  refine ⟨⟨?_, ?_, ?_, ?_⟩, fun i hi => ?_, fun i hi => ?_, fun i hi => ?_, fun i hi => ?_, fun x hx => ?_, fun x hx t ht => ?_⟩
  · rw [hz _ (by omega) (by omega) (by omega) (by omega), hR _ _ (by omega) (by omega)]; exact a1
  · rw [hz _ (by omega) (by omega) (by omega) (by omega), hR _ _ (by omega) (by omega)]; exact a2
  · unfold bkW
    rw [up2_e ⟨rfl, rfl⟩, a3]
  · rw [hz _ (by omega) (by omega) (by omega) (by omega), hR _ _ (by omega) (by omega)]; exact a4
  · rw [hz _ (by omega) (by omega) (by omega) (by omega), hR _ _ (by omega) (by omega)]; exact b i hi
  · rw [hz _ (by omega) (by omega) (by omega) (by omega), hR _ _ (by omega) (by omega)]; exact c i hi
  · rw [hz _ (by omega) (by omega) (by omega) (by omega), hR _ _ (by omega) (by omega)]; exact d1 i hi
  · rw [hz _ (by omega) (by omega) (by omega) (by omega), hR _ _ (by omega) (by omega)]; exact e i hi
  · obtain ⟨f0, f1, f2, f3, f4, f5, f6, f7⟩ := f x hx
    have o2 : ∀ k, k < 16 → (k ≠ 2 ∧ k ≠ 3 ∧ k ≠ 4) → zo (bkW N p d 145) x k = zo (N 145) x k := fun k h1 h2 => by
      unfold zo
      exact hz _ (by omega) (by omega) (by omega) (by omega)
    rw [o2 0 (by omega) (by omega), o2 1 (by omega) (by omega), o2 5 (by omega) (by omega), o2 6 (by omega) (by omega), o2 7 (by omega) (by omega), hR 6 _ (by omega) (by omega), hR 7 _ (by omega) (by omega), hR 9 _ (by omega) (by omega), hR 11 _ (by omega) (by omega), hR 10 _ (by omega) (by omega)]
    refine ⟨f0, f1, ?_, ?_, ?_, f5, f6, f7⟩
    · unfold stg
      rw [hR 5 _ (by omega) (by omega), h44]
      unfold zo bkW
      rw [up2_o (by omega)]
      by_cases z : x = p
      · subst z
        rw [up2_o (by omega), up2_o (by omega), up2_e ⟨rfl, rfl⟩, if_neg (by omega), if_pos rfl, if_pos (by omega)]
      · rw [up2_o (by omega), up2_o (by omega), up2_o (by omega)]
        unfold zo stg at f2
        rw [f2]
        by_cases w : x / 6 = p / 6
        · rw [if_pos w, w]
          split
          · rfl
          · by_cases v : x % 6 < R 4 (p / 6)
            · rw [if_pos v, if_pos (show x % 6 < R 4 (p / 6) + 1 by omega)]
            · rw [if_neg v, if_neg (show ¬ x % 6 < R 4 (p / 6) + 1 by omega)]
        · rw [if_neg w]
    · unfold zOn
      rw [h44, h88]
      unfold zo bkW
      rw [up2_o (by omega)]
      by_cases z : x = p
      · subst z
        rw [up2_o (by omega), up2_e ⟨rfl, rfl⟩, if_pos rfl, if_neg (by omega), if_pos rfl]
      · rw [up2_o (by omega), up2_o (by omega), up2_o (by omega), if_neg z]
        unfold zo zOn at f3
        rw [f3]
        by_cases w : x / 6 = p / 6
        · rw [if_pos w, w]
          by_cases v : R 4 (p / 6) ≤ x % 6
          · rw [if_pos v, if_pos (show R 4 (p / 6) + 1 ≤ x % 6 by omega)]
          · rw [if_neg v, if_neg (show ¬ R 4 (p / 6) + 1 ≤ x % 6 by omega)]
        · rw [if_neg w]
    · show _ = if x = p then o else B x
      unfold zo bkW
      rw [up2_o (by omega)]
      by_cases z : x = p
      · rw [z, up2_e ⟨rfl, rfl⟩, if_pos rfl, a3]
      · rw [up2_o (by omega), up2_o (by omega), up2_o (by omega), if_neg z]
        exact f4
  · have o2 : ∀ k, k < 16 → (k ≠ 2 ∧ k ≠ 3 ∧ k ≠ 4) → zo (bkW N p d 145) x k = zo (N 145) x k := fun k h1 h2 => by
      unfold zo
      exact hz _ (by omega) (by omega) (by omega) (by omega)
    rw [o2 _ (by omega) (by omega), o2 _ (by omega) (by omega), hR 12 _ (by omega) (by omega), hR 13 _ (by omega) (by omega)]
    exact g x hx t ht
theorem MZ_unbook {N : Nat → Nat → Nat} {R : aY} {B : Nat → Nat} {o p : Nat} (h : MZ (N 145) R B o) (hp : p < 36) (h4 : p % 6 + 1 = R 4 (p / 6)) (h5 : R 5 (p / 6) ≤ p % 6) : MZ (ubW N p 145) (ubR R p) B o := by
  obtain ⟨⟨a1, a2, a3, a4⟩, b, c, d1, e, f, g⟩ := h
  have hz : ∀ i, i ≠ 91 + 16 * p + 2 → i ≠ 91 + 16 * p + 3 → ubW N p 145 i = N 145 i := fun i h2 h3 => by
    unfold ubW
    rw [up2_o (by omega), up2_o (by omega)]
  have hR : ∀ k j, k ≠ 8 → k ≠ 4 → ubR R p k j = R k j := fun k j h1 h2 => by
    unfold ubR
    rw [up2_o (by omega), up2_o (by omega)]
  have h44 : ∀ j, ubR R p 4 j = if j = p / 6 then R 4 (p / 6) - 1 else R 4 j := fun j => by
    unfold ubR
    rw [up2_o (by omega)]
    by_cases z : j = p / 6
    · rw [if_pos z, up2_e ⟨rfl, z⟩]
    · rw [if_neg z, up2_o (by omega)]
  have h88 : ∀ j, j ≠ p → ubR R p 8 j = R 8 j := fun j hj => by
    unfold ubR
    rw [up2_o (by omega), up2_o (by omega)]
  refine ⟨⟨?_, ?_, ?_, ?_⟩, fun i hi => ?_, fun i hi => ?_, fun i hi => ?_, fun i hi => ?_, fun x hx => ?_, fun x hx t ht => ?_⟩
  · rw [hz _ (by omega) (by omega), hR _ _ (by omega) (by omega)]; exact a1
  · rw [hz _ (by omega) (by omega), hR _ _ (by omega) (by omega)]; exact a2
  · rw [hz _ (by omega) (by omega)]; exact a3
  · rw [hz _ (by omega) (by omega), hR _ _ (by omega) (by omega)]; exact a4
  · rw [hz _ (by omega) (by omega), hR _ _ (by omega) (by omega)]; exact b i hi
  · rw [hz _ (by omega) (by omega), hR _ _ (by omega) (by omega)]; exact c i hi
  · rw [hz _ (by omega) (by omega), hR _ _ (by omega) (by omega)]; exact d1 i hi
  · rw [hz _ (by omega) (by omega), hR _ _ (by omega) (by omega)]; exact e i hi
  · obtain ⟨f0, f1, f2, f3, f4, f5, f6, f7⟩ := f x hx
    have o2 : ∀ k, k < 16 → (k ≠ 2 ∧ k ≠ 3) → zo (ubW N p 145) x k = zo (N 145) x k := fun k h1 h2 => by
      unfold zo
      exact hz _ (by omega) (by omega)
    rw [o2 0 (by omega) (by omega), o2 1 (by omega) (by omega), o2 4 (by omega) (by omega), o2 5 (by omega) (by omega), o2 6 (by omega) (by omega), o2 7 (by omega) (by omega), hR 6 _ (by omega) (by omega), hR 7 _ (by omega) (by omega), hR 9 _ (by omega) (by omega), hR 11 _ (by omega) (by omega), hR 10 _ (by omega) (by omega)]
    refine ⟨f0, f1, ?_, ?_, f4, f5, f6, f7⟩
    · unfold stg
      rw [hR 5 _ (by omega) (by omega), h44]
      unfold zo ubW
      rw [up2_o (by omega)]
      by_cases z : x = p
      · subst z
        rw [up2_e ⟨rfl, rfl⟩, if_neg (by omega), if_pos rfl, if_neg (by omega)]
      · rw [up2_o (by omega)]
        unfold zo stg at f2
        rw [f2]
        by_cases w : x / 6 = p / 6
        · rw [if_pos w, w]
          split
          · rfl
          · by_cases v : x % 6 < R 4 (p / 6)
            · rw [if_pos v, if_pos (show x % 6 < R 4 (p / 6) - 1 by omega)]
            · rw [if_neg v, if_neg (show ¬ x % 6 < R 4 (p / 6) - 1 by omega)]
        · rw [if_neg w]
    · unfold zOn
      rw [h44]
      unfold zo ubW
      by_cases z : x = p
      · subst z
        rw [up2_e ⟨rfl, rfl⟩, if_pos rfl, if_pos (by omega)]
      · rw [up2_o (by omega), up2_o (by omega), h88 x z]
        unfold zo zOn at f3
        rw [f3]
        by_cases w : x / 6 = p / 6
        · rw [if_pos w, w]
          by_cases v : R 4 (p / 6) ≤ x % 6
          · rw [if_pos v, if_pos (show R 4 (p / 6) - 1 ≤ x % 6 by omega)]
          · rw [if_neg v, if_neg (show ¬ R 4 (p / 6) - 1 ≤ x % 6 by omega)]
        · rw [if_neg w]
  · have o2 : ∀ k, k < 16 → (k ≠ 2 ∧ k ≠ 3) → zo (ubW N p 145) x k = zo (N 145) x k := fun k h1 h2 => by
      unfold zo
      exact hz _ (by omega) (by omega)
    rw [o2 _ (by omega) (by omega), o2 _ (by omega) (by omega), hR 12 _ (by omega) (by omega), hR 13 _ (by omega) (by omega)]
    exact g x hx t ht
/-- the state is one that can be, beside the reference -/
def MO (N : Nat → Nat → Nat) (S : aSt) (g : Nat) : Prop := MV N S.1.1 S.1.2 S.2.1 S.2.2 g ∧ WF S.1.1 S.1.2 ∧ S.1.1 0 0 ≤ 1000 ∧ S.2.1.length ≤ 6 ∧ g ≤ 600
/-- what a call of the reference gives -/
def MR (Z : aZ) (L : Nat → Nat → Int64) (c : Nat × Nat) (N : Nat → Nat → Nat) (g : Nat) (e : Option (aR × aH)) (r : Nat × Nat × aSt) : Prop :=
  ∃ N', e = some (.inl (some (.int (nI r.2.1))), (Z, iN N', L, c)) ∧ N' 144 11 = r.1 ∧ MV N' r.2.2.1.1 r.2.2.1.2 r.2.2.2.1 r.2.2.2.2 (g + 1) ∧ ∀ a, (a < 144 ∨ 151 < a) → N' a = N a
theorem MV_le {N : Nat → Nat → Nat} {R : aY} {q : List Nat} {sv : List (aY × List Nat)} {tx : List Nat} {g : Nat} (h : MV N R q sv tx g) : MV N R q sv tx (g + 1) := MV_up h (MS_le h.1 (by omega)) (by omega) rfl rfl rfl rfl
theorem up144 {N : Nat → Nat → Nat} {j v a : Nat} (h : a ≠ 144) : up2 N 144 j v a = N a := by
  funext i
  exact up2_o (by omega)
theorem up145 {N : Nat → Nat → Nat} {j v a : Nat} (h : a ≠ 145) : up2 N 145 j v a = N a := by
  funext i
  exact up2_o (by omega)
theorem BK_book {q : List Nat} {B : Nat → Nat} {o p : Nat} (h : BK q B o) (hp : p ∉ q) (ho : o + 1 ≤ 1000) : BK (q ++ [p]) (fun x => if x = p then o else B x) (o + 1) := by
  refine ⟨?_, fun m hm => ?_, fun x hx => ?_, ho⟩
  · rw [List.pairwise_append]
    refine ⟨List.Pairwise.imp_of_mem ?_ h.1, by simp, fun a ha b hb => ?_⟩
    · intro a b ha hb hab
      show (if a = p then o else B a) < (if b = p then o else B b)
      rw [if_neg (fun z : a = p => hp (z ▸ ha)), if_neg (fun z : b = p => hp (z ▸ hb))]
      exact hab
    · show (if a = p then o else B a) < (if b = p then o else B b)
      rw [List.mem_singleton.mp hb, if_pos rfl, if_neg (fun z : a = p => hp (z ▸ ha))]
      exact h.2.2.1 a ha
  · have := h.2.1 m hm
    show (if m = p then o else B m) ≤ o + 1
    split <;> omega
  · show (if x = p then o else B x) < o + 1
    rcases List.mem_append.mp hx with z | z
    · rw [if_neg (fun w : x = p => hp (w ▸ z))]
      have := h.2.2.1 x z
      omega
    · rw [List.mem_singleton.mp z, if_pos rfl]
      omega
section Mq
variable {Z : aZ} {N : Nat → Nat → Nat} {L : Nat → Nat → Int64} {c : Nat × Nat}
theorem MR_fail {S : aSt} {g k : Nat} (h : MO N S g) : MR Z L c N g (some (.inl (some (.int (nI 0))), (Z, iN (up2 (up2 N 144 11 0) 144 11 k), L, c))) (k, 0, S) :=
  ⟨_, rfl, up2_e ⟨rfl, rfl⟩, MV_le (MV_thr (MV_thr h.1 (by omega)) (by omega)), fun a ha => by rw [up144 (by omega), up144 (by omega)]⟩
theorem k_isHouse {R : aY} {q : List Nat} {B : Nat → Nat} {o h : Nat} (hM : MAt Z) (hk : MK N R q B o) (hh : h < 4294967296) : ex 114 0 [some (.ref 144), some (.int (nI h))] [] (Z, iN N, L, c) = some (.inl (some (.int (nI (if h < R 0 1 then 1 else 0)))), (Z, iN N, L, c)) := by
  rw [s_mIsHouse hM hh (MK_Zb hk).1.1, hk.1.1.1]
theorem k_isModule {R : aY} {q : List Nat} {B : Nat → Nat} {o h k : Nat} (hM : MAt Z) (hk : MK N R q B o) (hh : h < 4294967296) (hkk : k < 4294967296) : ex 115 0 [some (.ref 144), some (.int (nI h)), some (.int (nI k))] [] (Z, iN N, L, c) = some (.inl (some (.int (nI (if h < R 0 1 ∧ k < R 3 h then 1 else 0)))), (Z, iN N, L, c)) := by
  rw [s_mIsModule hM hh hkk (MK_Zb hk), hk.1.1.1]
  by_cases z : h < R 0 1
  · rw [hk.1.2.2.2.2.1 h (by have := hk.2.1.1.1.1; omega)]
  · rw [if_neg (fun w => z w.1), if_neg (fun w => z w.1)]
theorem k_in1 {R : aY} {q : List Nat} {B : Nat → Nat} {o h : Nat} (hM : MAt Z) (hk : MK N R q B o) (hh : h < 6) : ex 121 0 [some (.ref 144), some (.int (nI h)), some (.int (nI 1)), none, none] [] (Z, iN N, L, c) = some (.inl (some (.int (nI (R 4 h)))), (Z, iN N, L, c)) := by
  rw [s_mInState hM hh (by omega) (MK_Zb hk), zIn_R1 hk.1 hk.2.1 hh]
theorem k_in2 {R : aY} {q : List Nat} {B : Nat → Nat} {o h : Nat} (hM : MAt Z) (hk : MK N R q B o) (hh : h < 6) : ex 121 0 [some (.ref 144), some (.int (nI h)), some (.int (nI 2)), none, none] [] (Z, iN N, L, c) = some (.inl (some (.int (nI (R 5 h)))), (Z, iN N, L, c)) := by
  rw [s_mInState hM hh (by omega) (MK_Zb hk), zIn_R2 hk.1 hk.2.1 hh]
theorem MK_of {S : aSt} {g : Nat} (h : MO N S g) : ∃ B o, MK N S.1.1 S.1.2 B o ∧ o ≤ g := by
  obtain ⟨⟨⟨B, o, h1, h2, h3⟩, -⟩, hw, ht, -⟩ := h
  exact ⟨B, o, ⟨h1, hw, h2, by omega⟩, h3⟩
theorem MO_thr {S : aSt} {g j v : Nat} (h : MO N S g) (hj : j ≠ 9 ∧ j ≠ 10) : MO (up2 N 144 j v) S g := ⟨MV_thr h.1 hj, h.2⟩
theorem MK_145 {N' : Nat → Nat → Nat} {R : aY} {q : List Nat} {B : Nat → Nat} {o : Nat} (h : MK N R q B o) (he : N' 145 = N 145) : MK N' R q B o := ⟨by rw [he]; exact h.1, h.2⟩
theorem s_mBook {S : aSt} {g h d : Nat} (hM : MAt Z) (hO : MO N S g) (hh : h < 4294967296) (hd : d < 4294967296) :
    MR Z L c N g (ex 128 0 [some (.ref 144), some (.int (nI h)), some (.int (nI d)), none, none] [] (Z, iN N, L, c)) (oBook S h d) := by
  obtain ⟨⟨R, q⟩, sv, tx⟩ := S
  obtain ⟨N0, hN0⟩ : ∃ N0, N0 = up2 N 144 11 0 := ⟨_, rfl⟩
  have hO0 := MO_thr (j := 11) (v := 0) hO (by omega)
  have hF := fun k => MR_fail (Z := Z) (L := L) (c := c) (k := k) hO
  rw [← hN0] at hO0 hF
  obtain ⟨B, o, hk, hog⟩ := MK_of hO0
  have hz := MK_Zb hk
  have r0 := hk.2.1.1.1.1
  have hdy : N0 145 1 = R 0 0 := hk.1.1.2.1
  have ht : R 0 0 ≤ 1000 := hO.2.2.1
  unfold oBook
  dsimp only at r0 hk ⊢
  have kh := k_isHouse (L := L) (c := c) hM hk hh
  rw [r_X8_book_0, r_X8_book_1, r_X8_book_2, if_pos hM.1.1, iN_up, ← hN0]
  by_cases q1 : h < R 0 1
  · have hh6 : h < 6 := by omega
    have hh1 := hk.2.1.2.1 h hh6
    rw [if_neg (not_not_intro q1)]
    by_cases q2 : d < R 0 0 ∨ 999 < d
    · rw [if_pos q2]
      have e2 : nI d < nI (N0 145 1) ∨ nI 999 < nI d := by
        rw [i_ltU hd (by omega), i_gtU hd (by omega), hdy]
        omega
      simp (disch := omega) only [r_X8_book_5, r_X8_book_6, r_X8_book_7, r_X8_book_10, r_X8_book_13, r_X8_book_14, r_X8_book_15, r_X8_book_18, r_X8_book_19, r_X8_book_20, r_X8_book_21, r_X8_book_24, r_X8_book_25, r_X8_book_26, r_X8_book_29, r_X8_book_32, r_X8_book_35, r_X8_book_36, r_X8_book_37, r_X8_book_40, r_X8_book_41, r_X8_book_42, r_X8_book_43, r_X8_book_44, r_X8_book_47, r_X8_book_50, r_X8_book_51, r_X8_book_52, r_X8_book_55, r_X8_book_56, r_X8_book_57, r_X8_book_60, r_X8_book_61, r_X8_book_62, r_X8_book_63, r_X8_book_66, r_X8_book_67, r_X8_book_68, r_X8_book_69, r_X8_book_72, r_X8_book_74, r_X8_book_75, r_X8_book_77, r_X8_book_78, r_X8_book_79, r_X8_book_82, r_X8_book_83, r_X8_book_85, r_X8_book_86, r_X8_book_87, r_X8_book_90, r_X8_book_91, r_X8_book_93, r_X8_book_94, r_X8_book_95, r_X8_book_98, r_X8_book_99, r_X8_book_100, r_X8_book_103, r_X8_book_104, r_X8_book_107, r_X8_book_108, r_X8_book_109, r_X8_book_110, r_X8_book_111, r_X8_book_112, r_X8_book_113, r_X8_book_114, hM.1.1, @id (Z.2.2.1 144 0 = .ref 145) hM.1.2.1, @id (Z.2.2.1 144 1 = .ref 146) hM.1.2.2.1, @id (Z.2.2.1 144 2 = .ref 147) hM.1.2.2.2.1, @id (Z.2.2.1 144 3 = .ref 148) hM.1.2.2.2.2.1, @id (Z.2.2.1 144 4 = .ref 149) hM.1.2.2.2.2.2.1, @id (Z.2.2.1 144 5 = .ref 150) hM.1.2.2.2.2.2.2.1, @id (Z.2.2.1 144 6 = .ref 151) hM.1.2.2.2.2.2.2.2, @id (Z.1 145 = 0) hM.2.1.1, @id (Z.1 146 = 0) hM.2.1.2.1, @id (Z.1 147 = 0) hM.2.1.2.2.1, @id (Z.1 148 = 0) hM.2.1.2.2.2.1, @id (Z.1 149 = 0) hM.2.1.2.2.2.2.1, @id (Z.1 150 = 0) hM.2.1.2.2.2.2.2.1, @id (Z.1 151 = 0) hM.2.1.2.2.2.2.2.2, @id (Z.2.1 145 = 667) hM.2.2.1, @id (Z.2.1 146 = 667) hM.2.2.2.1, @id (Z.2.1 147 = 4002) hM.2.2.2.2.1, @id (Z.2.1 148 = 60) hM.2.2.2.2.2.1, @id (Z.2.1 149 = 32) hM.2.2.2.2.2.2.1, @id (Z.2.1 150 = 32) hM.2.2.2.2.2.2.2.1, @id (Z.2.1 151 = 36) hM.2.2.2.2.2.2.2.2, up2_o, up2_e, iN_ap, iN_up, i_ix, i_inb, i_lt, i_lt0, i_0lt, i_eq, i_ne0, i_00, i_11, i_01, i_10, i_b, i_rem2, n_rem, i_add, i_mul, i_sub, i_div, i_max, i_min, rdk_0, rdk_3, kp_none, kp_int, kp_ref, kp_long, kp_double, aK_v, aK_0, aK_ite, if_true, if_false, and_self, and_true, true_and, or_false, false_or, not_true_eq_false, not_false_eq_true, ite_self, ↓reduceIte, kh, q1, s_mWithin1 e2, s_mFails hM]
      exact hF 2
    · rw [if_neg q2]
      have e2 : ¬ (nI d < nI (N0 145 1) ∨ nI 999 < nI d) := by
        rw [i_ltU hd (by omega), i_gtU hd (by omega), hdy]
        omega
      have km := s_mMayBook (L := L) (c := c) hM hh6 (show d < 2147483648 by omega) hz
      have kr := zMay_R hk.1 hk.2.1 hh6 d
      by_cases q3 : R 4 h < R 3 h ∧ aOpen R q (6 * h + R 4 h) d = true
      · rw [if_pos q3]
        have q4 := kr.mpr q3
        obtain ⟨N1, s1, s2, s3, s4⟩ := s_mSave (L := L) (c := c) hM hO0.1 hO.2.2.2.1
        have hk1 := MK_145 (N' := N1) hk (s4 145 (by omega) (by omega))
        obtain ⟨p, hp⟩ : ∃ p, p = 6 * h + R 4 h := ⟨_, rfl⟩
        have hp36 : p < 36 := by omega
        have hat := s_mAt (h := h) (k := R 4 h) (x := (Z, iN N1, L, c))
        rw [← hp] at hat q3 ⊢
        have l2 := fun M v => s_mLay (N := M) (L := L) (c := c) (v := v) hM (show 91 + 16 * p + 2 < 667 by omega)
        have l3 := fun M v => s_mLay (N := M) (L := L) (c := c) (v := v) hM (show 91 + 16 * p + 3 < 667 by omega)
        have l4 := fun M v => s_mLay (N := M) (L := L) (c := c) (v := v) hM (show 91 + 16 * p + 4 < 667 by omega)
        have hb := MZ_book (d := d) hk1.1 hp36 (by rw [show p / 6 = h by omega]; omega) (by rw [show p / 6 = h by omega]; omega)
        refine ⟨bkW N1 p d, ?_, ?_, ?_, fun a ha => ?_⟩
        · unfold bkW
          simp (disch := omega) only [r_X8_book_5, r_X8_book_6, r_X8_book_7, r_X8_book_10, r_X8_book_13, r_X8_book_14, r_X8_book_15, r_X8_book_18, r_X8_book_19, r_X8_book_20, r_X8_book_21, r_X8_book_24, r_X8_book_25, r_X8_book_26, r_X8_book_29, r_X8_book_32, r_X8_book_35, r_X8_book_36, r_X8_book_37, r_X8_book_40, r_X8_book_41, r_X8_book_42, r_X8_book_43, r_X8_book_44, r_X8_book_47, r_X8_book_50, r_X8_book_51, r_X8_book_52, r_X8_book_55, r_X8_book_56, r_X8_book_57, r_X8_book_60, r_X8_book_61, r_X8_book_62, r_X8_book_63, r_X8_book_66, r_X8_book_67, r_X8_book_68, r_X8_book_69, r_X8_book_72, r_X8_book_74, r_X8_book_75, r_X8_book_77, r_X8_book_78, r_X8_book_79, r_X8_book_82, r_X8_book_83, r_X8_book_85, r_X8_book_86, r_X8_book_87, r_X8_book_90, r_X8_book_91, r_X8_book_93, r_X8_book_94, r_X8_book_95, r_X8_book_98, r_X8_book_99, r_X8_book_100, r_X8_book_103, r_X8_book_104, r_X8_book_107, r_X8_book_108, r_X8_book_109, r_X8_book_110, r_X8_book_111, r_X8_book_112, r_X8_book_113, r_X8_book_114, hM.1.1, @id (Z.2.2.1 144 0 = .ref 145) hM.1.2.1, @id (Z.2.2.1 144 1 = .ref 146) hM.1.2.2.1, @id (Z.2.2.1 144 2 = .ref 147) hM.1.2.2.2.1, @id (Z.2.2.1 144 3 = .ref 148) hM.1.2.2.2.2.1, @id (Z.2.2.1 144 4 = .ref 149) hM.1.2.2.2.2.2.1, @id (Z.2.2.1 144 5 = .ref 150) hM.1.2.2.2.2.2.2.1, @id (Z.2.2.1 144 6 = .ref 151) hM.1.2.2.2.2.2.2.2, @id (Z.1 145 = 0) hM.2.1.1, @id (Z.1 146 = 0) hM.2.1.2.1, @id (Z.1 147 = 0) hM.2.1.2.2.1, @id (Z.1 148 = 0) hM.2.1.2.2.2.1, @id (Z.1 149 = 0) hM.2.1.2.2.2.2.1, @id (Z.1 150 = 0) hM.2.1.2.2.2.2.2.1, @id (Z.1 151 = 0) hM.2.1.2.2.2.2.2.2, @id (Z.2.1 145 = 667) hM.2.2.1, @id (Z.2.1 146 = 667) hM.2.2.2.1, @id (Z.2.1 147 = 4002) hM.2.2.2.2.1, @id (Z.2.1 148 = 60) hM.2.2.2.2.2.1, @id (Z.2.1 149 = 32) hM.2.2.2.2.2.2.1, @id (Z.2.1 150 = 32) hM.2.2.2.2.2.2.2.1, @id (Z.2.1 151 = 36) hM.2.2.2.2.2.2.2.2, up2_o, up2_e, iN_ap, iN_up, i_ix, i_inb, i_lt, i_lt0, i_0lt, i_eq, i_ne0, i_00, i_11, i_01, i_10, i_b, i_rem2, n_rem, i_add, i_mul, i_sub, i_div, i_max, i_min, rdk_0, rdk_3, kp_none, kp_int, kp_ref, kp_long, kp_double, aK_v, aK_0, aK_ite, if_true, if_false, and_self, and_true, true_and, or_false, false_or, not_true_eq_false, not_false_eq_true, ite_self, ↓reduceIte, kh, q1, s_mWithin0 e2, km, q4, s1, k_in1 hM hk1 hh6, hat, l2, l3, l4]
        · unfold bkW
          rw [up2_o (by omega), up2_o (by omega), up2_o (by omega), up2_o (by omega), s3 11 (by omega), hN0]
          exact up2_e ⟨rfl, rfl⟩
        · have hpq : p ∉ q := fun z => by
            have := ((hk.2.1.2.2.2.2.2.2.1 p).mp z).2.2
            rw [show p / 6 = h by omega] at this
            omega
          refine MV_up s2 ⟨_, o + 1, hb, BK_book hk.2.2.1 hpq (by have := hO.2.2.2.2; omega), by omega⟩ (by omega) ?_ ?_ ?_ ?_
          · unfold bkW
            rw [up145 (by omega), up145 (by omega), up145 (by omega), up145 (by omega)]
          · unfold bkW
            rw [up145 (by omega), up145 (by omega), up145 (by omega), up145 (by omega)]
          · unfold bkW
            rw [up145 (by omega), up145 (by omega), up145 (by omega), up145 (by omega)]
          · unfold bkW
            rw [up145 (by omega), up145 (by omega), up145 (by omega), up145 (by omega)]
        · unfold bkW
          rw [up145 (by omega), up145 (by omega), up145 (by omega), up145 (by omega), s4 a (by omega) (by omega), hN0, up144 (by omega)]
      · rw [if_neg q3]
        have q4 : ¬ zMay (N0 145) h d = true := fun z => q3 (kr.mp z)
        simp (disch := omega) only [r_X8_book_5, r_X8_book_6, r_X8_book_7, r_X8_book_10, r_X8_book_13, r_X8_book_14, r_X8_book_15, r_X8_book_18, r_X8_book_19, r_X8_book_20, r_X8_book_21, r_X8_book_24, r_X8_book_25, r_X8_book_26, r_X8_book_29, r_X8_book_32, r_X8_book_35, r_X8_book_36, r_X8_book_37, r_X8_book_40, r_X8_book_41, r_X8_book_42, r_X8_book_43, r_X8_book_44, r_X8_book_47, r_X8_book_50, r_X8_book_51, r_X8_book_52, r_X8_book_55, r_X8_book_56, r_X8_book_57, r_X8_book_60, r_X8_book_61, r_X8_book_62, r_X8_book_63, r_X8_book_66, r_X8_book_67, r_X8_book_68, r_X8_book_69, r_X8_book_72, r_X8_book_74, r_X8_book_75, r_X8_book_77, r_X8_book_78, r_X8_book_79, r_X8_book_82, r_X8_book_83, r_X8_book_85, r_X8_book_86, r_X8_book_87, r_X8_book_90, r_X8_book_91, r_X8_book_93, r_X8_book_94, r_X8_book_95, r_X8_book_98, r_X8_book_99, r_X8_book_100, r_X8_book_103, r_X8_book_104, r_X8_book_107, r_X8_book_108, r_X8_book_109, r_X8_book_110, r_X8_book_111, r_X8_book_112, r_X8_book_113, r_X8_book_114, hM.1.1, @id (Z.2.2.1 144 0 = .ref 145) hM.1.2.1, @id (Z.2.2.1 144 1 = .ref 146) hM.1.2.2.1, @id (Z.2.2.1 144 2 = .ref 147) hM.1.2.2.2.1, @id (Z.2.2.1 144 3 = .ref 148) hM.1.2.2.2.2.1, @id (Z.2.2.1 144 4 = .ref 149) hM.1.2.2.2.2.2.1, @id (Z.2.2.1 144 5 = .ref 150) hM.1.2.2.2.2.2.2.1, @id (Z.2.2.1 144 6 = .ref 151) hM.1.2.2.2.2.2.2.2, @id (Z.1 145 = 0) hM.2.1.1, @id (Z.1 146 = 0) hM.2.1.2.1, @id (Z.1 147 = 0) hM.2.1.2.2.1, @id (Z.1 148 = 0) hM.2.1.2.2.2.1, @id (Z.1 149 = 0) hM.2.1.2.2.2.2.1, @id (Z.1 150 = 0) hM.2.1.2.2.2.2.2.1, @id (Z.1 151 = 0) hM.2.1.2.2.2.2.2.2, @id (Z.2.1 145 = 667) hM.2.2.1, @id (Z.2.1 146 = 667) hM.2.2.2.1, @id (Z.2.1 147 = 4002) hM.2.2.2.2.1, @id (Z.2.1 148 = 60) hM.2.2.2.2.2.1, @id (Z.2.1 149 = 32) hM.2.2.2.2.2.2.1, @id (Z.2.1 150 = 32) hM.2.2.2.2.2.2.2.1, @id (Z.2.1 151 = 36) hM.2.2.2.2.2.2.2.2, up2_o, up2_e, iN_ap, iN_up, i_ix, i_inb, i_lt, i_lt0, i_0lt, i_eq, i_ne0, i_00, i_11, i_01, i_10, i_b, i_rem2, n_rem, i_add, i_mul, i_sub, i_div, i_max, i_min, rdk_0, rdk_3, kp_none, kp_int, kp_ref, kp_long, kp_double, aK_v, aK_0, aK_ite, if_true, if_false, and_self, and_true, true_and, or_false, false_or, not_true_eq_false, not_false_eq_true, ite_self, ↓reduceIte, kh, q1, s_mWithin0 e2, km, q4, Bool.false_eq_true, s_mFails hM]
        exact hF 3
  · rw [if_pos q1]
    simp (disch := omega) only [r_X8_book_5, r_X8_book_6, r_X8_book_7, r_X8_book_10, r_X8_book_13, r_X8_book_14, r_X8_book_15, r_X8_book_18, r_X8_book_19, r_X8_book_20, r_X8_book_21, r_X8_book_24, r_X8_book_25, r_X8_book_26, r_X8_book_29, r_X8_book_32, r_X8_book_35, r_X8_book_36, r_X8_book_37, r_X8_book_40, r_X8_book_41, r_X8_book_42, r_X8_book_43, r_X8_book_44, r_X8_book_47, r_X8_book_50, r_X8_book_51, r_X8_book_52, r_X8_book_55, r_X8_book_56, r_X8_book_57, r_X8_book_60, r_X8_book_61, r_X8_book_62, r_X8_book_63, r_X8_book_66, r_X8_book_67, r_X8_book_68, r_X8_book_69, r_X8_book_72, r_X8_book_74, r_X8_book_75, r_X8_book_77, r_X8_book_78, r_X8_book_79, r_X8_book_82, r_X8_book_83, r_X8_book_85, r_X8_book_86, r_X8_book_87, r_X8_book_90, r_X8_book_91, r_X8_book_93, r_X8_book_94, r_X8_book_95, r_X8_book_98, r_X8_book_99, r_X8_book_100, r_X8_book_103, r_X8_book_104, r_X8_book_107, r_X8_book_108, r_X8_book_109, r_X8_book_110, r_X8_book_111, r_X8_book_112, r_X8_book_113, r_X8_book_114, hM.1.1, @id (Z.2.2.1 144 0 = .ref 145) hM.1.2.1, @id (Z.2.2.1 144 1 = .ref 146) hM.1.2.2.1, @id (Z.2.2.1 144 2 = .ref 147) hM.1.2.2.2.1, @id (Z.2.2.1 144 3 = .ref 148) hM.1.2.2.2.2.1, @id (Z.2.2.1 144 4 = .ref 149) hM.1.2.2.2.2.2.1, @id (Z.2.2.1 144 5 = .ref 150) hM.1.2.2.2.2.2.2.1, @id (Z.2.2.1 144 6 = .ref 151) hM.1.2.2.2.2.2.2.2, @id (Z.1 145 = 0) hM.2.1.1, @id (Z.1 146 = 0) hM.2.1.2.1, @id (Z.1 147 = 0) hM.2.1.2.2.1, @id (Z.1 148 = 0) hM.2.1.2.2.2.1, @id (Z.1 149 = 0) hM.2.1.2.2.2.2.1, @id (Z.1 150 = 0) hM.2.1.2.2.2.2.2.1, @id (Z.1 151 = 0) hM.2.1.2.2.2.2.2.2, @id (Z.2.1 145 = 667) hM.2.2.1, @id (Z.2.1 146 = 667) hM.2.2.2.1, @id (Z.2.1 147 = 4002) hM.2.2.2.2.1, @id (Z.2.1 148 = 60) hM.2.2.2.2.2.1, @id (Z.2.1 149 = 32) hM.2.2.2.2.2.2.1, @id (Z.2.1 150 = 32) hM.2.2.2.2.2.2.2.1, @id (Z.2.1 151 = 36) hM.2.2.2.2.2.2.2.2, up2_o, up2_e, iN_ap, iN_up, i_ix, i_inb, i_lt, i_lt0, i_0lt, i_eq, i_ne0, i_00, i_11, i_01, i_10, i_b, i_rem2, n_rem, i_add, i_mul, i_sub, i_div, i_max, i_min, rdk_0, rdk_3, kp_none, kp_int, kp_ref, kp_long, kp_double, aK_v, aK_0, aK_ite, if_true, if_false, and_self, and_true, true_and, or_false, false_or, not_true_eq_false, not_false_eq_true, ite_self, ↓reduceIte, kh, q1, s_mFails hM]
    exact hF 1
end Mq
