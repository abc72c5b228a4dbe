/-! the queue moved, as a function; no day is reached beyond 1336 -/
def cnt (R : aY) (l : List Nat) (d : Nat) : Nat := sumL (fun x => if R 8 x = d then 1 else 0) l
def wgt (R : aY) (l : List Nat) (d : Nat) : Nat := sumL (fun x => if R 8 x = d then R 6 x else 0) l
def aOpen (R : aY) (l : List Nat) (p d : Nat) : Bool := decide (p % 6 < 1 ∨ R 8 (p - 1) ≤ d) && (Nat.blt (cnt R l d) (R 2 0) && Nat.ble (wgt R l d + R 6 p) (R 2 1))
theorem aOpen_iff {R : aY} {l : List Nat} {p d : Nat} : aOpen R l p d = true ↔ (p % 6 < 1 ∨ R 8 (p - 1) ≤ d) ∧ cnt R l d < R 2 0 ∧ wgt R l d + R 6 p ≤ R 2 1 := by
  unfold aOpen
  simp [Nat.blt, Nat.succ_le_iff]
def aFX (R : aY) (l : List Nat) (p : Nat) : Nat → Nat → Nat
  | 0, e => e
  | k + 1, e => if aOpen R l p e = true then e else aFX R l p k (e + 1)
theorem aFX_ge {R : aY} {l : List Nat} {p : Nat} : ∀ (k e : Nat), e ≤ aFX R l p k e
  | 0, e => Nat.le_refl _
  | k + 1, e => by
    unfold aFX
    split
    · exact Nat.le_refl _
    · exact Nat.le_trans (Nat.le_succ e) (aFX_ge k (e + 1))
theorem aFX_no {R : aY} {l : List Nat} {p : Nat} : ∀ (k e x : Nat), e ≤ x → x < aFX R l p k e → ¬ aOpen R l p x = true
  | 0, e, x, h1, h2 => by unfold aFX at h2; omega
  | k + 1, e, x, h1, h2 => by
    unfold aFX at h2
    split at h2
    · omega
    · by_cases q : x = e
      · rw [q]; assumption
      · exact aFX_no k (e + 1) x (by omega) h2
theorem aFX_yes {R : aY} {l : List Nat} {p : Nat} : ∀ (k e : Nat), aFX R l p k e < e + k → aOpen R l p (aFX R l p k e) = true
  | 0, e, h => by unfold aFX at h; omega
  | k + 1, e, h => by
    unfold aFX at h ⊢
    split
    · assumption
    · rename_i q
      rw [if_neg q] at h
      exact aFX_yes k (e + 1) (by omega)
def aFo (R : aY) (l : List Nat) (p : Nat) : Nat := aFX R l p (1400 - max (R 8 p) (R 0 0)) (max (R 8 p) (R 0 0))
def aMv (R : aY) (p d : Nat) : aY := if d = R 8 p then R else up2 (up2 R 8 p d) 11 p (R 11 p + 1)
def aMvL : List Nat → List Nat → aY → aY
  | [], _, R => R
  | p :: rs, l, R => aMvL rs (p :: l) (aMv R p (aFo R l p))
def aOK : List Nat → List Nat → aY → Prop
  | [], _, _ => True
  | p :: rs, l, R => (aFo R l p < 1400 ∧ aOpen R l p (aFo R l p) = true) ∧ aOK rs (p :: l) (aMv R p (aFo R l p))
theorem aMv_o {R : aY} {p d a j : Nat} (h8 : a ≠ 8) (h11 : a ≠ 11) : aMv R p d a j = R a j := by
  unfold aMv
  split
  · rfl
  · rw [up2_o (fun z => h11 z.1), up2_o (fun z => h8 z.1)]
theorem aMv_8 {R : aY} {p d j : Nat} : aMv R p d 8 j = if j = p then d else R 8 j := by
  unfold aMv
  split
  · rename_i h
    split
    · rename_i h2; rw [h2, h]
    · rfl
  · rw [up2_o (by omega)]
    unfold up2
    simp
theorem aMvL_o {a j : Nat} (h8 : a ≠ 8) (h11 : a ≠ 11) : ∀ (rs l : List Nat) (R : aY), aMvL rs l R a j = R a j
  | [], _, _ => rfl
  | p :: rs, l, R => by
    unfold aMvL
    rw [aMvL_o h8 h11 rs, aMv_o h8 h11]
theorem sumL_pos {f : Nat → Nat} : ∀ (l : List Nat), 1 ≤ sumL f l → ∃ x ∈ l, 1 ≤ f x
  | [], h => by simp [sumL] at h
  | p :: l, h => by
    unfold sumL at h
    by_cases q : 1 ≤ f p
    · exact ⟨p, List.mem_cons_self, q⟩
    · obtain ⟨x, h1, h2⟩ := sumL_pos (f := f) l (by omega)
      exact ⟨x, List.mem_cons_of_mem _ h1, h2⟩
theorem sumL_le {f g : Nat → Nat} : ∀ (l : List Nat), (∀ x ∈ l, f x ≤ g x) → sumL f l ≤ sumL g l
  | [], _ => Nat.le_refl _
  | p :: l, h => by
    have h1 := h p List.mem_cons_self
    have h2 := sumL_le l (fun x hx => h x (List.mem_cons_of_mem _ hx))
    unfold sumL
    omega
theorem sumL_lt {f g : Nat → Nat} : ∀ (l : List Nat), (∀ x ∈ l, f x ≤ g x) → (∃ x ∈ l, f x < g x) → sumL f l + 1 ≤ sumL g l
  | [], _, ⟨x, hx, _⟩ => by simp at hx
  | p :: l, h, ⟨x, hx, hl⟩ => by
    have h1 := h p List.mem_cons_self
    unfold sumL
    rcases List.mem_cons.mp hx with e | e
    · subst e
      have h2 := sumL_le l (fun x hx => h x (List.mem_cons_of_mem _ hx))
      omega
    · have h2 := sumL_lt l (fun x hx => h x (List.mem_cons_of_mem _ hx)) ⟨x, e, hl⟩
      omega
theorem sumL_bd {f : Nat → Nat} {b : Nat} : ∀ (l : List Nat), (∀ x ∈ l, f x ≤ b) → sumL f l ≤ b * l.length
  | [], _ => Nat.zero_le _
  | p :: l, h => by
    have h1 := h p List.mem_cons_self
    have h2 := sumL_bd l (fun x hx => h x (List.mem_cons_of_mem _ hx))
    unfold sumL
    rw [List.length_cons, Nat.mul_succ]
    omega
theorem sumL_congr {f g : Nat → Nat} : ∀ (l : List Nat), (∀ x ∈ l, f x = g x) → sumL f l = sumL g l
  | [], _ => rfl
  | p :: l, h => by
    unfold sumL
    rw [h p List.mem_cons_self, sumL_congr l (fun x hx => h x (List.mem_cons_of_mem _ hx))]
/-- how many are booked for a day from t on -/
def cg (R : aY) (q : List Nat) (t : Nat) : Nat := sumL (fun x => if R 8 x < t then 0 else 1) q
/-- where the moves stand: l are moved, rs are left; R0 is from before, M the last day that is reached by booking or by the present day -/
def MI (R0 : aY) (q : List Nat) (M : Nat) (l rs : List Nat) (R : aY) : Prop :=
  (∀ a j, a ≠ 8 → a ≠ 11 → R a j = R0 a j) ∧ (∀ x, x ∉ l → R 8 x = R0 8 x) ∧ (∀ x ∈ l, R0 8 x ≤ R 8 x) ∧
  (∀ t, M < t → (∃ x ∈ l, R0 8 x < t ∧ t ≤ R 8 x) → ∃ x ∈ l, R 8 x = t - 1) ∧
  (∀ x ∈ l, 1 ≤ x % 6 → R 8 (x - 1) ≤ R 8 x) ∧ (∀ x, x ∈ q ↔ x ∈ l ∨ x ∈ rs) ∧ rs.Pairwise (fun a b => a / 6 = b / 6 → a < b) ∧ rs.Nodup ∧ (∀ x ∈ l, ∀ y ∈ rs, x ≠ y ∧ (x / 6 = y / 6 → x < y))
theorem MI_cg {R0 : aY} {q l : List Nat} {M : Nat} {R : aY} (hM : ∀ x, x ∉ l → R 8 x = R0 8 x) (hJ : ∀ t, M < t → (∃ x ∈ l, R0 8 x < t ∧ t ≤ R 8 x) → ∃ x ∈ l, R 8 x = t - 1) (hl : ∀ x ∈ l, x ∈ q) (hq : q.length ≤ 36) (h0 : ∀ t, 1 ≤ cg R0 q t → cg R0 q t + t ≤ 37 + M) : ∀ t, 1 ≤ cg R q t → cg R q t + t ≤ 37 + M
  | 0, _ => by
    have := sumL_bd (f := fun x => if R 8 x < 0 then 0 else 1) (b := 1) q (fun x _ => by split <;> omega)
    unfold cg
    omega
  | t + 1, h => by
    have hb := sumL_bd (f := fun x => if R 8 x < t + 1 then 0 else 1) (b := 1) q (fun x _ => by split <;> omega)
    have hb2 : cg R q (t + 1) ≤ 36 := by unfold cg; omega
    by_cases ht : t ≤ M
    · omega
    · by_cases hc : ∃ x ∈ l, R0 8 x < t + 1 ∧ t + 1 ≤ R 8 x
      · obtain ⟨y, hy, hd⟩ := hJ (t + 1) (by omega) hc
        have hs : cg R q (t + 1) + 1 ≤ cg R q t := by
          refine sumL_lt q (fun x _ => ?_) ⟨y, hl y hy, ?_⟩
          · split
            · omega
            · rw [if_neg (by omega)]; omega
          · rw [if_pos (by omega), if_neg (by omega)]; omega
        have := MI_cg hM hJ hl hq h0 t (by omega)
        omega
      · have hle : cg R q (t + 1) ≤ cg R0 q (t + 1) := by
          refine sumL_le q (fun x _ => ?_)
          by_cases hx : R 8 x < t + 1
          · rw [if_pos hx]; omega
          · rw [if_neg hx]
            by_cases hxl : x ∈ l
            · have : ¬ R0 8 x < t + 1 := fun z => hc ⟨x, hxl, z, by omega⟩
              rw [if_neg this]
              omega
            · rw [hM x hxl] at hx
              rw [if_neg hx]
              omega
        have := h0 (t + 1) (by omega)
        omega
theorem mv_step {R0 : aY} {q l rs : List Nat} {M p : Nat} {R : aY} (hI : MI R0 q M l (p :: rs) R) (hq : q.length ≤ 36) (hT : R0 0 0 ≤ M) (hM : M ≤ 1300) (h0 : ∀ t, 1 ≤ cg R0 q t → cg R0 q t + t ≤ 37 + M)
    (hs : 1 ≤ R0 2 0 ∧ 3 ≤ R0 2 1) (hw : R0 6 p ≤ 3) (ha : 1 ≤ p % 6 → (p - 1 ∈ q ∨ R0 8 (p - 1) ≤ M)) (ha2 : 1 ≤ p % 6 → R0 8 (p - 1) ≤ R0 8 p) :
    (aFo R l p < 1400 ∧ aOpen R l p (aFo R l p) = true) ∧ MI R0 q M (p :: l) rs (aMv R p (aFo R l p)) := by
  obtain ⟨i1, i2, i3, i4, i5, i6, i7, i8, i9⟩ := hI
  have hpl : p ∉ l := fun z => (i9 p z p List.mem_cons_self).1 rfl
  have hpq : p ∈ q := (i6 p).mpr (Or.inr List.mem_cons_self)
  obtain ⟨p1, p2⟩ := List.pairwise_cons.mp i7
  obtain ⟨n1, n2⟩ := List.nodup_cons.mp i8
  have e0 : R 0 0 = R0 0 0 := i1 _ _ (by omega) (by omega)
  have hge : max (R 8 p) (R 0 0) ≤ aFo R l p := aFX_ge _ _
  have hno : ∀ x, max (R 8 p) (R 0 0) ≤ x → x < aFo R l p → ¬ aOpen R l p x = true := fun x h1 h2 => aFX_no _ _ x h1 h2
  have hR8 : R 8 p = R0 8 p := i2 p hpl
  have hJ : ∀ t, M < t → (∃ x ∈ p :: l, R0 8 x < t ∧ t ≤ aMv R p (aFo R l p) 8 x) → ∃ x ∈ p :: l, aMv R p (aFo R l p) 8 x = t - 1 := by
    intro t ht hx
    have old : (∃ x ∈ l, R 8 x = t - 1) → ∃ x ∈ p :: l, aMv R p (aFo R l p) 8 x = t - 1 := by
      rintro ⟨y, hy, hd⟩
      refine ⟨y, List.mem_cons_of_mem _ hy, ?_⟩
      rw [aMv_8, if_neg (fun z : y = p => hpl (z ▸ hy))]
      exact hd
    obtain ⟨x, hx, h1, h2⟩ := hx
    rcases List.mem_cons.mp hx with e | e
    · subst e
      rw [aMv_8, if_pos rfl] at h2
      have hn := hno (t - 1) (by omega) (by omega)
      rw [aOpen_iff] at hn
      have wo : ∀ d, wgt R l d = 0 ∨ ∃ y ∈ l, R 8 y = d := fun d => by
        by_cases z : wgt R l d = 0
        · exact Or.inl z
        · obtain ⟨y, hy, hh⟩ := sumL_pos l (show 1 ≤ wgt R l d by omega)
          refine Or.inr ⟨y, hy, ?_⟩
          by_cases w : R 8 y = d
          · exact w
          · rw [if_neg w] at hh; omega
      have co : ∀ d, cnt R l d = 0 ∨ ∃ y ∈ l, R 8 y = d := fun d => by
        by_cases z : cnt R l d = 0
        · exact Or.inl z
        · obtain ⟨y, hy, hh⟩ := sumL_pos l (show 1 ≤ cnt R l d by omega)
          refine Or.inr ⟨y, hy, ?_⟩
          by_cases w : R 8 y = d
          · exact w
          · rw [if_neg w] at hh; omega
      have e20 : R 2 0 = R0 2 0 := i1 _ _ (by omega) (by omega)
      have e21 : R 2 1 = R0 2 1 := i1 _ _ (by omega) (by omega)
      have e6 : R 6 x = R0 6 x := i1 _ _ (by omega) (by omega)
      rcases wo (t - 1) with w | w
      · rcases co (t - 1) with w2 | w2
        · have hah : 1 ≤ x % 6 ∧ t ≤ R 8 (x - 1) := by
            by_cases z : x % 6 < 1 ∨ R 8 (x - 1) ≤ t - 1
            · exact absurd ⟨z, by omega, by omega⟩ hn
            · omega
          have hb := ha hah.1
          have hb2 := ha2 hah.1
          by_cases hl : x - 1 ∈ l
          · exact old (i4 t ht ⟨x - 1, hl, by omega, hah.2⟩)
          · rw [i2 _ hl] at hah
            rcases hb with hb | hb
            · rcases (i6 (x - 1)).mp hb with z | z
              · exact absurd z hl
              · rcases List.mem_cons.mp z with z | z
                · omega
                · have := p1 _ z (by omega)
                  omega
            · omega
        · exact old w2
      · exact old w
    · have : ¬ x = p := fun z => hpl (z ▸ e)
      rw [aMv_8, if_neg this] at h2
      exact old (i4 t ht ⟨x, e, h1, h2⟩)
  have hM2 : ∀ x, x ∉ p :: l → aMv R p (aFo R l p) 8 x = R0 8 x := fun x hx => by
    rw [aMv_8, if_neg (fun z : x = p => hx (z ▸ List.mem_cons_self))]
    exact i2 x (fun z => hx (List.mem_cons_of_mem _ z))
  have hlq : ∀ x ∈ p :: l, x ∈ q := fun x hx => by
    rcases List.mem_cons.mp hx with e | e
    · rw [e]; exact hpq
    · exact (i6 x).mpr (Or.inl e)
  have hcg := MI_cg hM2 hJ hlq hq h0 (aFo R l p) (by
    have : sumL (fun _ => 0) q + 1 ≤ cg (aMv R p (aFo R l p)) q (aFo R l p) := by
      refine sumL_lt q (fun x _ => Nat.zero_le _) ⟨p, hpq, ?_⟩
      rw [aMv_8, if_pos rfl, if_neg (by omega)]
      omega
    omega)
  have hcg1 : 1 ≤ cg (aMv R p (aFo R l p)) q (aFo R l p) := by
    have : sumL (fun _ => 0) q + 1 ≤ cg (aMv R p (aFo R l p)) q (aFo R l p) := by
      refine sumL_lt q (fun x _ => Nat.zero_le _) ⟨p, hpq, ?_⟩
      rw [aMv_8, if_pos rfl, if_neg (by omega)]
      omega
    omega
  have hd : aFo R l p < 1400 := by omega
  have hyes : aOpen R l p (aFo R l p) = true := aFX_yes _ _ (by
    show aFo R l p < _
    omega)
  have ho := (aOpen_iff.mp hyes).1
  refine ⟨⟨hd, hyes⟩, fun a j h8 h11 => by rw [aMv_o h8 h11]; exact i1 a j h8 h11, hM2, fun x hx => ?_, hJ, fun x hx hx1 => ?_, fun x => ?_, p2, n2, fun x hx y hy => ?_⟩
  · rcases List.mem_cons.mp hx with e | e
    · subst e
      rw [aMv_8, if_pos rfl]
      omega
    · rw [aMv_8, if_neg (fun z : x = p => hpl (z ▸ e))]
      exact i3 x e
  · rcases List.mem_cons.mp hx with e | e
    · subst e
      rw [aMv_8, aMv_8, if_pos rfl, if_neg (by omega)]
      omega
    · have hxp := (i9 x e p List.mem_cons_self)
      rw [aMv_8, aMv_8, if_neg hxp.1, if_neg (fun z => by have := hxp.2 (by omega); omega)]
      exact i5 x e hx1
  · rw [i6 x, List.mem_cons, List.mem_cons]
    exact ⟨fun h => h.elim (fun h => Or.inl (Or.inr h)) (fun h => h.elim (fun h => Or.inl (Or.inl h)) Or.inr), fun h => h.elim (fun h => h.elim (fun h => Or.inr (Or.inl h)) Or.inl) (fun h => Or.inr (Or.inr h))⟩
  · rcases List.mem_cons.mp hx with e | e
    · subst e
      exact ⟨fun z => n1 (z ▸ hy), p1 y hy⟩
    · exact i9 x e y (List.mem_cons_of_mem _ hy)
theorem mv_all {R0 : aY} {q : List Nat} {M : Nat} (hq : q.length ≤ 36) (hT : R0 0 0 ≤ M) (hM : M ≤ 1300) (h0 : ∀ t, 1 ≤ cg R0 q t → cg R0 q t + t ≤ 37 + M)
    (hs : 1 ≤ R0 2 0 ∧ 3 ≤ R0 2 1) (hw : ∀ p ∈ q, R0 6 p ≤ 3) (ha : ∀ p ∈ q, 1 ≤ p % 6 → (p - 1 ∈ q ∨ R0 8 (p - 1) ≤ M)) (ha2 : ∀ p ∈ q, 1 ≤ p % 6 → R0 8 (p - 1) ≤ R0 8 p) : ∀ (rs l : List Nat) (R : aY), MI R0 q M l rs R → aOK rs l R ∧ ∃ l', MI R0 q M l' [] (aMvL rs l R)
  | [], l, R, h => ⟨trivial, l, h⟩
  | p :: rs, l, R, h => by
    have hpq : p ∈ q := (h.2.2.2.2.2.1 p).mpr (Or.inr List.mem_cons_self)
    obtain ⟨h1, h2⟩ := mv_step h hq hT hM h0 hs (hw p hpq) (ha p hpq) (ha2 p hpq)
    obtain ⟨h3, h4⟩ := mv_all hq hT hM h0 hs hw ha ha2 rs (p :: l) _ h2
    exact ⟨⟨h1, h3⟩, h4⟩
theorem insR_hs {D : Nat → Nat} {p : Nat} : ∀ (l : List Nat), l.Pairwise (fun a b => b / 6 = a / 6 → b < a) → (∀ x ∈ l, x / 6 = p / 6 → x < p ∧ D x ≤ D p) → (insR D p l).Pairwise (fun a b => b / 6 = a / 6 → b < a)
  | [], _, _ => by simp [insR]
  | x :: l, h, hb => by
    obtain ⟨h1, h2⟩ := List.pairwise_cons.mp h
    have hx := hb x List.mem_cons_self
    unfold insR
    split
    · refine List.pairwise_cons.mpr ⟨fun z hz => ?_, insR_hs l h2 (fun y hy => hb y (List.mem_cons_of_mem _ hy))⟩
      rcases (insR_mem l).mp hz with w | w
      · intro e
        rw [w] at e
        have := hx (by omega)
        omega
      · exact h1 z w
    · refine List.pairwise_cons.mpr ⟨fun z hz e => (hb z hz e).1, h⟩
theorem srtR_hs {D : Nat → Nat} : ∀ (q l : List Nat), q.Pairwise (fun a b => a / 6 = b / 6 → a < b ∧ D a ≤ D b) → l.Pairwise (fun a b => b / 6 = a / 6 → b < a) → (∀ x ∈ l, ∀ y ∈ q, x / 6 = y / 6 → x < y ∧ D x ≤ D y) → (srtR D q l).Pairwise (fun a b => b / 6 = a / 6 → b < a)
  | [], l, _, h, _ => h
  | p :: q, l, hq, h, hb => by
    obtain ⟨h1, h2⟩ := List.pairwise_cons.mp hq
    unfold srtR
    refine srtR_hs q _ h2 (insR_hs l h (fun x hx => hb x hx p List.mem_cons_self)) (fun x hx y hy => ?_)
    rcases (insR_mem l).mp hx with w | w
    · rw [w]; exact h1 y hy
    · exact hb x w y (List.mem_cons_of_mem _ hy)
theorem aT_hs {D : Nat → Nat} {q : List Nat} (h : q.Pairwise (fun a b => a / 6 = b / 6 → a < b ∧ D a ≤ D b)) : (aT D q).Pairwise (fun a b => a / 6 = b / 6 → a < b) := by
  unfold aT
  rw [List.pairwise_reverse]
  exact srtR_hs q [] h List.Pairwise.nil (fun x hx => by simp at hx)
theorem insR_nd {D : Nat → Nat} {p : Nat} : ∀ (l : List Nat), l.Nodup → p ∉ l → (insR D p l).Nodup
  | [], _, _ => by simp [insR]
  | x :: l, h, hp => by
    obtain ⟨h1, h2⟩ := List.nodup_cons.mp h
    unfold insR
    split
    · refine List.nodup_cons.mpr ⟨fun z => ?_, insR_nd l h2 (fun z => hp (List.mem_cons_of_mem _ z))⟩
      rcases (insR_mem l).mp z with w | w
      · exact hp (w ▸ List.mem_cons_self)
      · exact h1 w
    · exact List.nodup_cons.mpr ⟨hp, h⟩
theorem srtR_nd {D : Nat → Nat} : ∀ (q l : List Nat), q.Nodup → l.Nodup → (∀ x ∈ q, x ∉ l) → (srtR D q l).Nodup
  | [], l, _, h, _ => h
  | p :: q, l, hq, h, hb => by
    obtain ⟨h1, h2⟩ := List.nodup_cons.mp hq
    unfold srtR
    refine srtR_nd q _ h2 (insR_nd l h (hb p List.mem_cons_self)) (fun x hx z => ?_)
    rcases (insR_mem l).mp z with w | w
    · exact h1 (w ▸ hx)
    · exact hb x (List.mem_cons_of_mem _ hx) w
theorem aT_nd {D : Nat → Nat} {q : List Nat} (h : q.Nodup) : (aT D q).Nodup := by
  unfold aT
  have := srtR_nd (D := D) q [] h List.nodup_nil (fun x _ => by simp)
  unfold List.Nodup at this ⊢
  rw [List.pairwise_reverse]
  exact List.Pairwise.imp (fun h => Ne.symm h) this
