/-! the reference's array beside a yard -/
def zOn (R : aY) (m : Nat) : Nat := if R 4 (m / 6) ≤ m % 6 then 0 else R 8 m
def stg (R : aY) (m : Nat) : Nat := if m % 6 < R 5 (m / 6) then 2 else if m % 6 < R 4 (m / 6) then 1 else 0
def MZs (z : Nat → Nat) (R : aY) (S B : Nat → Nat) (o : Nat) : Prop :=
  (z 0 = R 0 1 ∧ z 1 = R 0 0 ∧ z 2 = o ∧ z 3 = R 0 2) ∧ (∀ i, i < 60 → z (4 + i) = R 1 i) ∧ (∀ i, i < 5 → z (64 + i) = R 2 i) ∧ (∀ i, i < 16 → z (69 + i) = R 14 i) ∧ (∀ h, h < 6 → z (85 + h) = R 3 h) ∧
  (∀ m, m < 36 → zo z m 0 = R 6 m ∧ zo z m 1 = R 7 m ∧ zo z m 2 = S m ∧ zo z m 3 = zOn R m ∧ zo z m 4 = B m ∧ zo z m 5 = R 9 m ∧ zo z m 6 = R 11 m ∧ zo z m 7 = R 10 m) ∧
  (∀ m, m < 36 → ∀ t, t < 4 → zo z m (8 + t) = R 12 (m * 4 + t) ∧ zo z m (12 + t) = R 13 (m * 4 + t))
def MZ (z : Nat → Nat) (R : aY) (B : Nat → Nat) (o : Nat) : Prop := MZs z R (stg R) B o
/-- the keys of the order of booking -/
def BK (q : List Nat) (B : Nat → Nat) (o : Nat) : Prop := q.Pairwise (fun a b => B a < B b) ∧ (∀ m, m < 36 → B m ≤ o) ∧ (∀ x ∈ q, B x < o) ∧ o ≤ 1000
theorem BK_sub {q q' : List Nat} {B : Nat → Nat} {o : Nat} (h : BK q B o) (hs : q'.Sublist q) : BK q' B o := ⟨h.1.sublist hs, h.2.1, fun x hx => h.2.2.1 x (hs.subset hx), h.2.2.2⟩
theorem BK_ne {B : Nat → Nat} : ∀ (q : List Nat), q.Pairwise (fun a b => B a < B b) → ∀ x ∈ q, ∀ y ∈ q, x ≠ y → B x ≠ B y
  | [], _, x, hx, _, _, _ => by simp at hx
  | p :: q, h, x, hx, y, hy, hne => by
    obtain ⟨h1, h2⟩ := List.pairwise_cons.mp h
    rcases List.mem_cons.mp hx with e | e
    · rcases List.mem_cons.mp hy with e2 | e2
      · exact absurd (e.trans e2.symm) hne
      · have := h1 y e2
        rw [e]
        omega
    · rcases List.mem_cons.mp hy with e2 | e2
      · have := h1 x e
        rw [e2]
        omega
      · exact BK_ne q h2 x e y e2 hne
theorem MZ_congr {z z' : Nat → Nat} {R : aY} {S B : Nat → Nat} {o : Nat} (h : MZs z R S B o) (he : ∀ i, i < 667 → z' i = z i) : MZs z' R S B o := by
  obtain ⟨⟨a1, a2, a3, a4⟩, b, c, d, e, f, g⟩ := h
  have ho : ∀ m k, m < 36 → k < 16 → zo z' m k = zo z m k := fun m k h1 h2 => he _ (by omega)
  refine ⟨⟨by rw [he _ (by omega)]; exact a1, by rw [he _ (by omega)]; exact a2, by rw [he _ (by omega)]; exact a3, by rw [he _ (by omega)]; exact a4⟩, fun i hi => by rw [he _ (by omega)]; exact b i hi, fun i hi => by rw [he _ (by omega)]; exact c i hi, fun i hi => by rw [he _ (by omega)]; exact d i hi, fun i hi => by rw [he _ (by omega)]; exact e i hi, fun m hm => ?_, fun m hm t ht => ?_⟩
  · rw [ho m 0 hm (by omega), ho m 1 hm (by omega), ho m 2 hm (by omega), ho m 3 hm (by omega), ho m 4 hm (by omega), ho m 5 hm (by omega), ho m 6 hm (by omega), ho m 7 hm (by omega)]
    exact f m hm
  · rw [ho m _ hm (by omega), ho m _ hm (by omega)]
    exact g m hm t ht
theorem WF_zOn {R : aY} {q : List Nat} (h : WF R q) {m : Nat} (hm : m < 36) : zOn R m < 1400 := by
  unfold zOn
  split
  · omega
  · exact ((h.2.2.2.2.1 m hm).2.1 (by omega)).1
theorem MZs_Zb {z : Nat → Nat} {R : aY} {S B : Nat → Nat} {o : Nat} {q : List Nat} (h : MZs z R S B o) (hw : WF R q) (hS : ∀ m, m < 36 → S m ≤ 3) (hb : BK q B o) (ht : R 0 0 ≤ 1300) : Zb z := by
  obtain ⟨⟨a1, a2, a3, a4⟩, b, c, d, e, f, g⟩ := h
  have hz := fun m (hm : m < 36) => WF_zOn hw hm
  obtain ⟨⟨w1, w2, w3⟩, wh, wp, ws, -⟩ := hw
  refine ⟨⟨by omega, by omega, by have := hb.2.2.2; omega, by omega, by omega⟩, fun i hi => by rw [b i hi]; exact w2 i hi, fun i hi => ?_, fun i hi => by rw [e i hi]; exact (wh i hi).2.2.1, fun m hm => ?_, fun m hm t ht => ?_⟩
  · rw [c i hi]
    rcases (show i = 0 ∨ i = 1 ∨ i = 2 ∨ i = 3 ∨ i = 4 by omega) with rfl | rfl | rfl | rfl | rfl <;> omega
  · obtain ⟨f0, f1, f2, f3, f4, -⟩ := f m hm
    rw [f0, f1, f2, f3, f4]
    have := hz m hm
    have := hb.2.1 m hm
    have := hb.2.2.2
    exact ⟨(wp m hm).1, (wp m hm).2.1, hS m hm, by omega, by omega⟩
  · rw [(g m hm t ht).1, (g m hm t ht).2]
    exact ⟨(ws m hm t ht).1, (ws m hm t ht).2.1⟩
theorem stg_le {R : aY} {m : Nat} : stg R m ≤ 2 := by
  unfold stg
  split
  · omega
  · split <;> omega
theorem stg_1 {R : aY} {q : List Nat} (hw : WF R q) {x : Nat} (hx : x < 36) : stg R x = 1 ↔ x ∈ q := by
  rw [hw.2.2.2.2.2.2.1 x]
  unfold stg
  by_cases h1 : x % 6 < R 5 (x / 6)
  · rw [if_pos h1]
    omega
  · rw [if_neg h1]
    by_cases h2 : x % 6 < R 4 (x / 6)
    · rw [if_pos h2]
      omega
    · rw [if_neg h2]
      omega
theorem zTh_R {z : Nat → Nat} {R : aY} {S B : Nat → Nat} {o : Nat} (h : MZs z R S B o) (hh : WFh R) {x : Nat} (hx : x < 36) : zTh z x = true ↔ x % 6 < R 3 (x / 6) := by
  rw [zTh_iff, h.1.1, h.2.2.2.2.1 _ (by omega)]
  have := (hh (x / 6) (by omega)).2.2.2
  omega
/-- the order that is laid is the queue's, by days -/
theorem lfB_T {z : Nat → Nat} {R : aY} {B : Nat → Nat} {o : Nat} {q : List Nat} (h : MZ z R B o) (hw : WF R q) (hb : BK q B o) : (lfB z (6 * z 0) 0 []).reverse = aT (R 8) q := by
  have hq : ∀ x, x < 36 → (zq z x = true ↔ x ∈ q) := fun x hx => by
    rw [zq_iff, zTh_R h hw.2.1 hx, (h.2.2.2.2.2.1 x hx).2.2.1, stg_1 hw hx]
    refine ⟨And.right, fun hq => ⟨?_, hq⟩⟩
    have := ((hw.2.2.2.2.2.2.1 x).mp hq).2.2
    have := (hw.2.1 (x / 6) (by omega)).2.1
    omega
  have h0 : z 0 ≤ 6 := by
    rw [h.1.1]
    exact hw.1.1.1
  have hd : ∀ x, x ∈ q → zo z x 3 = R 8 x ∧ zo z x 4 = B x := fun x hx => by
    obtain ⟨u1, u2, u3⟩ := (hw.2.2.2.2.2.2.1 x).mp hx
    obtain ⟨f0, f1, f2, f3, f4, -⟩ := h.2.2.2.2.2.1 x u1
    refine ⟨?_, f4⟩
    rw [f3]
    unfold zOn
    rw [if_neg (by omega)]
  refine srt_un (lt := kLt (R 8) B) kLt_as _ _ ?_ (aT_srt hb.1) (fun x => ?_)
  · rw [List.pairwise_reverse]
    refine lfB_srt _ _ _ (fun x y hx hy h1 h2 => ?_) (fun x y hx hy h1 h2 hne => ?_) (fun x hx => by simp at hx) List.Pairwise.nil
    · have hx := (hq x (by omega)).mp hx
      have hy := (hq y (by omega)).mp hy
      rw [zLt_iff, (hd x hx).1, (hd x hx).2, (hd y hy).1, (hd y hy).2]
      exact Iff.rfl
    · exact BK_ne q hb.1 x ((hq x (by omega)).mp hx) y ((hq y (by omega)).mp hy) hne
  · rw [List.mem_reverse, lfB_mem, aT_mem]
    refine ⟨fun hx => ?_, fun hx => ?_⟩
    · rcases hx with hx | hx
      · simp at hx
      · exact (hq x (by omega)).mp hx.2.2
    · have u1 := ((hw.2.2.2.2.2.2.1 x).mp hx).1
      have hz := (hq x u1).mpr hx
      have := (zTh_iff.mp (zq_iff.mp hz).1).1
      exact Or.inr ⟨by omega, by omega, hz⟩
/-! a module is set in both -/
theorem mSh_o {m held : Nat} (hm : m < 36) : ∀ (k t : Nat) (N : Nat → Nat → Nat) (a i : Nat), t + k = 4 → (a ≠ 145 ∨ i < 91) → mSh m held k t N a i = N a i
  | 0, _, _, _, _, _, _ => rfl
  | k + 1, t, N, a, i, h, hi => by
    unfold mSh
    rw [mSh_o hm k (t + 1) _ a i (by omega) hi, up2_o (by omega)]
theorem mSh_z {m held : Nat} (hm : m < 36) : ∀ (k t : Nat) (N : Nat → Nat → Nat) (x j : Nat), t + k = 4 → j < 16 → (j < 8 ∨ 12 ≤ j) → zo (mSh m held k t N 145) x j = zo (N 145) x j
  | 0, _, _, _, _, _, _, _ => rfl
  | k + 1, t, N, x, j, h, hj, hj2 => by
    unfold mSh
    rw [mSh_z hm k (t + 1) _ x j (by omega) hj hj2, zo_o (by omega) (by omega) (by omega)]
theorem mSh_8 {m held : Nat} (hm : m < 36) : ∀ (k t : Nat) (N : Nat → Nat → Nat) (x u : Nat), t + k = 4 → u < 4 → zo (mSh m held k t N 145) x (8 + u) = if x = m ∧ t ≤ u then held / 4 + (if u < held % 4 then 1 else 0) else zo (N 145) x (8 + u)
  | 0, t, N, x, u, h, hu => by
    rw [if_neg (fun z => by omega)]
    rfl
  | k + 1, t, N, x, u, h, hu => by
    unfold mSh
    rw [mSh_8 hm k (t + 1) _ x u (by omega) hu]
    by_cases q : x = m ∧ t ≤ u
    · rw [if_pos q]
      by_cases q2 : t + 1 ≤ u
      · rw [if_pos ⟨q.1, q2⟩]
      · have e : u = t := by omega
        rw [if_neg (fun z => q2 z.2), q.1, e, zo_e]
    · rw [if_neg q, if_neg (fun z => q ⟨z.1, by omega⟩), zo_o (by omega) (by omega) (by omega)]
theorem mSet_o {N : Nat → Nat → Nat} {m a i : Nat} (hm : m < 36) (h : a ≠ 145 ∨ i < 91) : mSet N m a i = N a i := by
  unfold mSet
  rw [mSh_o hm 4 0 _ a i rfl h, up2_o (by omega), up2_o (by omega)]
theorem mSet_z {N : Nat → Nat → Nat} {m x j : Nat} (hm : m < 36) (hj : j < 16) (h : j < 8 ∨ 12 ≤ j) (h2 : j ≠ 2) (h5 : j ≠ 5) : zo (mSet N m 145) x j = zo (N 145) x j := by
  unfold mSet
  rw [mSh_z hm 4 0 _ x j rfl hj h, zo_o (by omega) (by omega) (by omega), zo_o (by omega) (by omega) (by omega)]
theorem mSet_2 {N : Nat → Nat → Nat} {m x : Nat} (hm : m < 36) : zo (mSet N m 145) x 2 = if x = m then 2 else zo (N 145) x 2 := by
  unfold mSet
  rw [mSh_z hm 4 0 _ x 2 rfl (by omega) (by omega), zo_o (by omega) (by omega) (by omega)]
  split
  · rename_i e
    rw [e, zo_e]
  · rw [zo_o (by omega) (by omega) (by omega)]
theorem mSet_5 {N : Nat → Nat → Nat} {m x : Nat} (hm : m < 36) : zo (mSet N m 145) x 5 = if x = m then zo (N 145) m 1 - mHeld (N 145) m else zo (N 145) x 5 := by
  unfold mSet
  rw [mSh_z hm 4 0 _ x 5 rfl (by omega) (by omega)]
  split
  · rename_i e
    rw [e, zo_e]
  · rw [zo_o (by omega) (by omega) (by omega), zo_o (by omega) (by omega) (by omega)]
theorem mSet_8 {N : Nat → Nat → Nat} {m x u : Nat} (hm : m < 36) (hu : u < 4) : zo (mSet N m 145) x (8 + u) = if x = m then mHeld (N 145) m / 4 + (if u < mHeld (N 145) m % 4 then 1 else 0) else zo (N 145) x (8 + u) := by
  unfold mSet
  rw [mSh_8 hm 4 0 _ x u rfl hu, zo_o (by omega) (by omega) (by omega), zo_o (by omega) (by omega) (by omega)]
  simp
theorem MZ_set {N : Nat → Nat → Nat} {R : aY} {B : Nat → Nat} {o m : Nat} (h : MZ (N 145) R B o) (hm : m < 36) (h5 : R 5 (m / 6) = m % 6) (h4 : m % 6 < R 4 (m / 6)) : MZ (mSet N m 145) (aSet R m) B o := by
  obtain ⟨⟨a1, a2, a3, a4⟩, b, c, d, e, f, g⟩ := h
  have ho : ∀ i, i < 91 → mSet N m 145 i = N 145 i := fun i hi => mSet_o hm (Or.inr hi)
  have hs : ∀ a j, a ≠ 12 → a ≠ 5 → a ≠ 9 → aSet R m a j = R a j := fun a j h1 h2 h3 => aSet_o h1 h2 h3
  have eh : aHeld R m = mHeld (N 145) m := by
    unfold aHeld mHeld
    rw [(f m hm).2.1, c 2 (by omega)]
  refine ⟨⟨?_, ?_, ?_, ?_⟩, fun i hi => ?_, fun i hi => ?_, fun i hi => ?_, fun i hi => ?_, fun x hx => ?_, fun x hx t ht => ?_⟩
  · rw [ho _ (by omega), hs _ _ (by omega) (by omega) (by omega)]; exact a1
  · rw [ho _ (by omega), hs _ _ (by omega) (by omega) (by omega)]; exact a2
  · rw [ho _ (by omega)]; exact a3
  · rw [ho _ (by omega), hs _ _ (by omega) (by omega) (by omega)]; exact a4
  · rw [ho _ (by omega), hs _ _ (by omega) (by omega) (by omega)]; exact b i hi
  · rw [ho _ (by omega), hs _ _ (by omega) (by omega) (by omega)]; exact c i hi
  · rw [ho _ (by omega), hs _ _ (by omega) (by omega) (by omega)]; exact d i hi
  · rw [ho _ (by omega), hs _ _ (by omega) (by omega) (by omega)]; exact e i hi
  · obtain ⟨f0, f1, f2, f3, f4, f5, f6, f7⟩ := f x hx
    rw [mSet_z hm (by omega) (by omega) (by omega) (by omega), mSet_z hm (by omega) (by omega) (by omega) (by omega), mSet_2 hm, mSet_z hm (by omega) (by omega) (by omega) (by omega), mSet_z hm (by omega) (by omega) (by omega) (by omega), mSet_5 hm, mSet_z hm (by omega) (by omega) (by omega) (by omega), mSet_z hm (by omega) (by omega) (by omega) (by omega), hs 6 _ (by omega) (by omega) (by omega), hs 7 _ (by omega) (by omega) (by omega), aSet_9, hs 11 _ (by omega) (by omega) (by omega), hs 10 _ (by omega) (by omega) (by omega), eh]
    refine ⟨f0, f1, ?_, ?_, f4, ?_, f6, f7⟩
    · unfold stg
      rw [aSet_5, hs 4 _ (by omega) (by omega) (by omega)]
      unfold stg at f2
      by_cases z : x = m
      · subst z
        rw [if_pos rfl, if_pos rfl, if_pos (by omega)]
      · rw [if_neg z, f2]
        by_cases z2 : x / 6 = m / 6
        · rw [if_pos z2, z2, h5]
          by_cases z3 : x % 6 < m % 6
          · rw [if_pos z3, if_pos (show x % 6 < m % 6 + 1 by omega)]
          · rw [if_neg z3, if_neg (show ¬ x % 6 < m % 6 + 1 by omega)]
        · rw [if_neg z2]
    · unfold zOn at f3 ⊢
      rw [hs 4 _ (by omega) (by omega) (by omega), hs 8 _ (by omega) (by omega) (by omega)]
      exact f3
    · rw [(f m hm).2.1, f5]
  · rw [mSet_8 hm ht, mSet_z hm (by omega) (by omega) (by omega) (by omega), aSet_12 ht, hs 13 _ (by omega) (by omega) (by omega), eh, (g x hx t ht).1, (g x hx t ht).2]
    exact ⟨rfl, rfl⟩
