/-! what the reference reads, of the yard -/
theorem sumN_cut {f g : Nat → Nat} {a m : Nat} : ∀ (n : Nat), m ≤ n → (∀ i, i < m → g (a + i) = f (a + i)) → (∀ i, m ≤ i → i < n → g (a + i) = 0) → sumN g a n = sumN f a m
  | 0, h, _, _ => by
    have : m = 0 := by omega
    subst this
    rfl
  | n + 1, h, h1, h2 => by
    by_cases e : m = n + 1
    · subst e
      exact sumN_congr h1
    · rw [sumN_succ, sumN_cut n (by omega) h1 (fun i a b => h2 i a (by omega)), h2 n (by omega) (by omega), Nat.add_zero]
theorem sumN_add {f : Nat → Nat} {a m : Nat} : ∀ (n : Nat), sumN f a (m + n) = sumN f a m + sumN f (a + m) n
  | 0 => rfl
  | n + 1 => by
    rw [← Nat.add_assoc, sumN_succ, sumN_succ, sumN_add n]
    simp only [Nat.add_assoc]
theorem sumN_blk {f : Nat → Nat} {b : Nat} : ∀ (n : Nat), sumN f 0 (b * n) = sumN (fun h => sumN f (b * h) b) 0 n
  | 0 => rfl
  | n + 1 => by rw [Nat.mul_succ, sumN_add, sumN_succ, sumN_blk n, Nat.zero_add, Nat.zero_add]
theorem sumN_pl {f g : Nat → Nat} {a : Nat} : ∀ (n : Nat), sumN (fun i => f i + g i) a n = sumN f a n + sumN g a n
  | 0 => rfl
  | n + 1 => by
    rw [sumN_succ, sumN_succ, sumN_succ, sumN_pl n]
    omega
theorem sumN_0 {a : Nat} : ∀ (n : Nat), sumN (fun _ => 0) a n = 0
  | 0 => rfl
  | n + 1 => by rw [sumN_succ, sumN_0 n]
theorem sumN_swap {F : Nat → Nat → Nat} {n : Nat} : ∀ (k : Nat), sumN (fun t => sumN (fun m => F m t) 0 n) 0 k = sumN (fun m => sumN (fun t => F m t) 0 k) 0 n
  | 0 => (sumN_0 n).symm
  | k + 1 => by
    rw [sumN_succ, sumN_swap k, Nat.zero_add, ← sumN_pl]
    exact sumN_congr (fun i _ => by rw [sumN_succ, Nat.zero_add, Nat.zero_add])
theorem sumN_sh {f : Nat → Nat} {a : Nat} : ∀ (n : Nat), sumN (fun i => f (a + i)) 0 n = sumN f a n
  | 0 => rfl
  | n + 1 => by rw [sumN_succ, sumN_succ, sumN_sh n, Nat.zero_add]
def aOn (R : aY) (d h : Nat) : Nat := sumN (fun k => if R 8 (h * 6 + k) = d then 1 else 0) 0 (R 5 h)
def aPr (R : aY) (h : Nat) : Nat := sumN (R 7) (h * 6) (R 5 h)
def aHn (R : aY) (h w : Nat) : Nat := if w = 0 then R 3 h else if w = 1 then R 4 h else if w = 2 then R 5 h else if w = 3 then sumN (R 7) (h * 6) 6 else if w = 4 then sumN (R 13) (h * 6 * 4) 24 else if w = 5 then sumN (R 12) (h * 6 * 4) 24 else if R 4 h < 1 then 4294967295 else R 8 (h * 6 + R 4 h - 1)
def aMn (R : aY) (p w : Nat) : Nat := if w = 0 then R 6 p else if w = 1 then R 7 p else if w = 2 then stg R p else if w = 3 then R 8 p else if w = 4 then R 9 p else if w = 5 then sumN (R 12) (p * 4) 4 else if w = 6 then R 10 p else if w = 7 then sumN (R 13) (p * 4) 4 else R 11 p
def aTr (R : aY) (t w : Nat) : Nat := if w = 0 then R 14 (t * 4 + 0) else if w = 1 then R 14 (t * 4 + 1) else if w = 2 then sumN (fun p => R 13 (p * 4 + t)) 0 36 else if w = 3 then sumN (fun p => R 12 (p * 4 + t)) 0 36 else if w = 4 then R 14 (t * 4 + 2) else R 14 (t * 4 + 3)
def aDn (R : aY) (q : List Nat) (d w : Nat) : Nat := if w = 0 then aWind R d else if w = 1 then cnt R q d else if w = 2 then wgt R q d else sumN (aOn R d) 0 6
def aCn (R : aY) (q : List Nat) (sv w : Nat) : Nat := if w = 0 then R 0 1 else if w = 1 then sumN (R 3) 0 6 else if w = 2 then q.length else if w = 3 then sumN (R 5) 0 6 else if w = 4 then R 0 0 else if w = 5 then R 0 2 else if w = 6 then sumN (aPr R) 0 6 else if w = 7 then sumN (R 9) 0 36 else if w = 8 then sumN (R 12) 0 144 else if w = 9 then sumN (R 10) 0 36 else if w = 10 then sumN (R 13) 0 144 else if w = 11 then sumN (R 11) 0 36 else sv
section Cv
variable {z : Nat → Nat} {R : aY} {B : Nat → Nat} {o : Nat} {q : List Nat}
theorem zIn_R0 (h : MZ z R B o) (hw : WF R q) {i : Nat} (hi : i < 6) : zIn z i 0 = R 3 i := by
  unfold zIn
  rw [h.2.2.2.2.1 i hi]
  have := sumN_congr (f := fun k => if zo z (6 * i + k) 2 < 0 then 0 else 1) (g := fun _ => 1) (a := 0) (n := R 3 i) (fun _ _ => if_neg (by omega))
  rw [this]
  have : ∀ n, sumN (fun _ => 1) 0 n = n := fun n => by
    induction n with
    | zero => rfl
    | succ n ih => rw [sumN_succ, ih]
  exact this _
theorem sumN_1 (n : Nat) : sumN (fun _ => 1) 0 n = n := by
  induction n with
  | zero => rfl
  | succ n ih => rw [sumN_succ, ih]
theorem zIn_R1 (h : MZ z R B o) (hw : WF R q) {i : Nat} (hi : i < 6) : zIn z i 1 = R 4 i := by
  have hh := hw.2.1 i hi
  have hs : ∀ k, k < 6 → zo z (6 * i + k) 2 = stg R (6 * i + k) := fun k hk => (h.2.2.2.2.2.1 _ (by omega)).2.2.1
  have e6 : ∀ k, k < 6 → (6 * i + k) / 6 = i ∧ (6 * i + k) % 6 = k := fun k hk => by omega
  unfold zIn
  rw [h.2.2.2.2.1 i hi, ← sumN_1 (R 4 i)]
  refine sumN_cut _ hh.2.1 (fun k hk => ?_) (fun k h1 h2 => ?_)
  · rw [Nat.zero_add, hs k (by omega)]
    unfold stg
    rw [(e6 k (by omega)).1, (e6 k (by omega)).2]
    split
    · rw [if_neg (by omega)]
    · rw [if_neg (by omega)]
  · rw [Nat.zero_add, hs k (by omega)]
    unfold stg
    rw [(e6 k (by omega)).1, (e6 k (by omega)).2, if_neg (show ¬ k < R 5 i by omega), if_neg (show ¬ k < R 4 i by omega), if_pos (by omega)]
theorem zIn_R2 (h : MZ z R B o) (hw : WF R q) {i : Nat} (hi : i < 6) : zIn z i 2 = R 5 i := by
  have hh := hw.2.1 i hi
  have hs : ∀ k, k < 6 → zo z (6 * i + k) 2 = stg R (6 * i + k) := fun k hk => (h.2.2.2.2.2.1 _ (by omega)).2.2.1
  have e6 : ∀ k, k < 6 → (6 * i + k) / 6 = i ∧ (6 * i + k) % 6 = k := fun k hk => by omega
  unfold zIn
  rw [h.2.2.2.2.1 i hi, ← sumN_1 (R 5 i)]
  refine sumN_cut _ (by omega) (fun k hk => ?_) (fun k h1 h2 => ?_)
  · rw [Nat.zero_add, hs k (by omega)]
    unfold stg
    rw [(e6 k (by omega)).1, (e6 k (by omega)).2, if_pos hk, if_neg (by omega)]
  · rw [Nat.zero_add, hs k (by omega)]
    unfold stg
    rw [(e6 k (by omega)).1, (e6 k (by omega)).2, if_neg (show ¬ k < R 5 i by omega)]
    split
    · rfl
    · rfl
theorem zWs_R (h : MZ z R B o) (hw : WF R q) : zWs z 0 = sumN (R 3) 0 6 ∧ zWs z 1 = sumN (R 4) 0 6 ∧ zWs z 2 = sumN (R 5) 0 6 := by
  have h0 : z 0 ≤ 6 := by rw [h.1.1]; exact hw.1.1.1
  have hz : ∀ i, z 0 ≤ i → i < 6 → R 3 i = 0 ∧ R 4 i = 0 ∧ R 5 i = 0 := fun i h1 h2 => by
    have := hw.2.1 i h2
    have := this.2.2.2 (by rw [← h.1.1]; exact h1)
    omega
  refine ⟨(sumN_cut 6 h0 (fun i hi => ?_) (fun i h1 h2 => ?_)).symm, (sumN_cut 6 h0 (fun i hi => ?_) (fun i h1 h2 => ?_)).symm, (sumN_cut 6 h0 (fun i hi => ?_) (fun i h1 h2 => ?_)).symm⟩
  · rw [Nat.zero_add]; exact (zIn_R0 h hw (by omega)).symm
  · rw [Nat.zero_add]; exact (hz i h1 h2).1
  · rw [Nat.zero_add]; exact (zIn_R1 h hw (by omega)).symm
  · rw [Nat.zero_add]; exact (hz i h1 h2).2.1
  · rw [Nat.zero_add]; exact (zIn_R2 h hw (by omega)).symm
  · rw [Nat.zero_add]; exact (hz i h1 h2).2.2
theorem zAll_R (h : MZ z R B o) (hw : WF R q) {k : Nat} {f : Nat → Nat} (hf : ∀ m, m < 36 → zo z m k = f m) (h0 : ∀ m, m < 36 → R 3 (m / 6) ≤ m % 6 → f m = 0) : zAll z k = sumN f 0 36 := by
  have hz : z 0 ≤ 6 := by rw [h.1.1]; exact hw.1.1.1
  refine (sumN_cut 36 (by omega) (fun i hi => ?_) (fun i h1 h2 => ?_)).symm
  · rw [Nat.zero_add]
    have := zTh_R h hw.2.1 (show i < 36 by omega)
    by_cases e : zTh z i = true
    · rw [if_pos e, hf i (by omega)]
    · rw [if_neg e]
      exact h0 i (by omega) (Nat.le_of_not_lt (fun w => e (this.mpr w)))
  · rw [Nat.zero_add]
    refine h0 i h2 ?_
    have := (hw.2.1 (i / 6) (by omega)).2.2.2 (by rw [← h.1.1]; omega)
    omega
theorem zPs_R (h : MZ z R B o) (hw : WF R q) : zPs z = sumN (aPr R) 0 6 := by
  have hz : z 0 ≤ 6 := by rw [h.1.1]; exact hw.1.1.1
  have e1 : zPs z = sumN (fun m => if m % 6 < R 5 (m / 6) then R 7 m else 0) 0 36 := by
    refine (sumN_cut 36 (by omega) (fun i hi => ?_) (fun i h1 h2 => ?_)).symm
    · rw [Nat.zero_add]
      have ht := zTh_R h hw.2.1 (show i < 36 by omega)
      obtain ⟨f0, f1, f2, -⟩ := h.2.2.2.2.2.1 i (by omega)
      have hh := hw.2.1 (i / 6) (by omega)
      have hs : stg R i = 2 ↔ i % 6 < R 5 (i / 6) := by
        unfold stg
        split
        · exact ⟨fun _ => by assumption, fun _ => rfl⟩
        · split
          · exact ⟨fun a => by omega, fun a => by omega⟩
          · exact ⟨fun a => by omega, fun a => by omega⟩
      rw [f1, f2]
      by_cases e : i % 6 < R 5 (i / 6)
      · rw [if_pos e, if_pos ⟨ht.mpr (by omega), hs.mpr e⟩]
      · rw [if_neg e, if_neg (fun w => e (hs.mp w.2))]
    · rw [Nat.zero_add]
      have hh := hw.2.1 (i / 6) (by omega)
      have := hh.2.2.2 (by rw [← h.1.1]; omega)
      rw [if_neg (by omega)]
  rw [e1, show (36 : Nat) = 6 * 6 from rfl, sumN_blk]
  refine sumN_congr (fun i hi => ?_)
  rw [Nat.zero_add]
  unfold aPr
  have hh := hw.2.1 i hi
  rw [Nat.mul_comm 6 i]
  refine sumN_cut _ (by omega) (fun k hk => ?_) (fun k h1 h2 => ?_)
  · rw [if_pos]
    rw [show (i * 6 + k) / 6 = i by omega]
    omega
  · rw [if_neg]
    rw [show (i * 6 + k) / 6 = i by omega]
    omega
theorem zSo_R (h : MZ z R B o) (hw : WF R q) (d : Nat) : zSo z d = sumN (aOn R d) 0 6 := by
  have hz : z 0 ≤ 6 := by rw [h.1.1]; exact hw.1.1.1
  have e1 : zSo z d = sumN (fun m => if m % 6 < R 5 (m / 6) ∧ R 8 m = d then 1 else 0) 0 36 := by
    refine (sumN_cut 36 (by omega) (fun i hi => ?_) (fun i h1 h2 => ?_)).symm
    · rw [Nat.zero_add]
      have ht := zTh_R h hw.2.1 (show i < 36 by omega)
      obtain ⟨f0, f1, f2, f3, -⟩ := h.2.2.2.2.2.1 i (by omega)
      have hh := hw.2.1 (i / 6) (by omega)
      have hs : stg R i = 2 ↔ i % 6 < R 5 (i / 6) := by
        unfold stg
        split
        · exact ⟨fun _ => by assumption, fun _ => rfl⟩
        · split
          · exact ⟨fun a => by omega, fun a => by omega⟩
          · exact ⟨fun a => by omega, fun a => by omega⟩
      have hon : i % 6 < R 5 (i / 6) → zOn R i = R 8 i := fun w => by
        unfold zOn
        rw [if_neg (by omega)]
      rw [f2, f3]
      by_cases e : i % 6 < R 5 (i / 6)
      · rw [hon e]
        by_cases e2 : R 8 i = d
        · rw [if_pos ⟨e, e2⟩, if_pos ⟨ht.mpr (by omega), hs.mpr e, e2⟩]
        · rw [if_neg (fun w => e2 w.2), if_neg (fun w => e2 w.2.2)]
      · rw [if_neg (fun w => e w.1), if_neg (fun w => e (hs.mp w.2.1))]
    · rw [Nat.zero_add]
      have hh := hw.2.1 (i / 6) (by omega)
      have := hh.2.2.2 (by rw [← h.1.1]; omega)
      rw [if_neg (fun w => by omega)]
  rw [e1, show (36 : Nat) = 6 * 6 from rfl, sumN_blk]
  refine sumN_congr (fun i hi => ?_)
  rw [Nat.zero_add]
  unfold aOn
  have hh := hw.2.1 i hi
  rw [Nat.mul_comm 6 i, ← sumN_sh]
  refine sumN_cut _ (by omega) (fun k hk => ?_) (fun k h1 h2 => ?_)
  · rw [Nat.zero_add]
    have e3 : (i * 6 + k) / 6 = i := by omega
    by_cases e : R 8 (i * 6 + k) = d
    · rw [if_pos e, if_pos ⟨by rw [e3]; omega, e⟩]
    · rw [if_neg e, if_neg (fun w => e w.2)]
  · rw [Nat.zero_add]
    have e3 : (i * 6 + k) / 6 = i := by omega
    rw [if_neg]
    intro w
    rw [e3] at w
    omega
theorem zTr_R (h : MZ z R B o) (hw : WF R q) {t w : Nat} (ht : t < 4) (hw6 : w < 6) : zTr z t w = aTr R t w := by
  have h14 : ∀ i, i < 4 → z (69 + 4 * t + i) = R 14 (t * 4 + i) := fun i hi => by
    rw [show 69 + 4 * t + i = 69 + (t * 4 + i) by omega]
    exact h.2.2.2.1 _ (by omega)
  rcases (show w = 0 ∨ w = 1 ∨ w = 2 ∨ w = 3 ∨ w = 4 ∨ w = 5 by omega) with rfl | rfl | rfl | rfl | rfl | rfl
  · exact h14 0 (by omega)
  · exact h14 1 (by omega)
  · exact zAll_R h hw (fun m hm => (h.2.2.2.2.2.2 m hm t ht).2) (fun m hm h3 => ((hw.2.2.2.1 m hm t ht).2.2 h3).2)
  · exact zAll_R h hw (fun m hm => (h.2.2.2.2.2.2 m hm t ht).1) (fun m hm h3 => ((hw.2.2.2.1 m hm t ht).2.2 h3).1)
  · exact h14 2 (by omega)
  · exact h14 3 (by omega)
theorem zOt_R (h : MZ z R B o) (hw : WF R q) : zOt z 3 = sumN (R 12) 0 144 ∧ zOt z 2 = sumN (R 13) 0 144 := by
  have g : ∀ f : Nat → Nat, sumN (fun t => sumN (fun p => f (p * 4 + t)) 0 36) 0 4 = sumN f 0 144 := fun f => by
    rw [sumN_swap (F := fun p t => f (p * 4 + t)), show (144 : Nat) = 4 * 36 from rfl, sumN_blk]
    refine sumN_congr (fun i hi => ?_)
    rw [sumN_sh, Nat.mul_comm]
  constructor
  · rw [← g]
    refine sumN_congr (fun t ht => ?_)
    rw [zTr_R h hw (by omega) (by omega)]
    rfl
  · rw [← g]
    refine sumN_congr (fun t ht => ?_)
    rw [zTr_R h hw (by omega) (by omega)]
    rfl
theorem zCn_R (h : MZ z R B o) (hw : WF R q) (sv : Nat) {w : Nat} (hw13 : w < 13) : zCn z sv w = aCn R q sv w := by
  obtain ⟨w0, w1, w2⟩ := zWs_R h hw
  obtain ⟨o3, o2⟩ := zOt_R h hw
  have hp := hw.2.2.1
  have hf := h.2.2.2.2.2.1
  rcases (show w = 0 ∨ w = 1 ∨ w = 2 ∨ w = 3 ∨ w = 4 ∨ w = 5 ∨ w = 6 ∨ w = 7 ∨ w = 8 ∨ w = 9 ∨ w = 10 ∨ w = 11 ∨ w = 12 by omega) with rfl | rfl | rfl | rfl | rfl | rfl | rfl | rfl | rfl | rfl | rfl | rfl | rfl
  · exact h.1.1
  · exact w0
  · show zWs z 1 - zWs z 2 = q.length
    rw [w1, w2]
    have := hw.2.2.2.2.2.2.2.1
    omega
  · exact w2
  · exact h.1.2.1
  · exact h.1.2.2.2
  · exact zPs_R h hw
  · exact zAll_R h hw (fun m hm => (hf m hm).2.2.2.2.2.1) (fun m hm h3 => ((hp m hm).2.2 h3).2.2.1)
  · exact o3
  · exact zAll_R h hw (fun m hm => (hf m hm).2.2.2.2.2.2.2) (fun m hm h3 => ((hp m hm).2.2 h3).2.2.2.1)
  · exact o2
  · exact zAll_R h hw (fun m hm => (hf m hm).2.2.2.2.2.2.1) (fun m hm h3 => ((hp m hm).2.2 h3).2.2.2.2)
  · rfl
theorem zS4_R (h : MZ z R B o) {m : Nat} (hm : m < 36) : zS4 z m 8 = sumN (R 12) (m * 4) 4 ∧ zS4 z m 12 = sumN (R 13) (m * 4) 4 := by
  constructor
  · rw [← sumN_sh]
    exact sumN_congr (fun t ht => by rw [Nat.zero_add]; exact (h.2.2.2.2.2.2 m hm t ht).1)
  · rw [← sumN_sh]
    exact sumN_congr (fun t ht => by rw [Nat.zero_add]; exact (h.2.2.2.2.2.2 m hm t ht).2)
theorem zHn_R (h : MZ z R B o) (hw : WF R q) {i w : Nat} (hi : i < 6) (hw7 : w < 7) : zHn z i w = aHn R i w := by
  have hh := hw.2.1 i hi
  have h3 := h.2.2.2.2.1 i hi
  have b24 : ∀ f : Nat → Nat, sumN f (i * 6 * 4) 24 = sumN (fun k => sumN f ((6 * i + k) * 4) 4) 0 6 := fun f => by
    rw [← sumN_sh, show (24 : Nat) = 4 * 6 from rfl, sumN_blk]
    refine sumN_congr (fun k hk => ?_)
    rw [← sumN_sh, ← sumN_sh (a := (6 * i + (0 + k)) * 4)]
    refine sumN_congr (fun t ht => ?_)
    congr 1
    omega
  have e6 : ∀ k, k < 6 → (6 * i + k) / 6 = i ∧ (6 * i + k) % 6 = k := fun k hk => by omega
  have z24 : ∀ (k : Nat) (row : Nat), row = 12 ∨ row = 13 → R 3 i ≤ k → k < 6 → sumN (R row) ((6 * i + k) * 4) 4 = 0 := fun k row hr h1 h2 => by
    rw [← sumN_sh, ← sumN_0 (a := 0) 4]
    refine sumN_congr (fun t ht => ?_)
    have := (hw.2.2.2.1 (6 * i + k) (by omega) (0 + t) (by omega)).2.2 (by rw [(e6 k h2).1, (e6 k h2).2]; exact h1)
    rcases hr with rfl | rfl
    · exact this.1
    · exact this.2
  rcases (show w = 0 ∨ w = 1 ∨ w = 2 ∨ w = 3 ∨ w = 4 ∨ w = 5 ∨ w = 6 by omega) with rfl | rfl | rfl | rfl | rfl | rfl | rfl
  · exact h3
  · exact zIn_R1 h hw hi
  · exact zIn_R2 h hw hi
  · show sumN (zHf z i 3) 0 (z (85 + i)) = sumN (R 7) (i * 6) 6
    rw [h3, ← sumN_sh (f := R 7)]
    refine (sumN_cut 6 hh.2.2.1 (fun k hk => ?_) (fun k h1 h2 => ?_)).symm
    · rw [Nat.zero_add]
      show _ = zo z (6 * i + k) 1
      rw [(h.2.2.2.2.2.1 _ (by omega)).2.1, Nat.mul_comm]
    · rw [Nat.zero_add, Nat.mul_comm]
      exact ((hw.2.2.1 (6 * i + k) (by omega)).2.2 (by rw [(e6 k h2).1, (e6 k h2).2]; exact h1)).2.1
  · show sumN (zHf z i 4) 0 (z (85 + i)) = sumN (R 13) (i * 6 * 4) 24
    rw [h3, b24]
    refine (sumN_cut 6 hh.2.2.1 (fun k hk => ?_) (fun k h1 h2 => ?_)).symm
    · rw [Nat.zero_add]
      show _ = zS4 z (6 * i + k) 12
      rw [(zS4_R h (by omega)).2]
    · rw [Nat.zero_add]
      exact z24 k 13 (Or.inr rfl) h1 h2
  · show sumN (zHf z i 5) 0 (z (85 + i)) = sumN (R 12) (i * 6 * 4) 24
    rw [h3, b24]
    refine (sumN_cut 6 hh.2.2.1 (fun k hk => ?_) (fun k h1 h2 => ?_)).symm
    · rw [Nat.zero_add]
      show _ = zS4 z (6 * i + k) 8
      rw [(zS4_R h (by omega)).1]
    · rw [Nat.zero_add]
      exact z24 k 12 (Or.inl rfl) h1 h2
  · show (if zIn z i 1 = 0 then 4294967295 else zo z (6 * i + (zIn z i 1 - 1)) 3) = if R 4 i < 1 then 4294967295 else R 8 (i * 6 + R 4 i - 1)
    rw [zIn_R1 h hw hi]
    by_cases e : R 4 i = 0
    · rw [if_pos e, if_pos (by omega)]
    · rw [if_neg e, if_neg (by omega), (h.2.2.2.2.2.1 _ (by omega)).2.2.2.1]
      unfold zOn
      rw [(e6 _ (by omega)).1, (e6 _ (by omega)).2, if_neg (by omega)]
      congr 1
      omega
theorem zMn_R (h : MZ z R B o) (hw : WF R q) {m w : Nat} (hm : m < 36) (hw9 : w < 9) : zMn z m w = aMn R m w := by
  obtain ⟨f0, f1, f2, f3, f4, f5, f6, f7⟩ := h.2.2.2.2.2.1 m hm
  have hd := hw.2.2.2.2.1 m hm
  rcases (show w = 0 ∨ w = 1 ∨ w = 2 ∨ w = 3 ∨ w = 4 ∨ w = 5 ∨ w = 6 ∨ w = 7 ∨ w = 8 by omega) with rfl | rfl | rfl | rfl | rfl | rfl | rfl | rfl | rfl
  · exact f0
  · exact f1
  · exact f2
  · show (if zo z m 2 = 0 then 4294967295 else zo z m 3) = R 8 m
    rw [f2, f3]
    unfold stg zOn
    have hh := hw.2.1 (m / 6) (by omega)
    by_cases e : R 4 (m / 6) ≤ m % 6
    · rw [if_neg (show ¬ m % 6 < R 5 (m / 6) by omega), if_neg (show ¬ m % 6 < R 4 (m / 6) by omega), if_pos rfl, hd.1 e]
    · rw [if_neg e]
      split
      · rw [if_neg (by omega)]
      · rw [if_pos (show m % 6 < R 4 (m / 6) by omega), if_neg (by omega)]
  · exact f5
  · exact (zS4_R h hm).1
  · exact f7
  · exact (zS4_R h hm).2
  · exact f6
theorem zDn_R (h : MZ z R B o) (hw : WF R q) {d w : Nat} (hw4 : w < 4) : zDn z d w = aDn R q d w := by
  have h0 : z 0 ≤ 6 := by rw [h.1.1]; exact hw.1.1.1
  have hc := zBk_cnt h hw.2.1 (fun x hx => by have := (hw.2.2.2.2.2.2.1 x).mp hx; exact ⟨this.1, this.2.2⟩) hw.2.2.2.2.2.1 (fun x hx => stg_1 hw hx) h0 d
  rcases (show w = 0 ∨ w = 1 ∨ w = 2 ∨ w = 3 by omega) with rfl | rfl | rfl | rfl
  · show zWind z d = aWind R d
    unfold zWind aWind
    rw [h.1.2.2.2]
    exact h.2.1 _ (Nat.lt_of_lt_of_le (Nat.mod_lt _ hw.1.1.2.1) hw.1.1.2.2)
  · exact hc.1
  · exact hc.2
  · exact zSo_R h hw d
end Cv
