/-! the law's yard beside the class's -/
def pl (m : Nat) : Nat := 6 * (m / 4) + m % 4
def lp (p : Nat) : Nat := 4 * (p / 6) + p % 6
theorem pl_lp {p : Nat} (h : p % 6 < 4) : pl (lp p) = p := by
  unfold pl lp
  omega
theorem lp_pl {m : Nat} : lp (pl m) = m := by
  unfold pl lp
  omega
theorem pl_lt {m : Nat} (h : m < 12) : pl m < 18 ∧ pl m / 6 = m / 4 ∧ pl m % 6 = m % 4 := by
  unfold pl
  omega
theorem pl_in {m x : Nat} (h : pl m = pl x) : m = x := by
  rw [← lp_pl (m := m), h, lp_pl]
theorem lp_lt {p : Nat} (h : p < 18) (h4 : p % 6 < 4) : lp p < 12 ∧ lp p / 4 = p / 6 ∧ lp p % 4 = p % 6 := by
  unfold lp
  omega
/-- at most three houses of four modules -/
def LS3 (R : aY) : Prop := R 0 1 ≤ 3 ∧ ∀ h, h < 6 → R 3 h ≤ 4
theorem LS_in {R : aY} (h3 : LS3 R) (hh : WFh R) {p : Nat} (hp : p < 36) (h4 : p % 6 < R 3 (p / 6)) : p < 18 ∧ p % 6 < 4 ∧ lp p < 12 ∧ pl (lp p) = p := by
  have h1 := h3.2 (p / 6) (by omega)
  have h2 := (hh (p / 6) (by omega)).2.2.2
  have h5 := h3.1
  have h6 : p % 6 < 4 := by omega
  have h7 : p < 18 := by omega
  exact ⟨h7, h6, (lp_lt h7 h6).1, pl_lp h6⟩
def LM (N : Nat → Nat → Nat) (mo mi sh cc : Nat) (R : aY) (S B : Nat → Nat) (o : Nat) : Prop :=
  (N cc 0 = R 0 1 ∧ N cc 1 = R 0 0 ∧ N cc 2 = o ∧ N cc 3 = R 0 2 ∧ ∀ h, h < 3 → N cc (4 + h) = R 3 h) ∧ (∀ i, i < R 0 2 → N 150 i = R 1 i) ∧ (∀ i, i < 5 → N 149 i = R 2 i) ∧
  (∀ m, m < 12 → N mo (5 * m) = R 6 (pl m) ∧ N mo (5 * m + 1) = R 7 (pl m) ∧ N mo (5 * m + 2) = S (pl m) ∧ N mo (5 * m + 4) = B (pl m) ∧ N mi (3 * m) = R 9 (pl m) ∧ N mi (3 * m + 1) = R 11 (pl m) ∧ N mi (3 * m + 2) = R 10 (pl m)) ∧
  (∀ m, m < 12 → N mo (5 * m + 3) < 1400 ∧ (pl m % 6 < R 4 (pl m / 6) → N mo (5 * m + 3) = R 8 (pl m))) ∧
  (∀ m, m < 12 → ∀ t, t < 4 → N sh (4 * m + t) = R 12 (pl m * 4 + t))
theorem LM_LB {N : Nat → Nat → Nat} {mo mi sh cc : Nat} {R : aY} {S B : Nat → Nat} {o : Nat} (h : LM N mo mi sh cc R S B o) (hw : WFz R) (h3 : LS3 R) (hS : ∀ m, m < 36 → S m ≤ 3) (hB : (∀ m, m < 36 → B m ≤ o) ∧ o ≤ 1000) : LB N mo cc := by
  obtain ⟨⟨c0, c1, c2, c4, c5⟩, -, -, f, g, -⟩ := h
  obtain ⟨⟨w1, w2, w3⟩, wh, wp, ws, hz, ht⟩ := hw
  refine ⟨by rw [c0]; exact h3.1, fun x hx => by rw [c5 x hx]; exact h3.2 x (by omega), fun m hm => ?_, by omega, by omega, by omega⟩
  obtain ⟨f0, f1, f2, f3, -⟩ := f m hm
  have hp := (pl_lt hm).1
  have hp0 := (wp (pl m) (by omega)).1
  have hp1 := hS (pl m) (by omega)
  have hp2 := hB.1 (pl m) (by omega)
  have hp3 := (g m hm).1
  have := hB.2
  refine ⟨by omega, by omega, by omega, by omega⟩
theorem LM_S {N : Nat → Nat → Nat} {mo mi sh cc : Nat} {R : aY} {S S' B : Nat → Nat} {o : Nat} (h : LM N mo mi sh cc R S B o) (he : ∀ m, m < 12 → S' (pl m) = S (pl m)) : LM N mo mi sh cc R S' B o := by
  obtain ⟨a, b, c, f, g⟩ := h
  refine ⟨a, b, c, fun m hm => ?_, g⟩
  rw [he m hm]
  exact f m hm
theorem LM_cg {N N' : Nat → Nat → Nat} {mo mi sh cc : Nat} {R : aY} {S B : Nat → Nat} {o : Nat} (h : LM N mo mi sh cc R S B o) (he : ∀ a, a = mo ∨ a = mi ∨ a = sh ∨ a = cc ∨ a = 149 ∨ a = 150 → N' a = N a) : LM N' mo mi sh cc R S B o := by
  unfold LM
  rw [he mo (by omega), he mi (by omega), he sh (by omega), he cc (by omega), he 149 (by omega), he 150 (by omega)]
  exact h
theorem lTh_R {N : Nat → Nat → Nat} {mo mi sh cc : Nat} {R : aY} {S B : Nat → Nat} {o m : Nat} (h : LM N mo mi sh cc R S B o) (hh : WFh R) (hm : m < 12) : lTh (N cc) m = true ↔ pl m % 6 < R 3 (pl m / 6) := by
  obtain ⟨p1, p2, p3⟩ := pl_lt hm
  rw [lTh_iff, h.1.1, h.1.2.2.2.2 _ (by omega), p2, p3]
  have := (hh (m / 4) (by omega)).2.2.2
  omega
theorem sumL_pl {f : Nat → Nat} : ∀ (l : List Nat), l.Nodup → (∀ x ∈ l, lp x < 12 ∧ pl (lp x) = x) → sumL f l = sumN (fun m => if pl m ∈ l then f (pl m) else 0) 0 12
  | [], _, _ => by
    have := sumN_bd (f := fun m => if pl m ∈ ([] : List Nat) then f (pl m) else 0) (a := 0) (b := 0) (n := 12) (fun i _ => by simp)
    unfold sumL
    omega
  | p :: l, hn, hx => by
    obtain ⟨n1, n2⟩ := List.nodup_cons.mp hn
    obtain ⟨x1, x2⟩ := hx p List.mem_cons_self
    have ih := sumL_pl (f := f) l n2 (fun x h => hx x (List.mem_cons_of_mem _ h))
    unfold sumL
    rw [ih, Nat.add_comm]
    refine sumN_up (v := f p) (lp p) x1 ?_ (fun i hi hne => ?_)
    · rw [Nat.zero_add, x2, if_neg n1, if_pos List.mem_cons_self, Nat.zero_add]
    · rw [Nat.zero_add]
      by_cases z : pl i ∈ l
      · rw [if_pos z, if_pos (List.mem_cons_of_mem _ z)]
      · rw [if_neg z, if_neg (fun w => (List.mem_cons.mp w).elim (fun v => hne (by rw [← v, lp_pl])) z)]
theorem lLd_cnt {N : Nat → Nat → Nat} {mo mi sh cc : Nat} {R : aY} {S B : Nat → Nat} {o : Nat} {l : List Nat} (h : LM N mo mi sh cc R S B o) (hh : WFh R) (h3 : LS3 R) (hl : ∀ x ∈ l, x < 36 ∧ x % 6 < R 4 (x / 6)) (hn : l.Nodup) (hS : ∀ x, x < 36 → (S x = 1 ↔ x ∈ l)) (d : Nat) : lLd N mo cc d 0 = cnt R l d ∧ lLd N mo cc d 1 = wgt R l d := by
  have hlt : ∀ x ∈ l, lp x < 12 ∧ pl (lp x) = x := fun x hx => by
    have h1 := hl x hx
    have h2 := hh (x / 6) (by omega)
    exact (LS_in h3 hh h1.1 (by omega)).2.2
  have his : ∀ m, m < 12 → ((lTh (N cc) m = true ∧ N mo (5 * m + 2) = 1 ∧ N mo (5 * m + 3) = d) ↔ pl m ∈ l ∧ R 8 (pl m) = d) := fun m hm => by
    have hp := (pl_lt hm).1
    rw [lTh_R h hh hm, (h.2.2.2.1 m hm).2.2.1, hS (pl m) (by omega)]
    refine ⟨fun ⟨a1, a2, a3⟩ => ⟨a2, ?_⟩, fun ⟨a1, a2⟩ => ?_⟩
    · rw [← (h.2.2.2.2.1 m hm).2 (hl _ a2).2]
      exact a3
    · have h1 := hl _ a1
      have h2 := hh (pl m / 6) (by omega)
      refine ⟨by omega, a1, ?_⟩
      rw [(h.2.2.2.2.1 m hm).2 h1.2]
      exact a2
  unfold lLd cnt wgt
  rw [sumL_pl l hn hlt, sumL_pl l hn hlt]
  constructor
  · refine sumN_congr (fun i hi => ?_)
    rw [Nat.zero_add]
    have := his i hi
    unfold lLf
    by_cases a : pl i ∈ l
    · by_cases b : R 8 (pl i) = d
      · rw [if_pos (this.mpr ⟨a, b⟩), if_pos a, if_pos b, if_pos rfl]
      · rw [if_neg (fun w => b (this.mp w).2), if_pos a, if_neg b]
    · rw [if_neg (fun w => a (this.mp w).1), if_neg a]
  · refine sumN_congr (fun i hi => ?_)
    rw [Nat.zero_add]
    have := his i hi
    unfold lLf
    by_cases a : pl i ∈ l
    · by_cases b : R 8 (pl i) = d
      · rw [if_pos (this.mpr ⟨a, b⟩), if_pos a, if_pos b, if_neg (by omega), (h.2.2.2.1 i hi).1]
      · rw [if_neg (fun w => b (this.mp w).2), if_pos a, if_neg b]
    · rw [if_neg (fun w => a (this.mp w).1), if_neg a]
-- what is written
theorem LM_st {N : Nat → Nat → Nat} {mo mi sh cc : Nat} {R : aY} {S B : Nat → Nat} {o m v : Nat} (h : LM N mo mi sh cc R S B o) (hd : LD mo mi sh cc) (_hm : m < 12) : LM (up2 N mo (5 * m + 2) v) mo mi sh cc R (fun x => if x = pl m then v else S x) B o := by
  obtain ⟨d1, d2, d3, d4, d5, d6, d7, d8, d9, d10, d11, d12, d13, d14⟩ := hd
  obtain ⟨⟨c0, c1, c2, c4, c5⟩, b, c, f, g, s⟩ := h
  have o1 : ∀ a j, a ≠ mo → up2 N mo (5 * m + 2) v a j = N a j := fun a j ha => up2_o (fun z => ha z.1)
  have o2 : ∀ j, j ≠ 5 * m + 2 → up2 N mo (5 * m + 2) v mo j = N mo j := fun j hj => up2_o (fun z => hj z.2)
  refine ⟨⟨by rw [o1 _ _ (Ne.symm d3)]; exact c0, by rw [o1 _ _ (Ne.symm d3)]; exact c1, by rw [o1 _ _ (Ne.symm d3)]; exact c2, by rw [o1 _ _ (Ne.symm d3)]; exact c4, fun x hx => by rw [o1 _ _ (Ne.symm d3)]; exact c5 x hx⟩, fun i hi => by rw [o1 _ _ (Ne.symm d11)]; exact b i hi, fun i hi => by rw [o1 _ _ (Ne.symm d7)]; exact c i hi, fun x hx => ?_, fun x hx => by rw [o2 _ (by omega)]; exact g x hx, fun x hx t ht => by rw [o1 _ _ (Ne.symm d2)]; exact s x hx t ht⟩
  obtain ⟨f0, f1, f2, f3, f4⟩ := f x hx
  rw [o2 _ (by omega), o2 _ (by omega), o2 (5 * x + 4) (by omega), o1 mi _ (Ne.symm d1), o1 mi _ (Ne.symm d1), o1 mi _ (Ne.symm d1)]
  refine ⟨f0, f1, ?_, f3, f4⟩
  dsimp only
  by_cases z : x = m
  · rw [z, if_pos rfl, up2_e ⟨rfl, rfl⟩]
  · rw [if_neg (fun w => z (pl_in w)), o2 _ (by omega)]
    exact f2
theorem LM_mv {N : Nat → Nat → Nat} {mo mi sh cc : Nat} {R : aY} {S B : Nat → Nat} {o m d : Nat} (h : LM N mo mi sh cc R S B o) (hd : LD mo mi sh cc) (hm : m < 12) (h4 : pl m % 6 < R 4 (pl m / 6)) (hd2 : d < 1400) : LM (up2 (up2 (if d = R 8 (pl m) then N else up2 N mi (3 * m + 1) (N mi (3 * m + 1) + 1)) mo (5 * m + 3) d) mo (5 * m + 2) 1) mo mi sh cc (aMv R (pl m) d) (fun x => if x = pl m then 1 else S x) B o := by
  refine LM_st ?_ hd hm
  obtain ⟨d1, d2, d3, d4, d5, d6, d7, d8, d9, d10, d11, d12, d13, d14⟩ := hd
  obtain ⟨⟨c0, c1, c2, c4, c5⟩, b, c, f, g, s⟩ := h
  obtain ⟨W, hW⟩ : ∃ W, W = up2 (if d = R 8 (pl m) then N else up2 N mi (3 * m + 1) (N mi (3 * m + 1) + 1)) mo (5 * m + 3) d := ⟨_, rfl⟩
  rw [← hW]
  have o1 : ∀ a j, a ≠ mo → a ≠ mi → W a j = N a j := fun a j ha hi => by
    rw [hW, up2_o (fun z => ha z.1)]
    split
    · rfl
    · exact up2_o (fun z => hi z.1)
  have o2 : ∀ j, j ≠ 5 * m + 3 → W mo j = N mo j := fun j hj => by
    rw [hW, up2_o (fun z => hj z.2)]
    split
    · rfl
    · exact up2_o (fun z => d1 z.1)
  have o3 : W mo (5 * m + 3) = d := by
    rw [hW]
    exact up2_e ⟨rfl, rfl⟩
  have o4 : ∀ j, W mi j = N mi j + if j = 3 * m + 1 ∧ d ≠ R 8 (pl m) then 1 else 0 := fun j => by
    rw [hW, up2_o (fun z => d1 z.1.symm)]
    by_cases z : d = R 8 (pl m)
    · rw [if_pos z, if_neg (fun w => w.2 z)]
      rfl
    · rw [if_neg z]
      by_cases w : j = 3 * m + 1
      · rw [if_pos ⟨w, z⟩, up2_e ⟨rfl, w⟩, w]
      · rw [if_neg (fun v => w v.1), up2_o (fun v => w v.2)]
        rfl
  have r : ∀ a j, a ≠ 8 → a ≠ 11 → aMv R (pl m) d a j = R a j := fun a j h8 h11 => aMv_o h8 h11
  refine ⟨⟨?_, ?_, ?_, ?_, fun x hx => ?_⟩, fun i hi => ?_, fun i hi => ?_, fun x hx => ?_, fun x hx => ?_, fun x hx t ht => ?_⟩
  · rw [o1 _ _ (Ne.symm d3) (Ne.symm d5), r _ _ (by omega) (by omega)]; exact c0
  · rw [o1 _ _ (Ne.symm d3) (Ne.symm d5), r _ _ (by omega) (by omega)]; exact c1
  · rw [o1 _ _ (Ne.symm d3) (Ne.symm d5)]; exact c2
  · rw [o1 _ _ (Ne.symm d3) (Ne.symm d5), r _ _ (by omega) (by omega)]; exact c4
  · rw [o1 _ _ (Ne.symm d3) (Ne.symm d5), r _ _ (by omega) (by omega)]; exact c5 x hx
  · rw [r 0 _ (by omega) (by omega)] at hi
    rw [o1 _ _ (Ne.symm d11) (Ne.symm d12), r _ _ (by omega) (by omega)]; exact b i hi
  · rw [o1 _ _ (Ne.symm d7) (Ne.symm d8), r _ _ (by omega) (by omega)]; exact c i hi
  · obtain ⟨f0, f1, f2, f3, f4, f5, f6⟩ := f x hx
    rw [o2 _ (by omega), o2 (5 * x + 1) (by omega), o2 (5 * x + 2) (by omega), o2 (5 * x + 4) (by omega), o4, o4, o4, r 6 _ (by omega) (by omega), r 7 _ (by omega) (by omega), r 9 _ (by omega) (by omega), r 10 _ (by omega) (by omega), if_neg (by omega), if_neg (c := 3 * x + 2 = 3 * m + 1 ∧ d ≠ R 8 (pl m)) (by omega)]
    refine ⟨f0, f1, f2, f3, f4, ?_, f6⟩
    unfold aMv
    by_cases z : d = R 8 (pl m)
    · rw [if_pos z, if_neg (fun w => w.2 z)]
      exact f5
    · rw [if_neg z]
      by_cases w : x = m
      · rw [w, if_pos ⟨rfl, z⟩, up2_e ⟨rfl, rfl⟩]
        rw [w] at f5
        omega
      · rw [if_neg (fun v => w (by omega)), up2_o (fun v => w (pl_in v.2)), up2_o (by omega)]
        exact f5
  · obtain ⟨g1, g2⟩ := g x hx
    rw [r 4 _ (by omega) (by omega), aMv_8]
    by_cases w : x = m
    · rw [w, if_pos rfl, o3]
      exact ⟨hd2, fun _ => rfl⟩
    · rw [if_neg (fun v => w (pl_in v)), o2 _ (by omega)]
      exact ⟨g1, g2⟩
  · rw [o1 _ _ (Ne.symm d2) (Ne.symm d4), r _ _ (by omega) (by omega)]
    exact s x hx t ht
def shW (N : Nat → Nat → Nat) (sh m held : Nat) : Nat → Nat → Nat → Nat
  | 0 => N
  | t + 1 => up2 (shW N sh m held t) sh (4 * m + t) ((held + 3 - t) / 4)
theorem shW_o {N : Nat → Nat → Nat} {sh m held : Nat} : ∀ (t a j : Nat), (a ≠ sh ∨ j < 4 * m ∨ 4 * m + t ≤ j) → shW N sh m held t a j = N a j
  | 0, _, _, _ => rfl
  | t + 1, a, j, h => by
    unfold shW
    rw [up2_o (by omega), shW_o t a j (by omega)]
theorem shW_e {N : Nat → Nat → Nat} {sh m held : Nat} : ∀ (t i : Nat), i < t → shW N sh m held t sh (4 * m + i) = (held + 3 - i) / 4
  | 0, _, h => absurd h (Nat.not_lt_zero _)
  | t + 1, i, h => by
    unfold shW
    by_cases q : i = t
    · rw [q, up2_e ⟨rfl, rfl⟩]
    · rw [up2_o (by omega), shW_e t i (by omega)]
def stW (N : Nat → Nat → Nat) (mo mi sh m held : Nat) : Nat → Nat → Nat := shW (up2 (up2 N mo (5 * m + 2) 2) mi (3 * m) (N mo (5 * m + 1) - held)) sh m held 4
theorem stg_set {R : aY} {p x : Nat} (h5 : R 5 (p / 6) = p % 6) (hx : x ≠ p) : stg (aSet R p) x = stg R x := by
  unfold stg
  rw [aSet_5, aSet_o (a := 4) (by omega) (by omega) (by omega)]
  by_cases w : x / 6 = p / 6
  · have e : R 5 (x / 6) = p % 6 := by rw [w]; exact h5
    have hne : x % 6 ≠ p % 6 := by omega
    rw [if_pos w, e]
    by_cases v : x % 6 < p % 6
    · rw [if_pos v, if_pos (by omega)]
    · rw [if_neg v, if_neg (c := x % 6 < p % 6 + 1) (by omega)]
  · rw [if_neg w]
theorem LM_set {N : Nat → Nat → Nat} {mo mi sh cc : Nat} {R : aY} {B : Nat → Nat} {o m : Nat} (h : LM N mo mi sh cc R (stg R) B o) (hd : LD mo mi sh cc) (hm : m < 12) (h5 : R 5 (pl m / 6) = pl m % 6) (h4 : pl m % 6 < R 4 (pl m / 6)) : LM (stW N mo mi sh m (aHeld R (pl m))) mo mi sh cc (aSet R (pl m)) (stg (aSet R (pl m))) B o := by
  have h0 := h
  obtain ⟨d1, d2, d3, d4, d5, d6, d7, d8, d9, d10, d11, d12, d13, d14⟩ := hd
  obtain ⟨⟨c0, c1, c2, c4, c5⟩, b, c, f, g, s⟩ := h
  obtain ⟨W, hW⟩ : ∃ W, W = stW N mo mi sh m (aHeld R (pl m)) := ⟨_, rfl⟩
  rw [← hW]
  have o1 : ∀ a j, a ≠ mo → a ≠ mi → a ≠ sh → W a j = N a j := fun a j ha hi hs => by
    rw [hW]
    unfold stW
    rw [shW_o _ _ _ (Or.inl hs), up2_o (fun z => hi z.1), up2_o (fun z => ha z.1)]
  have o2 : ∀ j, W mo j = if j = 5 * m + 2 then 2 else N mo j := fun j => by
    rw [hW]
    unfold stW
    rw [shW_o _ _ _ (Or.inl d2), up2_o (fun z => d1 z.1)]
    by_cases z : j = 5 * m + 2
    · rw [if_pos z, up2_e ⟨rfl, z⟩]
    · rw [if_neg z, up2_o (fun w => z w.2)]
  have o3 : ∀ j, W mi j = if j = 3 * m then R 7 (pl m) - aHeld R (pl m) else N mi j := fun j => by
    rw [hW]
    unfold stW
    rw [shW_o _ _ _ (Or.inl d4)]
    by_cases z : j = 3 * m
    · rw [if_pos z, up2_e ⟨rfl, z⟩, (f m hm).2.1]
    · rw [if_neg z, up2_o (fun w => z w.2), up2_o (fun w => d1 w.1.symm)]
  have o4 : ∀ x t, t < 4 → W sh (4 * x + t) = if x = m then (aHeld R (pl m) + 3 - t) / 4 else N sh (4 * x + t) := fun x t ht => by
    rw [hW]
    unfold stW
    by_cases z : x = m
    · rw [if_pos z, z, shW_e 4 t ht]
    · rw [if_neg z, shW_o _ _ _ (by omega), up2_o (fun w => d4 w.1.symm), up2_o (fun w => d2 w.1.symm)]
  have r : ∀ a j, a ≠ 12 → a ≠ 5 → a ≠ 9 → aSet R (pl m) a j = R a j := fun a j h1 h2 h3 => aSet_o h1 h2 h3
  refine ⟨⟨?_, ?_, ?_, ?_, fun x hx => ?_⟩, fun i hi => ?_, fun i hi => ?_, fun x hx => ?_, fun x hx => ?_, fun x hx t ht => ?_⟩
  · rw [o1 _ _ (Ne.symm d3) (Ne.symm d5) (Ne.symm d6), r _ _ (by omega) (by omega) (by omega)]; exact c0
  · rw [o1 _ _ (Ne.symm d3) (Ne.symm d5) (Ne.symm d6), r _ _ (by omega) (by omega) (by omega)]; exact c1
  · rw [o1 _ _ (Ne.symm d3) (Ne.symm d5) (Ne.symm d6)]; exact c2
  · rw [o1 _ _ (Ne.symm d3) (Ne.symm d5) (Ne.symm d6), r _ _ (by omega) (by omega) (by omega)]; exact c4
  · rw [o1 _ _ (Ne.symm d3) (Ne.symm d5) (Ne.symm d6), r _ _ (by omega) (by omega) (by omega)]; exact c5 x hx
  · rw [r 0 _ (by omega) (by omega) (by omega)] at hi
    rw [o1 _ _ (Ne.symm d11) (Ne.symm d12) (Ne.symm d13), r _ _ (by omega) (by omega) (by omega)]; exact b i hi
  · rw [o1 _ _ (Ne.symm d7) (Ne.symm d8) (Ne.symm d9), r _ _ (by omega) (by omega) (by omega)]; exact c i hi
  · obtain ⟨f0, f1, f2, f3, f4, f5, f6⟩ := f x hx
    rw [o2, o2, o2, o2, o3, o3, o3, r 6 _ (by omega) (by omega) (by omega), r 7 _ (by omega) (by omega) (by omega), r 11 _ (by omega) (by omega) (by omega), r 10 _ (by omega) (by omega) (by omega), aSet_9, if_neg (by omega), if_neg (c := 5 * x + 1 = 5 * m + 2) (by omega), if_neg (c := 5 * x + 4 = 5 * m + 2) (by omega), if_neg (c := 3 * x + 1 = 3 * m) (by omega), if_neg (c := 3 * x + 2 = 3 * m) (by omega)]
    refine ⟨f0, f1, ?_, f3, ?_, f5, f6⟩
    · by_cases z : x = m
      · rw [z, if_pos rfl]
        unfold stg
        rw [aSet_5, if_pos rfl, if_pos (by omega)]
      · rw [if_neg (by omega), stg_set h5 (fun w => z (pl_in w))]
        exact f2
    · by_cases z : x = m
      · rw [z, if_pos rfl, if_pos rfl]
      · rw [if_neg (by omega), if_neg (fun w => z (pl_in w))]
        exact f4
  · rw [o2, if_neg (by omega), r 4 _ (by omega) (by omega) (by omega), r 8 _ (by omega) (by omega) (by omega)]
    exact g x hx
  · rw [o4 x t ht, aSet_12 ht]
    by_cases z : x = m
    · rw [z, if_pos rfl, if_pos rfl]
      split <;> omega
    · rw [if_neg z, if_neg (fun w => z (pl_in w))]
      exact s x hx t ht
theorem LM_day {N : Nat → Nat → Nat} {mo mi sh cc : Nat} {R : aY} {S B : Nat → Nat} {o d : Nat} (h : LM N mo mi sh cc R S B o) (hd : LD mo mi sh cc) : LM (up2 N cc 1 d) mo mi sh cc (up2 R 0 0 d) S B o := by
  obtain ⟨d1, d2, d3, d4, d5, d6, d7, d8, d9, d10, d11, d12, d13, d14⟩ := hd
  obtain ⟨⟨c0, c1, c2, c4, c5⟩, b, c, f, g, s⟩ := h
  have o1 : ∀ a j, a ≠ cc ∨ j ≠ 1 → up2 N cc 1 d a j = N a j := fun a j ha => up2_o (by omega)
  have r : ∀ a j, a ≠ 0 ∨ j ≠ 0 → up2 R 0 0 d a j = R a j := fun a j ha => up2_o (by omega)
  refine ⟨⟨?_, ?_, ?_, ?_, fun x hx => ?_⟩, fun i hi => ?_, fun i hi => ?_, fun x hx => ?_, fun x hx => ?_, fun x hx t ht => ?_⟩
  · rw [o1 _ _ (by omega), r _ _ (by omega)]; exact c0
  · rw [up2_e ⟨rfl, rfl⟩, up2_e ⟨rfl, rfl⟩]
  · rw [o1 _ _ (by omega)]; exact c2
  · rw [o1 _ _ (by omega), r _ _ (by omega)]; exact c4
  · rw [o1 _ _ (by omega), r _ _ (by omega)]; exact c5 x hx
  · rw [r _ _ (by omega)] at hi
    rw [o1 _ _ (by omega), r _ _ (by omega)]; exact b i hi
  · rw [o1 _ _ (by omega), r _ _ (by omega)]; exact c i hi
  · rw [o1 _ _ (by omega), o1 _ _ (by omega), o1 _ _ (by omega), o1 _ _ (by omega), o1 _ _ (by omega), o1 _ _ (by omega), o1 _ _ (by omega), r 6 _ (by omega), r 7 _ (by omega), r 9 _ (by omega), r 11 _ (by omega), r 10 _ (by omega)]
    exact f x hx
  · rw [o1 _ _ (by omega), r 4 _ (by omega), r 8 _ (by omega)]
    exact g x hx
  · rw [o1 _ _ (by omega), r 12 _ (by omega)]
    exact s x hx t ht
