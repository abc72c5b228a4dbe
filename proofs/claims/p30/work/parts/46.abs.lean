/-! a yard as a value: its rows but for the queue; a day that passes, as a function -/
abbrev aY : Type := Nat → Nat → Nat
def yW (k : Nat) : Nat := [3, 60, 5, 6, 6, 6, 36, 36, 36, 36, 36, 36, 144, 144, 16].getD k 0
def rg (N : Nat → Nat → Nat) (y : Nat) : aY := fun k i => if i < yW k then N (y + k) i else 0
theorem yW_hi {k : Nat} (h : 15 ≤ k) : yW k = 0 := by
  unfold yW
  rw [List.getD_eq_getElem?_getD, List.getElem?_eq_none (by simpa using h)]
  rfl
theorem rg_at {N : Nat → Nat → Nat} {y k i n : Nat} (hn : yW k = n) (h : i < n) : rg N y k i = N (y + k) i := by
  subst hn
  exact if_pos h
theorem rg_at0 {N : Nat → Nat → Nat} {y i : Nat} (h : i < 3) : rg N y 0 i = N y i := if_pos h
theorem rg_up {N : Nat → Nat → Nat} {y k i v n : Nat} (hn : yW k = n) (h : i < n) : rg (up2 N (y + k) i v) y = up2 (rg N y) k i v := by
  subst hn
  funext b j
  show (if j < yW b then up2 N (y + k) i v (y + b) j else 0) = if b = k ∧ j = i then v else (if j < yW b then N (y + b) j else 0)
  unfold up2
  by_cases e : b = k ∧ j = i
  · rw [if_pos e, e.1, e.2, if_pos h, if_pos ⟨rfl, rfl⟩]
  · rw [if_neg e]
    split
    · rw [if_neg (fun z => e ⟨by omega, z.2⟩)]
    · rfl
theorem rg_up0 {N : Nat → Nat → Nat} {y i v : Nat} (h : i < 3) : rg (up2 N y i v) y = up2 (rg N y) 0 i v := rg_up (k := 0) rfl h
theorem rg_congr {N N' : Nat → Nat → Nat} {y : Nat} (h : ∀ k i, k < 15 → i < yW k → N' (y + k) i = N (y + k) i) : rg N' y = rg N y := by
  funext b j
  show (if j < yW b then N' (y + b) j else 0) = if j < yW b then N (y + b) j else 0
  by_cases q : j < yW b
  · have hb : b < 15 := by
      rcases Nat.lt_or_ge b 15 with z | z
      · exact z
      · rw [yW_hi z] at q; omega
    rw [if_pos q, if_pos q, h b j hb q]
  · rw [if_neg q, if_neg q]
theorem rg_o {N : Nat → Nat → Nat} {y a i v : Nat} (h : a < y ∨ y + 15 ≤ a) : rg (up2 N a i v) y = rg N y := rg_congr (fun k i hk _ => up2_o (by omega))
theorem rg_3 {N : Nat → Nat → Nat} {y v : Nat} : rg (up2 N y 3 v) y = rg N y := rg_congr (fun k i hk hi => up2_o (fun z => by
  have e : k = 0 := by omega
  subst e
  have : yW 0 = 3 := rfl
  omega))
def aSh (p held : Nat) : Nat → Nat → aY → aY
  | 0, _, R => R
  | k + 1, t, R => aSh p held k (t + 1) (up2 R 12 (p * 4 + t) (held / 4 + if t < held % 4 then 1 else 0))
def aHeld (R : aY) (p : Nat) : Nat := R 7 p * R 2 2 / 100
def aSet (R : aY) (p : Nat) : aY := aSh p (aHeld R p) 4 0 (up2 (up2 R 5 (p / 6) (R 5 (p / 6) + 1)) 9 p (R 7 p - aHeld R p))
def aWind (R : aY) (d : Nat) : Nat := R 1 (d % R 0 2)
def aLift (R : aY) (p d : Nat) : Bool := Nat.ble (aWind R d) (8 - 2 * R 6 p)
def aCan (R : aY) (p : Nat) : Bool := Nat.beq (R 8 p) (R 0 0) && (Nat.beq (R 5 (p / 6)) (p % 6) && aLift R p (R 0 0))
theorem aCan_iff {R : aY} {p : Nat} : aCan R p = true ↔ R 8 p = R 0 0 ∧ R 5 (p / 6) = p % 6 ∧ aWind R (R 0 0) ≤ 8 - 2 * R 6 p := by
  unfold aCan aLift
  simp
def aDo : List Nat → aY → aY
  | [], R => R
  | p :: l, R => aDo l (if aCan R p = true then aSet R p else R)
def aQ : List Nat → aY → List Nat
  | [], _ => []
  | p :: l, R => if aCan R p = true then aQ l (aSet R p) else p :: aQ l R
def aLf : List Nat → aY → Bool
  | [], _ => false
  | p :: l, R => if aCan R p = true then aLf l (aSet R p) else (Nat.beq (R 8 p) (R 0 0) || aLf l R)
theorem aSh_o {p held : Nat} : ∀ (k t : Nat) (R : aY) (a j : Nat), a ≠ 12 → aSh p held k t R a j = R a j
  | 0, _, _, _, _, _ => rfl
  | k + 1, t, R, a, j, h => by
    unfold aSh
    rw [aSh_o k (t + 1) _ a j h, up2_o (fun z => h z.1)]
theorem aSet_o {R : aY} {p a j : Nat} (h1 : a ≠ 12) (h2 : a ≠ 5) (h3 : a ≠ 9) : aSet R p a j = R a j := by
  unfold aSet
  rw [aSh_o _ _ _ _ _ h1, up2_o (fun z => h3 z.1), up2_o (fun z => h2 z.1)]
theorem aSet_5 {R : aY} {p j : Nat} : aSet R p 5 j = if j = p / 6 then R 5 j + 1 else R 5 j := by
  unfold aSet
  rw [aSh_o _ _ _ _ _ (by omega), up2_o (by omega)]
  unfold up2
  by_cases h : j = p / 6
  · rw [if_pos ⟨rfl, h⟩, if_pos h, h]
  · rw [if_neg (fun z => h z.2), if_neg h]
theorem aSet_9 {R : aY} {p j : Nat} : aSet R p 9 j = if j = p then R 7 p - aHeld R p else R 9 j := by
  unfold aSet
  rw [aSh_o _ _ _ _ _ (by omega)]
  unfold up2
  by_cases h : j = p
  · rw [if_pos ⟨rfl, h⟩, if_pos h]
  · rw [if_neg (fun z => h z.2), if_neg (fun z => by omega), if_neg h]
theorem aSh_12 {p held : Nat} : ∀ (k t : Nat) (R : aY) (x u : Nat), t + k = 4 → u < 4 → aSh p held k t R 12 (x * 4 + u) = if x = p ∧ t ≤ u then held / 4 + (if u < held % 4 then 1 else 0) else R 12 (x * 4 + u)
  | 0, t, R, x, u, h, hu => by
    rw [if_neg (fun z => by omega)]
    rfl
  | k + 1, t, R, x, u, h, hu => by
    unfold aSh
    rw [aSh_12 k (t + 1) _ x u (by omega) hu]
    by_cases q : x = p ∧ t ≤ u
    · rw [if_pos q]
      by_cases q2 : t + 1 ≤ u
      · rw [if_pos ⟨q.1, q2⟩]
      · have e : u = t := by omega
        rw [if_neg (fun z => q2 z.2), up2_e ⟨rfl, by rw [q.1, e]⟩, e]
    · rw [if_neg q, if_neg (fun z => q ⟨z.1, by omega⟩), up2_o (fun z => q ⟨by omega, by omega⟩)]
theorem aSet_12 {R : aY} {p x u : Nat} (hu : u < 4) : aSet R p 12 (x * 4 + u) = if x = p then aHeld R p / 4 + (if u < aHeld R p % 4 then 1 else 0) else R 12 (x * 4 + u) := by
  unfold aSet
  rw [aSh_12 4 0 _ x u rfl hu, up2_o (by omega), up2_o (by omega)]
  simp
theorem rg_aSh {y p held : Nat} (hp : p < 36) : ∀ (k t : Nat) (N : Nat → Nat → Nat), t + k = 4 → rg (shF y p held k t N) y = aSh p held k t (rg N y)
  | 0, _, _, _ => rfl
  | k + 1, t, N, h => by
    unfold shF aSh
    rw [rg_aSh hp k (t + 1) _ (by omega), rg_up (n := 144) rfl (by omega)]
theorem rg_ySet {N : Nat → Nat → Nat} {y p : Nat} (hp : p < 36) : rg (ySet N y p) y = aSet (rg N y) p := by
  have e7 : rg N y 7 p = N (y + 7) p := rg_at (n := 36) rfl hp
  have e2 : rg N y 2 2 = N (y + 2) 2 := rg_at (n := 5) rfl (by omega)
  have e5 : rg N y 5 (p / 6) = N (y + 5) (p / 6) := rg_at (n := 6) rfl (by omega)
  have eh : aHeld (rg N y) p = heldF N y p := by
    unfold aHeld heldF
    rw [e7, e2]
  unfold ySet aSet
  rw [rg_aSh hp 4 0 _ rfl, rg_up (n := 36) rfl hp, rg_up (n := 6) rfl (by omega), eh, e7, e5]
theorem rg_can {N : Nat → Nat → Nat} {y p : Nat} (hp : p < 36) (h1 : 1 ≤ N y 2) (h2 : N y 2 ≤ 60) : aCan (rg N y) p = true ↔ (N (y + 8) p = N y 0 ∧ N (y + 5) (p / 6) = p % 6 ∧ N (y + 1) (N y 0 % N y 2) ≤ 8 - 2 * N (y + 6) p) := by
  have hm : N y 0 % N y 2 < 60 := Nat.lt_of_lt_of_le (Nat.mod_lt _ h1) h2
  rw [aCan_iff]
  unfold aWind
  rw [rg_at (n := 36) rfl hp, rg_at0 (by omega), rg_at0 (by omega), rg_at (k := 5) (n := 6) rfl (by omega), rg_at (k := 1) (n := 60) rfl hm, rg_at (k := 6) (n := 36) rfl hp]
theorem stX_rg {y : Nat} : ∀ (q : List Nat) (k lf : Nat) (N : Nat → Nat → Nat), lf ≤ 1 → (∀ x ∈ q, x < 36) → 1 ≤ N y 2 → N y 2 ≤ 60 →
    rg (stX y q k lf N).2.2 y = aDo q (rg N y) ∧ (stX y q k lf N).2.1 = (if aLf q (rg N y) = true then 1 else lf) ∧ stQ y q k N = aQ q (rg N y)
  | [], k, lf, N, _, _, _, _ => ⟨rfl, by simp [stX, aLf], rfl⟩
  | p :: l, k, lf, N, hf, hx, h1, h2 => by
    have hp := hx p List.mem_cons_self
    have hl : ∀ x ∈ l, x < 36 := fun x h => hx x (List.mem_cons_of_mem _ h)
    have hc := rg_can (N := N) (y := y) hp h1 h2
    unfold stX aDo aLf stQ aQ
    by_cases q : aCan (rg N y) p = true
    · have ih := stX_rg (y := y) l k lf (ySet N y p) hf hl (by rw [ySet_o (by omega) (by omega) (by omega)]; exact h1) (by rw [ySet_o (by omega) (by omega) (by omega)]; exact h2)
      rw [rg_ySet hp] at ih
      rw [if_pos q, if_pos q, if_pos q, if_pos (hc.mp q), if_pos (hc.mp q)]
      exact ih
    · have q2 := fun z => q (hc.mpr z)
      have ih := stX_rg (y := y) l (k + 1) (if lf = 0 ∧ ¬ N (y + 8) p = N y 0 then 0 else 1) (up2 N (y + 15) k p) (by split <;> omega) hl (by rw [up2_o (by omega)]; exact h1) (by rw [up2_o (by omega)]; exact h2)
      have e15 : rg (up2 N (y + 15) k p) y = rg N y := rg_o (by omega)
      rw [e15] at ih
      rw [if_neg q, if_neg q, if_neg q, if_neg q2, if_neg q2]
      refine ⟨ih.1, ?_, by rw [ih.2.2]⟩
      rw [ih.2.1, rg_at (k := 8) (n := 36) rfl hp, rg_at0 (i := 0) (by omega)]
      by_cases z : aLf l (rg N y) = true
      · rw [if_pos z, z, Bool.or_true, if_pos rfl]
      · rw [if_neg z, Bool.eq_false_iff.mpr z, Bool.or_false]
        by_cases w : N (y + 8) p = N y 0
        · rw [if_neg (fun u => u.2 w), if_pos (Nat.beq_eq.mpr w)]
        · rw [if_neg (fun u => w (Nat.beq_eq.mp u))]
          by_cases v : lf = 0
          · rw [if_pos ⟨v, w⟩, v]
          · rw [if_neg (fun u => v u.1)]
            omega
theorem aDo_o {k i : Nat} (h1 : k ≠ 12) (h2 : k ≠ 5) (h3 : k ≠ 9) : ∀ (l : List Nat) (R : aY), aDo l R k i = R k i
  | [], R => rfl
  | p :: l, R => by
    unfold aDo
    rw [aDo_o h1 h2 h3 l]
    split
    · exact aSet_o h1 h2 h3
    · rfl
/-! the order: sorted lists are one -/
theorem srt_un {lt : Nat → Nat → Prop} (hi : ∀ a b, lt a b → ¬ lt b a) : ∀ (l m : List Nat), l.Pairwise lt → m.Pairwise lt → (∀ x, x ∈ l ↔ x ∈ m) → l = m
  | [], [], _, _, _ => rfl
  | [], b :: m, _, _, h => absurd ((h b).mpr List.mem_cons_self) (by simp)
  | a :: l, [], _, _, h => absurd ((h a).mp List.mem_cons_self) (by simp)
  | a :: l, b :: m, hl, hm, h => by
    obtain ⟨l1, l2⟩ := List.pairwise_cons.mp hl
    obtain ⟨m1, m2⟩ := List.pairwise_cons.mp hm
    have hab : a = b := by
      rcases List.mem_cons.mp ((h a).mp List.mem_cons_self) with z | z
      · exact z
      · rcases List.mem_cons.mp ((h b).mpr List.mem_cons_self) with w | w
        · exact w.symm
        · exact absurd (m1 a z) (hi _ _ (l1 b w))
    subst hab
    have hii : ∀ x, ¬ lt x x := fun x z => hi x x z z
    rw [srt_un hi l m l2 m2 (fun x => ⟨fun hx => by
      rcases List.mem_cons.mp ((h x).mp (List.mem_cons_of_mem _ hx)) with z | z
      · rw [z] at hx; exact absurd (l1 _ hx) (hii _)
      · exact z, fun hx => by
      rcases List.mem_cons.mp ((h x).mpr (List.mem_cons_of_mem _ hx)) with z | z
      · rw [z] at hx; exact absurd (m1 _ hx) (hii _)
      · exact z⟩)]
def kLt (D B : Nat → Nat) (a b : Nat) : Prop := D a < D b ∨ (D a = D b ∧ B a < B b)
theorem kLt_as {D B : Nat → Nat} (a b : Nat) (h : kLt D B a b) : ¬ kLt D B b a := by
  unfold kLt at *
  omega
theorem insR_srt {D B : Nat → Nat} {p : Nat} : ∀ (l : List Nat), l.Pairwise (fun a b => kLt D B b a) → (∀ x ∈ l, B x < B p) → (insR D p l).Pairwise (fun a b => kLt D B b a)
  | [], _, _ => by simp [insR]
  | x :: l, h, hb => by
    obtain ⟨h1, h2⟩ := List.pairwise_cons.mp h
    have hx := hb x List.mem_cons_self
    unfold insR
    split
    · refine List.pairwise_cons.mpr ⟨fun z hz => ?_, insR_srt l h2 (fun y hy => hb y (List.mem_cons_of_mem _ hy))⟩
      rcases (insR_mem l).mp hz with w | w
      · rw [w]; exact Or.inl (by assumption)
      · exact h1 z w
    · refine List.pairwise_cons.mpr ⟨fun z hz => ?_, h⟩
      have hx2 : kLt D B x p := by unfold kLt; omega
      rcases List.mem_cons.mp hz with w | w
      · rw [w]; exact hx2
      · have := h1 z w
        unfold kLt at *
        omega
theorem srtR_srt {D B : Nat → Nat} : ∀ (q l : List Nat), q.Pairwise (fun a b => B a < B b) → l.Pairwise (fun a b => kLt D B b a) → (∀ x ∈ l, ∀ y ∈ q, B x < B y) → (srtR D q l).Pairwise (fun a b => kLt D B b a)
  | [], l, _, h, _ => h
  | p :: q, l, hq, h, hb => by
    obtain ⟨h1, h2⟩ := List.pairwise_cons.mp hq
    unfold srtR
    refine srtR_srt q _ h2 (insR_srt l h (fun x hx => hb x hx p List.mem_cons_self)) (fun x hx y hy => ?_)
    rcases (insR_mem l).mp hx with w | w
    · rw [w]; exact h1 y hy
    · exact hb x w y (List.mem_cons_of_mem _ hy)
def aT (D : Nat → Nat) (q : List Nat) : List Nat := (srtR D q []).reverse
theorem aT_mem {D : Nat → Nat} {q : List Nat} {x : Nat} : x ∈ aT D q ↔ x ∈ q := by
  unfold aT
  rw [List.mem_reverse, srtR_mem]
  simp
theorem aT_srt {D B : Nat → Nat} {q : List Nat} (h : q.Pairwise (fun a b => B a < B b)) : (aT D q).Pairwise (kLt D B) := by
  unfold aT
  rw [List.pairwise_reverse]
  exact srtR_srt q [] h List.Pairwise.nil (fun x hx => by simp at hx)
theorem aT_len {D : Nat → Nat} {q : List Nat} : (aT D q).length = q.length := by
  unfold aT
  rw [List.length_reverse, srtR_len]
  rfl
/-- only those of the day count: any order of the same ones of the day -/
theorem aDo_filter : ∀ (l : List Nat) (R : aY), aDo l R = aDo (l.filter (fun p => Nat.beq (R 8 p) (R 0 0))) R
  | [], R => rfl
  | p :: l, R => by
    by_cases q : Nat.beq (R 8 p) (R 0 0) = true
    · rw [List.filter_cons_of_pos (p := fun p => Nat.beq (R 8 p) (R 0 0)) q]
      unfold aDo
      rw [aDo_filter l]
      split
      · rw [aSet_o (by omega) (by omega) (by omega)]
        congr 1
      · rfl
    · rw [List.filter_cons_of_neg (p := fun p => Nat.beq (R 8 p) (R 0 0)) q]
      have e : ¬ aCan R p = true := fun z => q (by unfold aCan at z; exact (Bool.and_eq_true_iff.mp z).1)
      rw [← aDo_filter l]
      show aDo l (if aCan R p = true then aSet R p else R) = _
      rw [if_neg e]
theorem aLf_filter : ∀ (l : List Nat) (R : aY), aLf l R = aLf (l.filter (fun p => Nat.beq (R 8 p) (R 0 0))) R
  | [], R => rfl
  | p :: l, R => by
    by_cases q : Nat.beq (R 8 p) (R 0 0) = true
    · rw [List.filter_cons_of_pos (p := fun p => Nat.beq (R 8 p) (R 0 0)) q]
      unfold aLf
      split
      · rw [aLf_filter l]
        rw [aSet_o (by omega) (by omega) (by omega)]
        congr 1
      · rw [q]
        rfl
    · rw [List.filter_cons_of_neg (p := fun p => Nat.beq (R 8 p) (R 0 0)) q]
      have e : ¬ aCan R p = true := fun z => q (by unfold aCan at z; exact (Bool.and_eq_true_iff.mp z).1)
      rw [← aLf_filter l]
      show (if aCan R p = true then _ else (Nat.beq (R 8 p) (R 0 0) || aLf l R)) = _
      rw [if_neg e, Bool.eq_false_iff.mpr q, Bool.false_or]
theorem aT_filter {D B : Nat → Nat} {q : List Nat} {t : Nat} (h : q.Pairwise (fun a b => B a < B b)) : (aT D q).filter (fun p => Nat.beq (D p) t) = q.filter (fun p => Nat.beq (D p) t) := by
  refine srt_un (lt := kLt D B) kLt_as _ _ ((aT_srt h).filter _) ?_ (fun x => by rw [List.mem_filter, List.mem_filter, aT_mem])
  refine List.Pairwise.imp_of_mem ?_ (h.filter _)
  intro a b ha hb hab
  have h1 := Nat.beq_eq.mp (List.mem_filter.mp ha).2
  have h2 := Nat.beq_eq.mp (List.mem_filter.mp hb).2
  exact Or.inr ⟨by rw [h1, h2], hab⟩
theorem aDo_aT {R : aY} {B : Nat → Nat} {q : List Nat} (h : q.Pairwise (fun a b => B a < B b)) : aDo (aT (R 8) q) R = aDo q R ∧ aLf (aT (R 8) q) R = aLf q R := by
  rw [aDo_filter, aLf_filter, aT_filter h, ← aDo_filter, ← aLf_filter]
  exact ⟨rfl, rfl⟩
