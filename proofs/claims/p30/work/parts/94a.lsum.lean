/-! sums over all modules -/
def lS (R : aY) (f : Nat → Nat) (i : Nat) : Nat := sumN (fun m => if pl m % 6 < R 3 (pl m / 6) then f (pl m) else 0) 0 i
theorem lS_s {R : aY} {f : Nat → Nat} {i : Nat} : lS R f (i + 1) = lS R f i + (if pl i % 6 < R 3 (pl i / 6) then f (pl i) else 0) := by
  unfold lS
  rw [sumN_succ, Nat.zero_add]
theorem LS_out {R : aY} (h3 : LS3 R) (hh : WFh R) {p : Nat} (hp : p < 36) (ho : 4 ≤ p % 6 ∨ 18 ≤ p) : R 3 (p / 6) ≤ p % 6 := by
  have h1 := h3.2 (p / 6) (by omega)
  have h2 := (hh (p / 6) (by omega)).2.2.2
  have h0 := h3.1
  rcases ho with ho | ho
  · omega
  · rw [h2 (by omega)]
    omega
theorem sumN_pl {f : Nat → Nat} (hz : ∀ p, p < 36 → (4 ≤ p % 6 ∨ 18 ≤ p) → f p = 0) : sumN f 0 36 = sumN (fun m => f (pl m)) 0 12 := by
  have g : sumN f 0 36 = 0 + f (0 + 0) + f (0 + 1) + f (0 + 2) + f (0 + 3) + f (0 + 4) + f (0 + 5) + f (0 + 6) + f (0 + 7) + f (0 + 8) + f (0 + 9) + f (0 + 10) + f (0 + 11) + f (0 + 12) + f (0 + 13) + f (0 + 14) + f (0 + 15) + f (0 + 16) + f (0 + 17) + f (0 + 18) + f (0 + 19) + f (0 + 20) + f (0 + 21) + f (0 + 22) + f (0 + 23) + f (0 + 24) + f (0 + 25) + f (0 + 26) + f (0 + 27) + f (0 + 28) + f (0 + 29) + f (0 + 30) + f (0 + 31) + f (0 + 32) + f (0 + 33) + f (0 + 34) + f (0 + 35) := rfl
  have g2 : sumN (fun m => f (pl m)) 0 12 = 0 + f 0 + f 1 + f 2 + f 3 + f 6 + f 7 + f 8 + f 9 + f 12 + f 13 + f 14 + f 15 := rfl
  rw [g, g2]
  simp only [Nat.zero_add, hz 4 (by omega) (by omega), hz 5 (by omega) (by omega), hz 10 (by omega) (by omega), hz 11 (by omega) (by omega), hz 16 (by omega) (by omega), hz 17 (by omega) (by omega), hz 18 (by omega) (by omega), hz 19 (by omega) (by omega), hz 20 (by omega) (by omega), hz 21 (by omega) (by omega), hz 22 (by omega) (by omega), hz 23 (by omega) (by omega), hz 24 (by omega) (by omega), hz 25 (by omega) (by omega), hz 26 (by omega) (by omega), hz 27 (by omega) (by omega), hz 28 (by omega) (by omega), hz 29 (by omega) (by omega), hz 30 (by omega) (by omega), hz 31 (by omega) (by omega), hz 32 (by omega) (by omega), hz 33 (by omega) (by omega), hz 34 (by omega) (by omega), hz 35 (by omega) (by omega), Nat.add_zero]
theorem sumN_there {R : aY} {f : Nat → Nat} (h3 : LS3 R) (hh : WFh R) (hz : ∀ p, p < 36 → R 3 (p / 6) ≤ p % 6 → f p = 0) : sumN f 0 36 = lS R f 12 := by
  rw [sumN_pl (fun p hp ho => hz p hp (LS_out h3 hh hp ho))]
  unfold lS
  refine sumN_congr (fun i hi => ?_)
  have := pl_lt (m := 0 + i) (by omega)
  by_cases q : pl (0 + i) % 6 < R 3 (pl (0 + i) / 6)
  · rw [if_pos q]
  · rw [if_neg q]
    exact hz _ (by omega) (by omega)
theorem sumN_12 {g : Nat → Nat} : sumN g 0 12 = sumN (fun h => sumN (fun k => g (4 * h + k)) 0 4) 0 3 := by
  have a : sumN g 0 12 = 0 + g (0 + 0) + g (0 + 1) + g (0 + 2) + g (0 + 3) + g (0 + 4) + g (0 + 5) + g (0 + 6) + g (0 + 7) + g (0 + 8) + g (0 + 9) + g (0 + 10) + g (0 + 11) := rfl
  have b : sumN (fun h => sumN (fun k => g (4 * h + k)) 0 4) 0 3 = 0 + (0 + g 0 + g 1 + g 2 + g 3) + (0 + g 4 + g 5 + g 6 + g 7) + (0 + g 8 + g 9 + g 10 + g 11) := rfl
  rw [a, b]
  simp only [Nat.zero_add]
  omega
theorem sumN_ind {f : Nat → Nat} {n : Nat} (hn : n ≤ 4) : sumN (fun k => if k < n then f k else 0) 0 4 = sumN f 0 n := by
  have e := sumN_tl (f := fun k => if k < n then f k else 0) (a := 0) (n := n) (4 - n) (fun i h1 h2 => by
    rw [Nat.zero_add, if_neg (by omega)])
  rw [show n + (4 - n) = 4 by omega] at e
  rw [e]
  exact sumN_congr (fun i hi => by rw [Nat.zero_add, if_pos hi])
/-- what is told of the first modules of each house -/
theorem lS_T {R : aY} {f g : Nat → Nat} {T : Nat → Nat} (h3 : LS3 R) (hT : ∀ h, h < 3 → T h ≤ R 3 h) (hf : ∀ h k, h < 3 → k < R 3 h → f (6 * h + k) = if k < T h then g (6 * h + k) else 0) : lS R f 12 = sumN (fun h => sumN (fun k => g (6 * h + k)) 0 (T h)) 0 3 := by
  unfold lS
  rw [sumN_12]
  refine sumN_congr (fun h hh => ?_)
  rw [Nat.zero_add]
  have h4 := h3.2 h (by omega)
  have ht := hT h hh
  rw [← sumN_ind (f := fun k => g (6 * h + k)) (n := T h) (by omega)]
  refine sumN_congr (fun k hk => ?_)
  rw [Nat.zero_add, pl_hk hk, show (6 * h + k) / 6 = h by omega, show (6 * h + k) % 6 = k by omega]
  by_cases q : k < R 3 h
  · rw [if_pos q]
    exact hf h k hh q
  · rw [if_neg q, if_neg (by omega)]
theorem sumN_1 : ∀ {n : Nat}, sumN (fun _ => 1) 0 n = n
  | 0 => rfl
  | n + 1 => by rw [sumN_succ, sumN_1]
theorem sumN_63 {f : Nat → Nat} (h : f 3 = 0 ∧ f 4 = 0 ∧ f 5 = 0) : sumN f 0 6 = sumN f 0 3 := by
  have a : sumN f 0 6 = sumN f 0 3 + f 3 + f 4 + f 5 := rfl
  rw [a, h.1, h.2.1, h.2.2]
  rfl
theorem LS_345 {R : aY} (h3 : LS3 R) (hh : WFh R) : ∀ k, k = 3 ∨ k = 4 ∨ k = 5 → R k 3 = 0 ∧ R k 4 = 0 ∧ R k 5 = 0 := by
  have a3 := hh 3 (by omega)
  have a4 := hh 4 (by omega)
  have a5 := hh 5 (by omega)
  have h0 := h3.1
  have b3 := a3.2.2.2 (by omega)
  have b4 := a4.2.2.2 (by omega)
  have b5 := a5.2.2.2 (by omega)
  intro k hk
  rcases hk with rfl | rfl | rfl
  · exact ⟨b3, b4, b5⟩
  · exact ⟨by omega, by omega, by omega⟩
  · exact ⟨by omega, by omega, by omega⟩
theorem stg_hk {R : aY} {h k : Nat} (hk : k < 6) : stg R (6 * h + k) = if k < R 5 h then 2 else if k < R 4 h then 1 else 0 := by
  unfold stg
  rw [show (6 * h + k) / 6 = h by omega, show (6 * h + k) % 6 = k by omega]
theorem lc_mod {R : aY} {q : List Nat} (hw : WF R q) (h3 : LS3 R) : lS R (fun _ => 1) 12 = sumN (R 3) 0 6 := by
  rw [sumN_63 (LS_345 h3 hw.2.1 3 (by omega)), lS_T (f := fun _ => 1) (g := fun _ => 1) (T := R 3) h3 (fun h _ => Nat.le_refl _) (fun h k _ hk => by rw [if_pos hk])]
  exact sumN_congr (fun i _ => sumN_1)
theorem lc_set {R : aY} {q : List Nat} (hw : WF R q) (h3 : LS3 R) {f g : Nat → Nat} (hfg : ∀ p, f p = if stg R p = 2 then g p else 0) : lS R f 12 = sumN (fun h => sumN (fun k => g (6 * h + k)) 0 (R 5 h)) 0 6 := by
  have z := LS_345 h3 hw.2.1 5 (by omega)
  rw [sumN_63 (f := fun h => sumN (fun k => g (6 * h + k)) 0 (R 5 h)) ⟨by rw [z.1]; rfl, by rw [z.2.1]; rfl, by rw [z.2.2]; rfl⟩]
  refine lS_T (T := R 5) h3 (fun h hh => by have := hw.2.1 h (by omega); omega) (fun h k hh hk => ?_)
  have h4 := h3.2 h (by omega)
  rw [hfg, stg_hk (by omega)]
  by_cases q5 : k < R 5 h
  · rw [if_pos q5, if_pos q5, if_pos rfl]
  · rw [if_neg q5, if_neg q5]
    split
    · rfl
    · rfl
theorem lS_add {R : aY} {f g : Nat → Nat} : ∀ (n : Nat), lS R (fun p => f p + g p) n = lS R f n + lS R g n
  | 0 => rfl
  | n + 1 => by
    rw [lS_s, lS_s, lS_s, lS_add n]
    split <;> omega
theorem lS_cg {R : aY} {f g : Nat → Nat} (n : Nat) (h : ∀ p, f p = g p) : lS R f n = lS R g n := by
  rw [show f = g from funext h]
theorem lc_bkd {R : aY} {q : List Nat} (hw : WF R q) (h3 : LS3 R) : lS R (fun p => if stg R p = 1 then 1 else 0) 12 = q.length := by
  have s2 := lc_set hw h3 (f := fun p => if stg R p = 2 then 1 else 0) (g := fun _ => 1) (fun p => rfl)
  have s5 : sumN (fun h => sumN (fun _ => 1) 0 (R 5 h)) 0 6 = sumN (R 5) 0 6 := sumN_congr (fun i _ => by rw [sumN_1])
  rw [s5] at s2
  have s4 : lS R (fun p => (if stg R p = 1 then 1 else 0) + (if stg R p = 2 then 1 else 0)) 12 = sumN (R 4) 0 6 := by
    rw [sumN_63 (LS_345 h3 hw.2.1 4 (by omega)), lS_T (g := fun _ => 1) (T := R 4) h3 (fun h hh => (hw.2.1 h (by omega)).2.1) (fun h k hh hk => ?_)]
    · exact sumN_congr (fun i _ => sumN_1)
    · have h4 := h3.2 h (by omega)
      have h5 := (hw.2.1 h (by omega)).1
      rw [stg_hk (by omega)]
      by_cases q5 : k < R 5 h
      · rw [if_pos q5, if_neg (by omega), if_pos rfl, if_pos (by omega)]
      · rw [if_neg q5]
        by_cases q4 : k < R 4 h
        · rw [if_pos q4, if_pos rfl, if_neg (by omega)]
        · rw [if_neg q4, if_neg (by omega), if_neg (by omega)]
  rw [lS_add, s2] at s4
  have := hw.2.2.2.2.2.2.2.1
  omega
theorem lc_st {R : aY} {q : List Nat} (hw : WF R q) (h3 : LS3 R) : lS R (fun p => if stg R p = 2 then 1 else 0) 12 = sumN (R 5) 0 6 := by
  rw [lc_set hw h3 (g := fun _ => 1) (fun p => rfl)]
  exact sumN_congr (fun i _ => by rw [sumN_1])
theorem lc_prc {R : aY} {q : List Nat} (hw : WF R q) (h3 : LS3 R) : lS R (fun p => if stg R p = 2 then R 7 p else 0) 12 = sumN (aPr R) 0 6 := by
  rw [lc_set hw h3 (g := R 7) (fun p => rfl)]
  refine sumN_congr (fun i _ => ?_)
  unfold aPr
  rw [sumN_sh, Nat.mul_comm]
theorem lc_on {R : aY} {q : List Nat} (hw : WF R q) (h3 : LS3 R) (d : Nat) : lS R (fun p => if stg R p = 2 ∧ R 8 p = d then 1 else 0) 12 = sumN (aOn R d) 0 6 := by
  rw [lc_set hw h3 (g := fun p => if R 8 p = d then 1 else 0) (fun p => by
    by_cases a : stg R p = 2
    · by_cases b : R 8 p = d
      · rw [if_pos ⟨a, b⟩, if_pos a, if_pos b]
      · rw [if_neg (fun z => b z.2), if_pos a, if_neg b]
    · rw [if_neg (fun z => a z.1), if_neg a])]
  refine sumN_congr (fun i _ => ?_)
  unfold aOn
  rw [Nat.mul_comm]
theorem lc_9 {R : aY} {q : List Nat} (hw : WF R q) (h3 : LS3 R) : lS R (R 9) 12 = sumN (R 9) 0 36 ∧ lS R (R 10) 12 = sumN (R 10) 0 36 ∧ lS R (R 11) 12 = sumN (R 11) 0 36 :=
  ⟨(sumN_there h3 hw.2.1 (fun p hp h => ((hw.2.2.1 p hp).2.2 h).2.2.1)).symm, (sumN_there h3 hw.2.1 (fun p hp h => ((hw.2.2.1 p hp).2.2 h).2.2.2.1)).symm, (sumN_there h3 hw.2.1 (fun p hp h => ((hw.2.2.1 p hp).2.2 h).2.2.2.2)).symm⟩
theorem lc_12 {R : aY} {q : List Nat} (hw : WF R q) (h3 : LS3 R) : lS R (fun p => sumN (R 12) (p * 4) 4) 12 = sumN (R 12) 0 144 ∧ lS R (fun p => sumN (R 13) (p * 4) 4) 12 = sumN (R 13) 0 144 := by
  have key : ∀ k, (∀ p, p < 36 → R 3 (p / 6) ≤ p % 6 → ∀ t, t < 4 → R k (p * 4 + t) = 0) → lS R (fun p => sumN (R k) (p * 4) 4) 12 = sumN (R k) 0 144 := fun k hk => by
    rw [← sumN_there (f := fun p => sumN (R k) (p * 4) 4) h3 hw.2.1 (fun p hp h => by
      have p0 := hk p hp h 0 (by omega)
      have p1 := hk p hp h 1 (by omega)
      have p2 := hk p hp h 2 (by omega)
      have p3 := hk p hp h 3 (by omega)
      rw [Nat.add_zero] at p0
      rw [sum4, p0, p1, p2, p3])]
    have e := sumN_4 (f := R k) (a := 0) 36
    rw [Nat.zero_mul] at e
    rw [show 36 * 4 = 144 from rfl] at e
    rw [e]
    exact sumN_congr (fun i _ => by rw [Nat.zero_add, Nat.zero_add])
  exact ⟨key 12 (fun p hp h t ht => ((hw.2.2.2.1 p hp t ht).2.2 h).1), key 13 (fun p hp h t ht => ((hw.2.2.2.1 p hp t ht).2.2 h).2)⟩
theorem lc_tr {R : aY} {q : List Nat} (hw : WF R q) (h3 : LS3 R) {t : Nat} (ht : t < 4) : sumN (fun m => R 13 (pl m * 4 + t)) 0 12 = sumN (fun p => R 13 (p * 4 + t)) 0 36 ∧ sumN (fun m => R 12 (pl m * 4 + t)) 0 12 = sumN (fun p => R 12 (p * 4 + t)) 0 36 :=
  ⟨(sumN_pl (f := fun p => R 13 (p * 4 + t)) (fun p hp ho => ((hw.2.2.2.1 p hp t ht).2.2 (LS_out h3 hw.2.1 hp ho)).2)).symm, (sumN_pl (f := fun p => R 12 (p * 4 + t)) (fun p hp ho => ((hw.2.2.2.1 p hp t ht).2.2 (LS_out h3 hw.2.1 hp ho)).1)).symm⟩
-- doubles
theorem fl_mk {v : UInt64} (h : Jvm.FP.Core.dIsNaN v = false) : (v &&& 0x7fffffffffffffff ≤ 0x7ff0000000000000) = True := by
  refine eq_true ?_
  have h := (Jvm.FP.Core.notNaN_iff _).mp h
  rw [Jvm.FP.Core.ne_nan] at h
  rw [UInt64.le_iff_toNat_le]
  exact (Jvm.FP.Core.mask_toNat _).symm ▸ h
theorem fl_i2d (a : Int32) : Jvm.FP.Core.dIsNaN (FP.i2d a) = false := (Jvm.FP.Core.notNaN_iff _).mpr (Jvm.FP.Core.DFin.ne_nan (Jvm.FP.Core.i2d_fin a))
theorem fl_one (a : Int32) : FP.dmul FP.dconst1 (FP.i2d a) = FP.i2d a := Jvm.FP.Core.one_dmul (fl_i2d a)
theorem fl_self {v : UInt64} (h : Jvm.FP.Core.dIsNaN v = false) : Op.cmpValue (FP.dcmp v v) .l = 0 := by
  have e : FP.dcmp v v = some .eq := Jvm.FP.Core.dcmp_self ((Jvm.FP.Core.notNaN_iff _).mp h)
  rw [e]
  rfl
theorem fl_div {a b : Int32} (hb : b ≠ 0) : Jvm.FP.Core.dIsNaN (FP.ddiv (FP.i2d a) (FP.i2d b)) = false :=
  Jvm.FP.Core.ddiv_out (fl_i2d a) (Jvm.FP.Core.i2d_fin b) (fun h => Jvm.FP.Core.i2d_ne_zero hb ((Jvm.FP.Core.zero_bits2 _).mp h))
