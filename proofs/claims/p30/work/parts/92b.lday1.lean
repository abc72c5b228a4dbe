/-! the law's day: the modules of the day, one after another -/
def hdI : List Nat → Nat
  | [] => 4294967295
  | p :: _ => lp p
theorem nI_wr {k : Nat} : nI (k + 1 + 4294967295) = nI k := by
  apply Int32.toBitVec_inj.mp
  apply BitVec.eq_of_toNat_eq
  show (BitVec.ofNat 32 (k + 1 + 4294967295)).toNat = (BitVec.ofNat 32 k).toNat
  rw [BitVec.toNat_ofNat, BitVec.toNat_ofNat]
  omega
theorem zM1 : (nI 4294967295 < 0) = True := eq_true (by decide)
theorem LS3_o {R R' : aY} (h : LS3 R) (e1 : R' 0 1 = R 0 1) (e3 : ∀ i, R' 3 i = R 3 i) : LS3 R' := by
  refine ⟨by rw [e1]; exact h.1, fun i hi => by rw [e3]; exact h.2 i hi⟩
theorem fC_st {N : Nat → Nat → Nat} {mo mi sh cc : Nat} {R : aY} {S B : Nat → Nat} {o s dd af m : Nat} (h : LM N mo mi sh cc R S B o) (hh : WFh R) (hm : m < 12) (hs : S (pl m) = s → pl m % 6 < R 4 (pl m / 6)) : fC N mo cc s dd af m ↔ S (pl m) = s ∧ (dd = 4294967295 ∨ R 8 (pl m) = dd) ∧ af ≤ B (pl m) := by
  unfold fC
  obtain ⟨f0, f1, f2, f3, -⟩ := h.2.2.2.1 m hm
  rw [lTh_R h hh hm, f2, f3]
  refine ⟨fun ⟨a1, a2, a3, a4⟩ => ⟨a2, ?_, a4⟩, fun ⟨a2, a3, a4⟩ => ⟨?_, a2, ?_, a4⟩⟩
  · rw [← (h.2.2.2.2.1 m hm).2 (hs a2)]
    exact a3
  · have h1 := hs a2
    have h2 := hh (pl m / 6) (by have := pl_lt hm; omega)
    omega
  · rw [(h.2.2.2.2.1 m hm).2 (hs a2)]
    exact a3
section Ld
variable {Z : aZ} {N : Nat → Nat → Nat} {L : Nat → Nat → Int64} {u : Nat × Nat} {mo mi sh cc : Nat}
/-- the first of the modules of the day that are left -/
theorem lz_fst1 {R : aY} {B : Nat → Nat} {o af : Nat} {A : Int32} (hA : LA Z mo mi sh cc) (hB : (∀ m, m < 36 → B m ≤ o) ∧ o ≤ 1000) (rs : List Nat) (h : LM N mo mi sh cc R (stg R) B o) (hw : WFz R) (h3 : LS3 R) (hx : ∀ x ∈ rs, x < 36 ∧ R 5 (x / 6) ≤ x % 6 ∧ x % 6 < R 4 (x / 6) ∧ R 8 x = R 0 0) (hp : rs.Pairwise (fun a b => B a < B b)) (hc : ∀ x, x < 36 → ((stg R x = 1 ∧ R 8 x = R 0 0 ∧ af ≤ B x) ↔ x ∈ rs)) (haf : af ≤ 2000) (hAf : A = nI (af + 4294967295)) :
    ex 103 0 [some (.int (nI 1)), some (.int (nI (N cc 1))), some (.int A), some (.ref mo), some (.ref cc), none, none] [] (Z, iN N, L, u) = some (.inl (some (.int (nI (hdI rs)))), (Z, iN N, L, u)) := by
  have hS : ∀ m, m < 36 → stg R m ≤ 3 := fun m _ => by have := stg_le (R := R) (m := m); omega
  have hb := LM_LB h hw h3 hS hB
  have hday : N cc 1 = R 0 0 := h.1.2.1
  have hh := hw.2.1
  obtain ⟨b', e1, e2⟩ := lz_first (L := L) (u := u) (s := 1) (dd := N cc 1) hA hb (Or.inr (by have := hb.2.2.2.1; omega)) haf (by omega) hAf
  have hst : ∀ m, stg R m = 1 → m % 6 < R 4 (m / 6) := fun m hm => by
    unfold stg at hm
    split at hm
    · omega
    · split at hm
      · assumption
      · omega
  have hm : ∀ m, m < 12 → (fC N mo cc 1 (N cc 1) af m ↔ pl m ∈ rs) := fun m hm => by
    rw [fC_st h hh hm (hst _), ← hc _ (by have := pl_lt hm; omega), hday]
    refine ⟨fun ⟨a1, a2, a3⟩ => ⟨a1, ?_, a3⟩, fun ⟨a1, a2, a3⟩ => ⟨a1, Or.inr a2, a3⟩⟩
    have := hw.2.2.2.2.2
    omega
  rw [e1]
  cases rs with
  | nil => rw [FI_nil e2 (fun m hm2 hc2 => by simpa using (hm m hm2).mp hc2)]; rfl
  | cons p rs =>
    obtain ⟨p1, p2⟩ := List.pairwise_cons.mp hp
    have hin : ∀ x ∈ p :: rs, lp x < 12 ∧ pl (lp x) = x := fun x hxx => by
      have hq := hx x hxx
      have := hh (x / 6) (by omega)
      exact (LS_in h3 hh hq.1 (by omega)).2.2
    rw [FI_cons e2 hm (hin p List.mem_cons_self) (fun x hxx => by
      have i1 := hin p List.mem_cons_self
      have i2 := hin x (List.mem_cons_of_mem _ hxx)
      have q1 := hx p List.mem_cons_self
      have q2 := hx x (List.mem_cons_of_mem _ hxx)
      have g1 := (h.2.2.2.2.1 (lp p) i1.1).2
      have g2 := (h.2.2.2.2.1 (lp x) i2.1).2
      have k1 := (h.2.2.2.1 (lp p) i1.1).2.2.2.1
      have k2 := (h.2.2.2.1 (lp x) i2.1).2.2.2.1
      rw [i1.2] at g1 k1
      rw [i2.2] at g2 k2
      have := p1 x hxx
      refine Or.inr ⟨?_, by omega⟩
      rw [g1 q1.2.2.1, g2 q2.2.2.1, q1.2.2.2, q2.2.2.2])]
    rfl
theorem lz_dset_loop {m held n ms : Nat} {A : Int32} (hA : LA Z mo mi sh cc) (hm : m < 12) (hh2 : held ≤ 2999) : ∀ (k t : Nat), t + k = 4 →
    ex 104 131 [some (.ref mo), some (.ref mi), some (.ref sh), some (.ref 149), some (.ref 150), some (.ref cc), some (.int (nI n)), some (.int (nI ms)), some (.int A), some (.int (nI m)), some (.int (nI held)), some (.int (nI t))] [] (Z, iN (shW N sh m held t), L, u) =
    ex 104 170 [some (.ref mo), some (.ref mi), some (.ref sh), some (.ref 149), some (.ref 150), some (.ref cc), some (.int (nI (n + 1))), some (.int (nI ms)), some (.int A), some (.int (nI m)), some (.int (nI held)), some (.int (nI 4))] [] (Z, iN (shW N sh m held 4), L, u)
  | 0, t, e => by
    have et : t = 4 := by omega
    subst et
    simp (disch := omega) only [r_L_day_131, r_L_day_133, r_L_day_134, r_L_day_161, r_L_day_164, up2_o, up2_e, iN_ap, iN_up, i_ix, i_inb, i_lt, i_lt0, i_0lt, i_eq, i_ne0, i_00, i_11, i_01, i_10, i_b, i_rem2, n_rem, i_add, i_mul, i_sub, i_div, i_max, i_min, rdk_0, rdk_3, kp_none, kp_int, kp_ref, kp_long, kp_double, aK_v, aK_0, aK_ite, if_true, if_false, and_self, and_true, true_and, or_false, false_or, not_true_eq_false, not_false_eq_true, ite_self, ↓reduceIte, eq_self, Bool.false_eq_true, Nat.lt_irrefl]
  | k + 1, t, e => by
    have ih := lz_dset_loop (n := n) (ms := ms) (A := A) hA hm hh2 k (t + 1) (by omega)
    have q : t < 4 := by omega
    rw [r_L_day_131]
    simp (disch := omega) only [r_L_day_133, r_L_day_134, r_L_day_137, r_L_day_138, r_L_day_139, r_L_day_141, r_L_day_142, r_L_day_144, r_L_day_145, r_L_day_147, r_L_day_148, r_L_day_149, r_L_day_151, r_L_day_152, r_L_day_153, r_L_day_154, r_L_day_155, r_L_day_158, up2_o, up2_e, iN_ap, iN_up, i_ix, i_inb, i_lt, i_lt0, i_0lt, i_eq, i_ne0, i_00, i_11, i_01, i_10, i_b, i_rem2, n_rem, i_add, i_mul, i_sub, i_div, i_max, i_min, rdk_0, rdk_3, kp_none, kp_int, kp_ref, kp_long, kp_double, aK_v, aK_0, aK_ite, if_true, if_false, and_self, and_true, true_and, or_false, false_or, not_true_eq_false, not_false_eq_true, ite_self, ↓reduceIte, eq_self, Bool.false_eq_true, hA.1.1, hA.1.2, hA.2.1.1, hA.2.1.2, hA.2.2.1.1, hA.2.2.1.2, hA.2.2.2.1.1, hA.2.2.2.1.2, hA.2.2.2.2.1.1, hA.2.2.2.2.1.2, hA.2.2.2.2.2.1, hA.2.2.2.2.2.2, q]
    exact ih
theorem lz_dset {m held n ms : Nat} {A : Int32} {a10 a11 : Option Value} (hA : LA Z mo mi sh cc) (hD : LD mo mi sh cc) (hm : m < 12) (h2 : N mo (5 * m + 1) * N 149 2 < 2147483648) (hh : N mo (5 * m + 1) * N 149 2 / 100 = held) (hle : held ≤ N mo (5 * m + 1)) (hh2 : held ≤ 2999) :
    ex 104 85 [some (.ref mo), some (.ref mi), some (.ref sh), some (.ref 149), some (.ref 150), some (.ref cc), some (.int (nI n)), some (.int (nI ms)), some (.int A), some (.int (nI m)), a10, a11] [] (Z, iN N, L, u) =
    ex 104 170 [some (.ref mo), some (.ref mi), some (.ref sh), some (.ref 149), some (.ref 150), some (.ref cc), some (.int (nI (n + 1))), some (.int (nI ms)), some (.int A), some (.int (nI m)), some (.int (nI held)), some (.int (nI 4))] [] (Z, iN (stW N mo mi sh m held), L, u) := by
  obtain ⟨d1, d2, d3, d4, d5, d6, d7, d8, d9, d10, d11, d12, d13, d14⟩ := hD
  have l := lz_dset_loop (N := up2 (up2 N mo (5 * m + 2) 2) mi (3 * m) (N mo (5 * m + 1) - held)) (L := L) (u := u) (n := n) (ms := ms) (A := A) hA hm hh2 4 0 rfl
  unfold stW
  rw [← l]
  simp (disch := omega) only [r_L_day_85, r_L_day_86, r_L_day_87, r_L_day_89, r_L_day_90, r_L_day_91, r_L_day_92, r_L_day_93, r_L_day_94, r_L_day_95, r_L_day_96, r_L_day_97, r_L_day_99, r_L_day_100, r_L_day_102, r_L_day_103, r_L_day_104, r_L_day_106, r_L_day_107, r_L_day_108, r_L_day_109, r_L_day_110, r_L_day_111, r_L_day_112, r_L_day_113, r_L_day_115, r_L_day_116, r_L_day_117, r_L_day_118, r_L_day_120, r_L_day_121, r_L_day_122, r_L_day_123, r_L_day_124, r_L_day_126, r_L_day_127, r_L_day_128, r_L_day_129, up2_o, up2_e, iN_ap, iN_up, i_ix, i_inb, i_lt, i_lt0, i_0lt, i_eq, i_ne0, i_00, i_11, i_01, i_10, i_b, i_rem2, n_rem, i_add, i_mul, i_sub, i_div, i_max, i_min, rdk_0, rdk_3, kp_none, kp_int, kp_ref, kp_long, kp_double, aK_v, aK_0, aK_ite, if_true, if_false, and_self, and_true, true_and, or_false, false_or, not_true_eq_false, not_false_eq_true, ite_self, ↓reduceIte, eq_self, Bool.false_eq_true, hA.1.1, hA.1.2, hA.2.1.1, hA.2.1.2, hA.2.2.1.1, hA.2.2.1.2, hA.2.2.2.1.1, hA.2.2.2.1.2, hA.2.2.2.2.1.1, hA.2.2.2.2.1.2, hA.2.2.2.2.2.1, hA.2.2.2.2.2.2, hh, kp_int, shW]
end Ld
