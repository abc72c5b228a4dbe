/-! what the class answers, where nothing fails -/
section Ce
variable {Z : aZ} {N : Nat → Nat → Nat} {L : Nat → Nat → Int64} {c : Nat × Nat} {S : aSt}
theorem CE_0 {kd : Nat → Nat} {e : Option (aR × aH)} {r : Nat × Nat × aSt} {v : Nat} {S2 : aSt} (h : CE Z L c N kd e r) (hr : r = (0, v, S2)) : e = some (.inl (some (.int (nI v))), (Z, iN N, L, c)) := by
  subst hr
  exact h.trans (if_pos rfl)
theorem ce_house {h w : Nat} (hC : ZC Z) (hI : CI N S) (hS : SOK S) (hh : h < S.1.1 0 1) (hw : w ≤ 6) : ex 70 0 [some (.ref 0), some (.int (nI h)), some (.int (nI w)), none, none] [] (Z, iN N, L, c) = some (.inl (some (.int (nI (aHn S.1.1 h w)))), (Z, iN N, L, c)) := by
  have h0 := hS.1.1.1.1.1
  refine CE_0 (q_house (L := L) (c := c) (h := h) (w := w) hC hI hS (by omega) (by omega)) (S2 := S) ?_
  unfold oHou
  rw [if_neg (not_not_intro hh), if_neg (by omega)]
theorem ce_module {h j w : Nat} (hC : ZC Z) (hI : CI N S) (hS : SOK S) (hh : h < S.1.1 0 1) (hj : j < S.1.1 3 h) (hw : w ≤ 8) : ex 71 0 [some (.ref 0), some (.int (nI h)), some (.int (nI j)), some (.int (nI w)), none] [] (Z, iN N, L, c) = some (.inl (some (.int (nI (aMn S.1.1 (6 * h + j) w)))), (Z, iN N, L, c)) := by
  have h0 := hS.1.1.1.1.1
  have h3 := (hS.1.1.2.1 h (by omega)).2.2.1
  refine CE_0 (q_module (L := L) (c := c) (h := h) (k := j) (w := w) hC hI hS (by omega) (by omega) (by omega)) (S2 := S) ?_
  unfold oMod
  rw [if_neg (not_not_intro ⟨hh, hj⟩), if_neg (by omega)]
theorem ce_share {h j t w : Nat} (hC : ZC Z) (hI : CI N S) (hS : SOK S) (hh : h < S.1.1 0 1) (hj : j < S.1.1 3 h) (ht : t < 4) (hw : w ≤ 1) : ex 72 0 [some (.ref 0), some (.int (nI h)), some (.int (nI j)), some (.int (nI t)), some (.int (nI w)), none] [] (Z, iN N, L, c) = some (.inl (some (.int (nI (S.1.1 (if w = 0 then 12 else 13) ((6 * h + j) * 4 + t))))), (Z, iN N, L, c)) := by
  have h0 := hS.1.1.1.1.1
  have h3 := (hS.1.1.2.1 h (by omega)).2.2.1
  refine CE_0 (q_share (L := L) (c := c) (h := h) (k := j) (t := t) (w := w) hC hI hS (by omega) (by omega) (by omega) (by omega)) (S2 := S) ?_
  unfold oShr
  rw [if_neg (not_not_intro ⟨⟨hh, hj⟩, ht⟩), if_neg (by omega)]
theorem ce_trade {t w : Nat} (hC : ZC Z) (hI : CI N S) (ht : t < 4) (hw : w ≤ 5) : ex 73 0 [some (.ref 0), some (.int (nI t)), some (.int (nI w))] [] (Z, iN N, L, c) = some (.inl (some (.int (nI (aTr S.1.1 t w)))), (Z, iN N, L, c)) := by
  refine CE_0 (q_trade (L := L) (c := c) (t := t) (w := w) hC hI (by omega) (by omega)) (S2 := S) ?_
  unfold oTrd
  rw [if_neg (not_not_intro ht), if_neg (by omega)]
theorem ce_day {d w : Nat} (hC : ZC Z) (hI : CI N S) (hS : SOK S) (hd : d ≤ 9999) (hw : w ≤ 3) : ex 74 0 [some (.ref 0), some (.int (nI d)), some (.int (nI w))] [] (Z, iN N, L, c) = some (.inl (some (.int (nI (aDn S.1.1 S.1.2 d w)))), (Z, iN N, L, c)) := by
  refine CE_0 (q_day (L := L) (c := c) (d := d) (w := w) hC hI hS (by omega) (by omega)) (S2 := S) ?_
  unfold oDay
  rw [if_neg (by omega)]
theorem ce_count {w : Nat} (hC : ZC Z) (hI : CI N S) (hS : SOK S) (hw : w ≤ 12) : ex 75 0 [some (.ref 0), some (.int (nI w))] [] (Z, iN N, L, c) = some (.inl (some (.int (nI (aCn S.1.1 S.1.2 S.2.1.length w)))), (Z, iN N, L, c)) := by
  refine CE_0 (q_count (L := L) (c := c) (w := w) hC hI hS (by omega)) (S2 := S) ?_
  unfold oCnt
  rw [if_neg (by omega)]
theorem ce_setting {s : Nat} (hC : ZC Z) (hI : CI N S) (hs : s < 5) : ex 76 0 [some (.ref 0), some (.int (nI s))] [] (Z, iN N, L, c) = some (.inl (some (.int (nI (S.1.1 2 s)))), (Z, iN N, L, c)) := by
  refine CE_0 (q_setting (L := L) (c := c) (s := s) hC hI (by omega)) (S2 := S) ?_
  unfold oStg
  rw [if_neg (not_not_intro hs)]
theorem ce_worst (hC : ZC Z) (hI : CI N S) (hS : SOK S) : ex 80 0 [some (.ref 0), none, none, none, none, none, none] [] (Z, iN N, L, c) = some (.inl (some (.int (nI (aWo (fun t => aTr S.1.1 t 2) (fun t => aTr S.1.1 t 3) 4 0 4294967295)))), (Z, iN N, L, c)) := by
  exact CE_0 (q_worst (L := L) (c := c) hC hI hS) (S2 := S) rfl
theorem CR_0 {kd : Nat → Nat} {e : Option (aR × aH)} {r : Nat × Nat × aSt} {v : Nat} {S2 : aSt} (h : CR Z L c N kd e r) (hr : r = (0, v, S2)) : ∃ N', e = some (.inl (some (.int (nI v))), (Z, iN N', L, c)) ∧ CI N' S2 ∧ ∀ a, 144 ≤ a → N' a = N a := by
  obtain ⟨N', h1, h2, h3⟩ := h
  subst hr
  exact ⟨N', h1.trans (if_pos rfl), h2, h3⟩
theorem ce_ends (hC : ZC Z) (hI : CI N S) (hS : SOK S) : ∃ N', ex 77 0 [some (.ref 0), none] [] (Z, iN N, L, c) = some (.inl (some (.int (nI (aEn 300 4294967295 S.1)))), (Z, iN N', L, c)) ∧ CI N' S ∧ ∀ a, 144 ≤ a → N' a = N a :=
  CR_0 (q_ends (L := L) (c := c) hC hI hS) rfl
theorem ce_best {h : Nat} (hC : ZC Z) (hI : CI N S) (hS : SOK S) (hh : h < S.1.1 0 1) : ∃ N', ex 78 0 [some (.ref 0), some (.int (nI h)), none, none, none] [] (Z, iN N, L, c) = some (.inl (some (.int (nI (aBs S.1.1 S.1.2 h)))), (Z, iN N', L, c)) ∧ CI N' S ∧ ∀ a, 144 ≤ a → N' a = N a := by
  have h0 := hS.1.1.1.1.1
  refine CR_0 (q_best (L := L) (c := c) (h := h) hC hI hS (by omega)) ?_
  unfold oBst
  rw [if_neg (not_not_intro hh)]
theorem ce_ifp {n h : Nat} (hC : ZC Z) (hI : CI N S) (hS : SOK S) (hn : 1 ≤ n ∧ n ≤ 60) (hh : h = 4294967295 ∨ h < S.1.1 0 1) : ∃ N', ex 79 0 [some (.ref 0), some (.int (nI n)), some (.int (nI h))] [] (Z, iN N, L, c) = some (.inl (some (.int (nI (aSn (aPn n S.1).1 h - aSn S.1.1 h)))), (Z, iN N', L, c)) ∧ CI N' S ∧ ∀ a, 144 ≤ a → N' a = N a := by
  have h0 := hS.1.1.1.1.1
  refine CR_0 (q_ifp (L := L) (c := c) (n := n) (h := h) hC hI hS (by omega) (by omega)) ?_
  unfold oIfp
  rw [if_neg (by omega), if_neg (by omega)]
end Ce
/-! what holds between the calls of the law -/
def LT (N : Nat → Nat → Nat) (R : aY) : Prop := (∀ m, m < 12 → ∀ t, t < 4 → N 147 (4 * m + t) = R 13 (pl m * 4 + t)) ∧ (∀ i, i < 16 → N 148 i = R 14 i)
def LW (N : Nat → Nat → Nat) (S : aSt) (B : Nat → Nat) (o : Nat) : Prop := LM N 144 145 146 151 S.1.1 (stg S.1.1) B o ∧ LT N S.1.1 ∧ CI N S ∧ SOK S ∧ LS3 S.1.1 ∧ BK S.1.2 B o
def LZ (Z : aZ) : Prop := ZC Z ∧ LA Z 144 145 146 151 ∧ (Z.1 147 = 0 ∧ Z.2.1 147 = 48) ∧ (Z.1 148 = 0 ∧ Z.2.1 148 = 16)
theorem LD0 : LD 144 145 146 151 := by
  unfold LD
  omega
theorem LW_LB {N : Nat → Nat → Nat} {S : aSt} {B : Nat → Nat} {o : Nat} (h : LW N S B o) : LB N 144 151 :=
  LM_LB h.1 (WF_z h.2.2.2.1.1.1 (by have := h.2.2.2.1.1.2; omega)) h.2.2.2.2.1 (fun m _ => by have := stg_le (R := S.1.1) (m := m); omega) ⟨h.2.2.2.2.2.2.1, h.2.2.2.2.2.2.2.2⟩
theorem LW_cg {N N' : Nat → Nat → Nat} {S : aSt} {B : Nat → Nat} {o : Nat} (h : LW N S B o) (hI : CI N' S) (he : ∀ a, 144 ≤ a → N' a = N a) : LW N' S B o := by
  refine ⟨LM_cg h.1 (fun a _ => he a (by omega)), ?_, hI, h.2.2.2⟩
  unfold LT
  rw [he 147 (by omega), he 148 (by omega)]
  exact h.2.1
