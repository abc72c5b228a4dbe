/-! texts, as functions; the reference reads them so -/
abbrev aP2 : Type := Nat × List (Nat × Nat)
def hS (x : Nat) (s : aP2) : Option aP2 :=
  if s.1 = 0 then (if (49 ≤ x ∧ x ≤ 51) ∧ s.2.length < 6 then some (1, (x - 48, 0) :: s.2) else none)
  else if s.1 = 1 then (if x = 58 then some (2, s.2) else none)
  else match s.2 with
    | [] => none
    | (w, p) :: l => if x = 44 then (if 1 ≤ p ∧ l.length + 1 < 6 then some (0, (w, p) :: l) else none) else if (48 ≤ x ∧ x ≤ 57) ∧ 1 ≤ p * 10 + (x - 48) ∧ p * 10 + (x - 48) ≤ 9999 then some (2, (w, p * 10 + (x - 48)) :: l) else none
def wS (x : Nat) (s : aP2) : Option aP2 :=
  if s.1 = 0 then (if (48 ≤ x ∧ x ≤ 57) ∧ s.2.length < 60 then some (1, (x - 48, 1) :: s.2) else none)
  else match s.2 with
    | [] => none
    | (w, t) :: l => if x = 44 then (if s.1 = 1 ∨ 2 ≤ t then some (0, (w, t) :: l) else none)
      else if s.1 = 1 then (if x = 42 then some (2, (w, 0) :: l) else none)
      else if (48 ≤ x ∧ x ≤ 57) ∧ 1 ≤ t * 10 + (x - 48) ∧ t * 10 + (x - 48) ≤ 60 then some (2, (w, t * 10 + (x - 48)) :: l) else none
def pF (f : Nat → aP2 → Option aP2) : List Nat → aP2 → Nat × Option aP2
  | [], s => (0, some s)
  | x :: l, s => match f x s with
    | none => (0, none)
    | some s' => ((pF f l s').1 + 1, (pF f l s').2)
/-- what a reader's rows hold, the earliest first -/
def At2 (f g : Nat → Nat) (l : List (Nat × Nat)) : Prop := ∀ i e, l[i]? = some e → f i = e.1 ∧ (e.2 ≠ 0 → g i = e.2)
theorem At2_app {f g : Nat → Nat} {l : List (Nat × Nat)} {e : Nat × Nat} : At2 f g (l ++ [e]) ↔ At2 f g l ∧ f l.length = e.1 ∧ (e.2 ≠ 0 → g l.length = e.2) := by
  refine ⟨fun h => ⟨fun i z hz => h i z ?_, h _ _ (by simp)⟩, fun h i z hz => ?_⟩
  · have hi : i < l.length := by
      rcases Nat.lt_or_ge i l.length with q | q
      · exact q
      · rw [List.getElem?_eq_none q] at hz; cases hz
    rw [List.getElem?_append_left hi]
    exact hz
  · rcases Nat.lt_or_ge i l.length with q | q
    · rw [List.getElem?_append_left q] at hz
      exact h.1 i z hz
    · rw [List.getElem?_append_right q] at hz
      rcases Nat.eq_or_lt_of_le q with e | e
      · rw [← e, Nat.sub_self] at hz
        rw [← e, ← Option.some.inj hz]
        exact h.2
      · rw [List.getElem?_eq_none (by simp; omega)] at hz; cases hz
theorem At2_congr {f g f' g' : Nat → Nat} {l : List (Nat × Nat)} (h : At2 f g l) (hf : ∀ i, i < l.length → f' i = f i) (hg : ∀ i, i < l.length → g' i = g i) : At2 f' g' l := fun i e he => by
  have hi : i < l.length := by
    rcases Nat.lt_or_ge i l.length with q | q
    · exact q
    · rw [List.getElem?_eq_none q] at he; cases he
  rw [hf i hi, hg i hi]
  exact h i e he
def HB (s : aP2) : Prop := s.1 ≤ 2 ∧ s.2.length ≤ 6 ∧ (∀ e ∈ s.2, e.1 ≤ 3 ∧ e.2 ≤ 9999) ∧ (s.1 = 0 → s.2.length ≤ 5 ∧ ∀ e ∈ s.2, 1 ≤ e.2) ∧ (s.1 ≠ 0 → ∃ e l, s.2 = e :: l ∧ (∀ e ∈ l, 1 ≤ e.2) ∧ (s.1 = 1 → e.2 = 0))
theorem HB_step {x : Nat} {s s' : aP2} (h : HB s) (hs : hS x s = some s') : HB s' := by
  obtain ⟨aw, l⟩ := s
  obtain ⟨h1, h2, h3, h4, h5⟩ := h
  unfold hS at hs
  dsimp only at hs h1 h2 h3 h4 h5
  by_cases a0 : aw = 0
  · rw [if_pos a0] at hs
    split at hs
    · rename_i c
      cases hs
      refine ⟨by simp, by simp; omega, fun e he => ?_, fun z => by simp at z, fun _ => ⟨_, _, rfl, (h4 a0).2, fun _ => rfl⟩⟩
      rcases List.mem_cons.mp he with z | z
      · rw [z]; exact ⟨by dsimp only; omega, by dsimp only; omega⟩
      · exact h3 e z
    · cases hs
  · rw [if_neg a0] at hs
    obtain ⟨e, l', hl, k1, k2⟩ := h5 a0
    by_cases a1 : aw = 1
    · rw [if_pos a1] at hs
      split at hs
      · cases hs
        exact ⟨by simp, h2, h3, fun z => by simp at z, fun _ => ⟨e, l', hl, k1, fun z => by simp at z⟩⟩
      · cases hs
    · rw [if_neg a1] at hs
      subst hl
      obtain ⟨w, p⟩ := e
      dsimp only at hs
      split at hs
      · split at hs
        · rename_i c
          cases hs
          refine ⟨by simp, h2, h3, fun _ => ⟨by simp; omega, fun e he => ?_⟩, fun z => by simp at z⟩
          rcases List.mem_cons.mp he with z | z
          · rw [z]; exact c.1
          · exact k1 e z
        · cases hs
      · split at hs
        · rename_i c
          cases hs
          refine ⟨by simp, h2, fun e he => ?_, fun z => by simp at z, fun _ => ⟨_, _, rfl, k1, fun z => by simp at z⟩⟩
          rcases List.mem_cons.mp he with z | z
          · rw [z]; exact ⟨(h3 (w, p) List.mem_cons_self).1, c.2.2⟩
          · exact h3 e (List.mem_cons_of_mem _ z)
        · cases hs
/-- the winds so far, k characters read -/
def WB (s : aP2) (k : Nat) : Prop := s.1 ≤ 2 ∧ (∀ e ∈ s.2, e.1 ≤ 9 ∧ e.2 ≤ 60) ∧ (s.1 = 0 → 2 * s.2.length ≤ k ∧ ∀ e ∈ s.2, 1 ≤ e.2) ∧ (s.1 ≠ 0 → 2 * s.2.length ≤ k + 1 ∧ ∃ e l, s.2 = e :: l ∧ (∀ e ∈ l, 1 ≤ e.2) ∧ (s.1 = 1 → e.2 = 1))
theorem WB_step {x k : Nat} {s s' : aP2} (h : WB s k) (hs : wS x s = some s') : WB s' (k + 1) := by
  obtain ⟨aw, l⟩ := s
  obtain ⟨h1, h3, h4, h5⟩ := h
  unfold wS at hs
  dsimp only at hs h1 h3 h4 h5
  by_cases a0 : aw = 0
  · rw [if_pos a0] at hs
    split at hs
    · rename_i c
      cases hs
      refine ⟨by simp, fun e he => ?_, fun z => by simp at z, fun _ => ⟨by have := (h4 a0).1; simp; omega, _, _, rfl, (h4 a0).2, fun _ => rfl⟩⟩
      rcases List.mem_cons.mp he with z | z
      · rw [z]; exact ⟨by dsimp only; omega, by dsimp only; omega⟩
      · exact h3 e z
    · cases hs
  · rw [if_neg a0] at hs
    obtain ⟨k0, e, l', hl, k1, k2⟩ := h5 a0
    subst hl
    obtain ⟨w, p⟩ := e
    dsimp only at hs k2
    split at hs
    · split at hs
      · rename_i c
        cases hs
        refine ⟨by simp, h3, fun _ => ⟨by simp at k0 ⊢; omega, fun e he => ?_⟩, fun z => by simp at z⟩
        rcases List.mem_cons.mp he with z | z
        · rw [z]
          rcases c with c | c
          · have := k2 c
            dsimp only
            omega
          · dsimp only
            omega
        · exact k1 e z
      · cases hs
    · split at hs
      · split at hs
        · cases hs
          refine ⟨by simp, fun e he => ?_, fun z => by simp at z, fun _ => ⟨by simp at k0 ⊢; omega, _, _, rfl, k1, fun z => by simp at z⟩⟩
          rcases List.mem_cons.mp he with z | z
          · rw [z]; exact ⟨(h3 (w, p) List.mem_cons_self).1, by dsimp only; omega⟩
          · exact h3 e (List.mem_cons_of_mem _ z)
        · cases hs
      · split at hs
        · rename_i c
          cases hs
          refine ⟨by simp, fun e he => ?_, fun z => by simp at z, fun _ => ⟨by simp at k0 ⊢; omega, _, _, rfl, k1, fun z => by simp at z⟩⟩
          rcases List.mem_cons.mp he with z | z
          · rw [z]; exact ⟨(h3 (w, p) List.mem_cons_self).1, c.2.2⟩
          · exact h3 e (List.mem_cons_of_mem _ z)
        · cases hs
/-- where the reference stands in a house; in winds -/
def HM (N : Nat → Nat → Nat) (s : aP2) : Prop := At2 (N 149) (N 150) s.2.reverse ∧ (s.1 = 0 → N 144 8 = 0 ∧ N 144 7 = s.2.length) ∧ (s.1 ≠ 0 → N 144 7 + 1 = s.2.length) ∧ (s.1 = 1 → N 144 8 = 1) ∧ (s.1 = 2 → ∀ e l, s.2 = e :: l → N 144 8 = if e.2 = 0 then 2 else 3)
def WM (N : Nat → Nat → Nat) (s : aP2) : Prop := At2 (N 149) (N 150) s.2.reverse ∧ (s.1 = 0 → N 144 8 = 0 ∧ N 144 7 = s.2.length) ∧ (s.1 ≠ 0 → N 144 7 + 1 = s.2.length) ∧ (s.1 = 1 → N 144 8 = 1) ∧ (s.1 = 2 → ∀ e l, s.2 = e :: l → N 144 8 = if e.2 = 0 then 2 else if e.2 = 1 then 3 else if e.2 ≤ 6 then 4 else 5)
theorem i_s48 {x : Nat} (hx : x < 1000) : ∃ v, nI x - nI 48 = nI v ∧ v < 4294967296 ∧ (48 ≤ x → v = x - 48) ∧ (x < 48 → 2147483648 ≤ v) := by
  by_cases h : 48 ≤ x
  · exact ⟨x - 48, i_sub h, by omega, fun _ => rfl, fun w => by omega⟩
  · refine ⟨x + 4294967248, ?_, by omega, fun w => absurd w h, fun _ => by omega⟩
    have : nI (x + 4294967248) + nI 48 = nI x := by
      rw [nI_add, show x + 4294967248 + 48 = x + 4294967296 by omega, ← nI_add, show nI 4294967296 = 0 by decide +kernel]
      simp
    rw [← this]
    simp
section Mt
variable {Z : aZ} {N : Nat → Nat → Nat} {L : Nat → Nat → Int64} {c : Nat × Nat}
theorem s_mGoes {b nx : Nat} (hM : MAt Z) (hb : b ≤ 1) : ex 145 0 [some (.ref 144), some (.int (nI b)), some (.int (nI nx))] [] (Z, iN N, L, c) = some (.inl (some (.int (nI b))), (Z, iN (up2 N 144 8 (if b = 0 then N 144 8 else nx)), L, c)) := by
  rcases (show b = 0 ∨ b = 1 by omega) with rfl | rfl
  · simp (disch := omega) only [r_X8_goes_0, r_X8_goes_1, r_X8_goes_2, r_X8_goes_5, r_X8_goes_6, r_X8_goes_9, r_X8_goes_10, r_X8_goes_13, r_X8_goes_16, r_X8_goes_17, hM.1.1, @id (Z.2.2.1 144 0 = .ref 145) hM.1.2.1, @id (Z.2.2.1 144 1 = .ref 146) hM.1.2.2.1, @id (Z.2.2.1 144 2 = .ref 147) hM.1.2.2.2.1, @id (Z.2.2.1 144 3 = .ref 148) hM.1.2.2.2.2.1, @id (Z.2.2.1 144 4 = .ref 149) hM.1.2.2.2.2.2.1, @id (Z.2.2.1 144 5 = .ref 150) hM.1.2.2.2.2.2.2.1, @id (Z.2.2.1 144 6 = .ref 151) hM.1.2.2.2.2.2.2.2, @id (Z.1 145 = 0) hM.2.1.1, @id (Z.1 146 = 0) hM.2.1.2.1, @id (Z.1 147 = 0) hM.2.1.2.2.1, @id (Z.1 148 = 0) hM.2.1.2.2.2.1, @id (Z.1 149 = 0) hM.2.1.2.2.2.2.1, @id (Z.1 150 = 0) hM.2.1.2.2.2.2.2.1, @id (Z.1 151 = 0) hM.2.1.2.2.2.2.2.2, @id (Z.2.1 145 = 667) hM.2.2.1, @id (Z.2.1 146 = 667) hM.2.2.2.1, @id (Z.2.1 147 = 4002) hM.2.2.2.2.1, @id (Z.2.1 148 = 60) hM.2.2.2.2.2.1, @id (Z.2.1 149 = 32) hM.2.2.2.2.2.2.1, @id (Z.2.1 150 = 32) hM.2.2.2.2.2.2.2.1, @id (Z.2.1 151 = 36) hM.2.2.2.2.2.2.2.2, up2_o, up2_e, iN_ap, iN_up, i_ix, i_inb, i_lt, i_lt0, i_0lt, i_eq, i_ne0, i_00, i_11, i_01, i_10, i_b, i_rem2, n_rem, i_add, i_mul, i_sub, i_div, i_max, i_min, rdk_0, rdk_3, kp_none, kp_int, kp_ref, kp_long, kp_double, aK_v, aK_0, aK_ite, if_true, if_false, and_self, and_true, true_and, or_false, false_or, not_true_eq_false, not_false_eq_true, ite_self, ↓reduceIte]
  · simp (disch := omega) only [r_X8_goes_0, r_X8_goes_1, r_X8_goes_2, r_X8_goes_5, r_X8_goes_6, r_X8_goes_9, r_X8_goes_10, r_X8_goes_13, r_X8_goes_16, r_X8_goes_17, hM.1.1, @id (Z.2.2.1 144 0 = .ref 145) hM.1.2.1, @id (Z.2.2.1 144 1 = .ref 146) hM.1.2.2.1, @id (Z.2.2.1 144 2 = .ref 147) hM.1.2.2.2.1, @id (Z.2.2.1 144 3 = .ref 148) hM.1.2.2.2.2.1, @id (Z.2.2.1 144 4 = .ref 149) hM.1.2.2.2.2.2.1, @id (Z.2.2.1 144 5 = .ref 150) hM.1.2.2.2.2.2.2.1, @id (Z.2.2.1 144 6 = .ref 151) hM.1.2.2.2.2.2.2.2, @id (Z.1 145 = 0) hM.2.1.1, @id (Z.1 146 = 0) hM.2.1.2.1, @id (Z.1 147 = 0) hM.2.1.2.2.1, @id (Z.1 148 = 0) hM.2.1.2.2.2.1, @id (Z.1 149 = 0) hM.2.1.2.2.2.2.1, @id (Z.1 150 = 0) hM.2.1.2.2.2.2.2.1, @id (Z.1 151 = 0) hM.2.1.2.2.2.2.2.2, @id (Z.2.1 145 = 667) hM.2.2.1, @id (Z.2.1 146 = 667) hM.2.2.2.1, @id (Z.2.1 147 = 4002) hM.2.2.2.2.1, @id (Z.2.1 148 = 60) hM.2.2.2.2.2.1, @id (Z.2.1 149 = 32) hM.2.2.2.2.2.2.1, @id (Z.2.1 150 = 32) hM.2.2.2.2.2.2.2.1, @id (Z.2.1 151 = 36) hM.2.2.2.2.2.2.2.2, up2_o, up2_e, iN_ap, iN_up, i_ix, i_inb, i_lt, i_lt0, i_0lt, i_eq, i_ne0, i_00, i_11, i_01, i_10, i_b, i_rem2, n_rem, i_add, i_mul, i_sub, i_div, i_max, i_min, rdk_0, rdk_3, kp_none, kp_int, kp_ref, kp_long, kp_double, aK_v, aK_0, aK_ite, if_true, if_false, and_self, and_true, true_and, or_false, false_or, not_true_eq_false, not_false_eq_true, ite_self, ↓reduceIte]
    simp
theorem s_mEndsT {b : Nat} (hM : MAt Z) (hb : b ≤ 1) : ex 146 0 [some (.ref 144), some (.int (nI b))] [] (Z, iN N, L, c) = some (.inl (some (.int (nI b))), (Z, iN (up2 (up2 N 144 7 (N 144 7 + b)) 144 8 (if b = 0 then N 144 8 else 0)), L, c)) := by
  rcases (show b = 0 ∨ b = 1 by omega) with rfl | rfl
  · simp (disch := omega) only [r_X8_ends_0, r_X8_ends_1, r_X8_ends_2, r_X8_ends_5, r_X8_ends_6, r_X8_ends_9, r_X8_ends_10, r_X8_ends_13, r_X8_ends_14, r_X8_ends_15, r_X8_ends_18, r_X8_ends_19, r_X8_ends_20, r_X8_ends_21, r_X8_ends_24, hM.1.1, @id (Z.2.2.1 144 0 = .ref 145) hM.1.2.1, @id (Z.2.2.1 144 1 = .ref 146) hM.1.2.2.1, @id (Z.2.2.1 144 2 = .ref 147) hM.1.2.2.2.1, @id (Z.2.2.1 144 3 = .ref 148) hM.1.2.2.2.2.1, @id (Z.2.2.1 144 4 = .ref 149) hM.1.2.2.2.2.2.1, @id (Z.2.2.1 144 5 = .ref 150) hM.1.2.2.2.2.2.2.1, @id (Z.2.2.1 144 6 = .ref 151) hM.1.2.2.2.2.2.2.2, @id (Z.1 145 = 0) hM.2.1.1, @id (Z.1 146 = 0) hM.2.1.2.1, @id (Z.1 147 = 0) hM.2.1.2.2.1, @id (Z.1 148 = 0) hM.2.1.2.2.2.1, @id (Z.1 149 = 0) hM.2.1.2.2.2.2.1, @id (Z.1 150 = 0) hM.2.1.2.2.2.2.2.1, @id (Z.1 151 = 0) hM.2.1.2.2.2.2.2.2, @id (Z.2.1 145 = 667) hM.2.2.1, @id (Z.2.1 146 = 667) hM.2.2.2.1, @id (Z.2.1 147 = 4002) hM.2.2.2.2.1, @id (Z.2.1 148 = 60) hM.2.2.2.2.2.1, @id (Z.2.1 149 = 32) hM.2.2.2.2.2.2.1, @id (Z.2.1 150 = 32) hM.2.2.2.2.2.2.2.1, @id (Z.2.1 151 = 36) hM.2.2.2.2.2.2.2.2, up2_o, up2_e, iN_ap, iN_up, i_ix, i_inb, i_lt, i_lt0, i_0lt, i_eq, i_ne0, i_00, i_11, i_01, i_10, i_b, i_rem2, n_rem, i_add, i_mul, i_sub, i_div, i_max, i_min, rdk_0, rdk_3, kp_none, kp_int, kp_ref, kp_long, kp_double, aK_v, aK_0, aK_ite, if_true, if_false, and_self, and_true, true_and, or_false, false_or, not_true_eq_false, not_false_eq_true, ite_self, ↓reduceIte, s_mGoes hM (show 0 ≤ 1 by omega)]
  · simp (disch := omega) only [r_X8_ends_0, r_X8_ends_1, r_X8_ends_2, r_X8_ends_5, r_X8_ends_6, r_X8_ends_9, r_X8_ends_10, r_X8_ends_13, r_X8_ends_14, r_X8_ends_15, r_X8_ends_18, r_X8_ends_19, r_X8_ends_20, r_X8_ends_21, r_X8_ends_24, hM.1.1, @id (Z.2.2.1 144 0 = .ref 145) hM.1.2.1, @id (Z.2.2.1 144 1 = .ref 146) hM.1.2.2.1, @id (Z.2.2.1 144 2 = .ref 147) hM.1.2.2.2.1, @id (Z.2.2.1 144 3 = .ref 148) hM.1.2.2.2.2.1, @id (Z.2.2.1 144 4 = .ref 149) hM.1.2.2.2.2.2.1, @id (Z.2.2.1 144 5 = .ref 150) hM.1.2.2.2.2.2.2.1, @id (Z.2.2.1 144 6 = .ref 151) hM.1.2.2.2.2.2.2.2, @id (Z.1 145 = 0) hM.2.1.1, @id (Z.1 146 = 0) hM.2.1.2.1, @id (Z.1 147 = 0) hM.2.1.2.2.1, @id (Z.1 148 = 0) hM.2.1.2.2.2.1, @id (Z.1 149 = 0) hM.2.1.2.2.2.2.1, @id (Z.1 150 = 0) hM.2.1.2.2.2.2.2.1, @id (Z.1 151 = 0) hM.2.1.2.2.2.2.2.2, @id (Z.2.1 145 = 667) hM.2.2.1, @id (Z.2.1 146 = 667) hM.2.2.2.1, @id (Z.2.1 147 = 4002) hM.2.2.2.2.1, @id (Z.2.1 148 = 60) hM.2.2.2.2.2.1, @id (Z.2.1 149 = 32) hM.2.2.2.2.2.2.1, @id (Z.2.1 150 = 32) hM.2.2.2.2.2.2.2.1, @id (Z.2.1 151 = 36) hM.2.2.2.2.2.2.2.2, up2_o, up2_e, iN_ap, iN_up, i_ix, i_inb, i_lt, i_lt0, i_0lt, i_eq, i_ne0, i_00, i_11, i_01, i_10, i_b, i_rem2, n_rem, i_add, i_mul, i_sub, i_div, i_max, i_min, rdk_0, rdk_3, kp_none, kp_int, kp_ref, kp_long, kp_double, aK_v, aK_0, aK_ite, if_true, if_false, and_self, and_true, true_and, or_false, false_or, not_true_eq_false, not_false_eq_true, ite_self, ↓reduceIte, s_mGoes hM (show 1 ≤ 1 by omega)]
theorem w_v {v lo hi : Nat} {h : aH} (hv : v < 4294967296) (h1 : lo < 2147483648) (h2 : hi < 2147483648) : ex 108 0 [some (.int (nI v)), some (.int (nI lo)), some (.int (nI hi))] [] h = some (.inl (some (.int (nI (if v < lo ∨ hi < v then 0 else 1)))), h) := by
  rw [s_mWithin]
  have e : (nI v < nI lo ∨ nI hi < nI v) = (v < lo ∨ hi < v) := by
    rw [i_ltU hv h1, i_gtU hv h2]
    exact propext ⟨fun w => by omega, fun w => by omega⟩
  simp only [e]
/-- what reading a character leaves alone -/
def TF (N N' : Nat → Nat → Nat) : Prop := (∀ a, a ≠ 144 → a ≠ 149 → a ≠ 150 → N' a = N a) ∧ ∀ j, j ≠ 7 → j ≠ 8 → N' 144 j = N 144 j
theorem s_mTH {x : Nat} {s : aP2} (hM : MAt Z) (hx : x < 1000) (hm : HM N s) (hb : HB s) :
    ∃ N', ex 147 0 [some (.ref 144), some (.int (nI x)), none, none] [] (Z, iN N, L, c) = some (.inl (some (.int (nI (if (hS x s).isSome = true then 1 else 0)))), (Z, iN N', L, c)) ∧ (∀ s', hS x s = some s' → HM N' s') ∧ TF N N' := by
  obtain ⟨aw, l⟩ := s
  obtain ⟨v, v1, v2, v3, v4⟩ := i_s48 hx
  obtain ⟨b1, b2, b3, b4, b5⟩ := hb
  obtain ⟨m1, m2, m3, m4, m5⟩ := hm
  dsimp only at b1 b2 b3 b4 b5 m1 m2 m3 m4 m5
  rcases (show aw = 0 ∨ aw = 1 ∨ aw = 2 by omega) with rfl | rfl | rfl
  · obtain ⟨n8, n7⟩ := m2 rfl
    obtain ⟨l5, lp⟩ := b4 rfl
    clear b5
    obtain ⟨b, hbd⟩ : ∃ b, b = if v < 1 ∨ 3 < v then 0 else 1 := ⟨_, rfl⟩
    have hb1 : b ≤ 1 := by rw [hbd]; split <;> omega
    have hw := w_v (v := v) (lo := 1) (hi := 3) (h := (Z, iN (up2 N 149 (N 144 7) v), L, c)) v2 (by omega) (by omega)
    rw [← hbd] at hw
    have hg : ex 145 0 [some (.ref 144), some (.int (nI b)), some (.int (nI 1))] [] (Z, iN (up2 N 149 (N 144 7) v), L, c) = some (.inl (some (.int (nI b))), (Z, iN (up2 (up2 N 149 (N 144 7) v) 144 8 (if b = 0 then 0 else 1)), L, c)) := by
      rw [s_mGoes hM hb1, up2_o (by omega), n8]
    have hs : hS x (0, l) = if b = 1 then some (1, (x - 48, 0) :: l) else none := by
      show (if (49 ≤ x ∧ x ≤ 51) ∧ l.length < 6 then _ else _) = _
      by_cases q : 49 ≤ x ∧ x ≤ 51
      · have e : b = 1 := by
          rw [hbd, if_neg]
          omega
        rw [if_pos ⟨q, by omega⟩, if_pos e]
      · have e : b = 0 := by
          rw [hbd, if_pos]
          omega
        rw [if_neg (fun w => q w.1), if_neg (by omega)]
    have hsb : (if (hS x (0, l)).isSome = true then 1 else 0) = b := by
      rw [hs]
      rcases (show b = 0 ∨ b = 1 by omega) with rfl | rfl
      · rfl
      · rfl
    rw [hsb]
    refine ⟨up2 (up2 N 149 (N 144 7) v) 144 8 (if b = 0 then 0 else 1), ?_, fun s' hs' => ?_, fun a h1 h2 h3 => ?_, fun j h1 h2 => ?_⟩
    · simp (disch := omega) only [r_X8_takesHouse_0, r_X8_takesHouse_1, r_X8_takesHouse_3, r_X8_takesHouse_4, r_X8_takesHouse_5, r_X8_takesHouse_6, r_X8_takesHouse_9_0, r_X8_takesHouse_9_1, r_X8_takesHouse_9_2, r_X8_takesHouse_9_d, r_X8_takesHouse_36, r_X8_takesHouse_37, r_X8_takesHouse_40, r_X8_takesHouse_41, r_X8_takesHouse_44, r_X8_takesHouse_45, r_X8_takesHouse_46, r_X8_takesHouse_47, r_X8_takesHouse_48, r_X8_takesHouse_49, r_X8_takesHouse_50, r_X8_takesHouse_53, r_X8_takesHouse_54, r_X8_takesHouse_57, r_X8_takesHouse_58, r_X8_takesHouse_59, r_X8_takesHouse_60, r_X8_takesHouse_62, r_X8_takesHouse_65, r_X8_takesHouse_66, r_X8_takesHouse_69, r_X8_takesHouse_70, r_X8_takesHouse_71, r_X8_takesHouse_74, r_X8_takesHouse_75, r_X8_takesHouse_76, r_X8_takesHouse_79, r_X8_takesHouse_80, r_X8_takesHouse_83, r_X8_takesHouse_84, r_X8_takesHouse_85, r_X8_takesHouse_86, r_X8_takesHouse_87, r_X8_takesHouse_88, r_X8_takesHouse_90, r_X8_takesHouse_93, r_X8_takesHouse_94, r_X8_takesHouse_97, r_X8_takesHouse_98, r_X8_takesHouse_99, r_X8_takesHouse_101, r_X8_takesHouse_104, r_X8_takesHouse_105, r_X8_takesHouse_106, r_X8_takesHouse_109, r_X8_takesHouse_110, r_X8_takesHouse_111, r_X8_takesHouse_113, r_X8_takesHouse_116, r_X8_takesHouse_117, r_X8_takesHouse_120, r_X8_takesHouse_121, r_X8_takesHouse_124, r_X8_takesHouse_125, r_X8_takesHouse_126, r_X8_takesHouse_127, r_X8_takesHouse_129, r_X8_takesHouse_132, r_X8_takesHouse_135, r_X8_takesHouse_136, r_X8_takesHouse_139, r_X8_takesHouse_140, r_X8_takesHouse_143, r_X8_takesHouse_144, r_X8_takesHouse_147, r_X8_takesHouse_150, r_X8_takesHouse_151, r_X8_takesHouse_154, r_X8_takesHouse_155, r_X8_takesHouse_156, r_X8_takesHouse_157, r_X8_takesHouse_160, r_X8_takesHouse_161, r_X8_takesHouse_164, r_X8_takesHouse_165, r_X8_takesHouse_168, r_X8_takesHouse_170, r_X8_takesHouse_171, r_X8_takesHouse_174, r_X8_takesHouse_175, r_X8_takesHouse_178, r_X8_takesHouse_179, r_X8_takesHouse_180, r_X8_takesHouse_181, r_X8_takesHouse_182, r_X8_takesHouse_185, r_X8_takesHouse_186, r_X8_takesHouse_189, r_X8_takesHouse_190, r_X8_takesHouse_193, r_X8_takesHouse_194, r_X8_takesHouse_195, r_X8_takesHouse_196, hM.1.1, @id (Z.2.2.1 144 0 = .ref 145) hM.1.2.1, @id (Z.2.2.1 144 1 = .ref 146) hM.1.2.2.1, @id (Z.2.2.1 144 2 = .ref 147) hM.1.2.2.2.1, @id (Z.2.2.1 144 3 = .ref 148) hM.1.2.2.2.2.1, @id (Z.2.2.1 144 4 = .ref 149) hM.1.2.2.2.2.2.1, @id (Z.2.2.1 144 5 = .ref 150) hM.1.2.2.2.2.2.2.1, @id (Z.2.2.1 144 6 = .ref 151) hM.1.2.2.2.2.2.2.2, @id (Z.1 145 = 0) hM.2.1.1, @id (Z.1 146 = 0) hM.2.1.2.1, @id (Z.1 147 = 0) hM.2.1.2.2.1, @id (Z.1 148 = 0) hM.2.1.2.2.2.1, @id (Z.1 149 = 0) hM.2.1.2.2.2.2.1, @id (Z.1 150 = 0) hM.2.1.2.2.2.2.2.1, @id (Z.1 151 = 0) hM.2.1.2.2.2.2.2.2, @id (Z.2.1 145 = 667) hM.2.2.1, @id (Z.2.1 146 = 667) hM.2.2.2.1, @id (Z.2.1 147 = 4002) hM.2.2.2.2.1, @id (Z.2.1 148 = 60) hM.2.2.2.2.2.1, @id (Z.2.1 149 = 32) hM.2.2.2.2.2.2.1, @id (Z.2.1 150 = 32) hM.2.2.2.2.2.2.2.1, @id (Z.2.1 151 = 36) hM.2.2.2.2.2.2.2.2, up2_o, up2_e, iN_ap, iN_up, i_ix, i_inb, i_lt, i_lt0, i_0lt, i_eq, i_ne0, i_00, i_11, i_01, i_10, i_b, i_rem2, n_rem, i_add, i_mul, i_div, i_max, i_min, rdk_0, rdk_3, kp_none, kp_int, kp_ref, kp_long, kp_double, aK_v, aK_0, aK_ite, if_true, if_false, and_self, and_true, true_and, or_false, false_or, not_true_eq_false, not_false_eq_true, ite_self, ↓reduceIte, v1, n8, hw, hg]
    · rw [hs] at hs'
      have e : b = 1 := by
        by_cases e : b = 1
        · exact e
        · rw [if_neg e] at hs'
          cases hs'
      rw [if_pos e] at hs'
      cases hs'
      have ev : v = x - 48 := by
        by_cases q : 48 ≤ x
        · exact v3 q
        · rw [e] at hbd
          rw [if_pos (Or.inr (by have := v4 (by omega); omega))] at hbd
          omega
      rw [e, if_neg (by omega)]
      refine ⟨?_, fun z => by simp at z, fun _ => ?_, fun _ => up2_e ⟨rfl, rfl⟩, fun z => by simp at z⟩
      · dsimp only
        rw [List.reverse_cons]
        refine At2_app.mpr ⟨At2_congr m1 (fun i hi => ?_) (fun i hi => ?_), ?_, fun z => absurd rfl z⟩
        · rw [List.length_reverse] at hi
          rw [up2_o (by omega), up2_o (by omega)]
        · rw [up2_o (by omega), up2_o (by omega)]
        · rw [List.length_reverse, up2_o (by omega), ← n7, up2_e ⟨rfl, rfl⟩, ev]
      · rw [up2_o (by omega), up2_o (by omega)]
        simp
        exact n7
    · funext i
      rw [up2_o (by omega), up2_o (by omega)]
    · rw [up2_o (by omega), up2_o (by omega)]
  · have n8 := m4 rfl
    have n7 := m3 (by omega)
    obtain ⟨e, l', hl, k1, k2⟩ := b5 (by omega)
    clear b5
    by_cases q : x = 58
    · subst q
      have hs : hS 58 (1, l) = some (2, l) := rfl
      rw [hs]
      have hg := s_mGoes (N := N) (L := L) (c := c) (b := 1) (nx := 2) hM (by omega)
      rw [if_neg (show ¬ 1 = 0 by omega)] at hg
      refine ⟨up2 N 144 8 2, ?_, fun s' hs' => ?_, fun a h1 h2 h3 => up144 h1, fun j h1 h2 => up2_o (by omega)⟩
      · simp (disch := omega) only [r_X8_takesHouse_0, r_X8_takesHouse_1, r_X8_takesHouse_3, r_X8_takesHouse_4, r_X8_takesHouse_5, r_X8_takesHouse_6, r_X8_takesHouse_9_0, r_X8_takesHouse_9_1, r_X8_takesHouse_9_2, r_X8_takesHouse_9_d, r_X8_takesHouse_36, r_X8_takesHouse_37, r_X8_takesHouse_40, r_X8_takesHouse_41, r_X8_takesHouse_44, r_X8_takesHouse_45, r_X8_takesHouse_46, r_X8_takesHouse_47, r_X8_takesHouse_48, r_X8_takesHouse_49, r_X8_takesHouse_50, r_X8_takesHouse_53, r_X8_takesHouse_54, r_X8_takesHouse_57, r_X8_takesHouse_58, r_X8_takesHouse_59, r_X8_takesHouse_60, r_X8_takesHouse_62, r_X8_takesHouse_65, r_X8_takesHouse_66, r_X8_takesHouse_69, r_X8_takesHouse_70, r_X8_takesHouse_71, r_X8_takesHouse_74, r_X8_takesHouse_75, r_X8_takesHouse_76, r_X8_takesHouse_79, r_X8_takesHouse_80, r_X8_takesHouse_83, r_X8_takesHouse_84, r_X8_takesHouse_85, r_X8_takesHouse_86, r_X8_takesHouse_87, r_X8_takesHouse_88, r_X8_takesHouse_90, r_X8_takesHouse_93, r_X8_takesHouse_94, r_X8_takesHouse_97, r_X8_takesHouse_98, r_X8_takesHouse_99, r_X8_takesHouse_101, r_X8_takesHouse_104, r_X8_takesHouse_105, r_X8_takesHouse_106, r_X8_takesHouse_109, r_X8_takesHouse_110, r_X8_takesHouse_111, r_X8_takesHouse_113, r_X8_takesHouse_116, r_X8_takesHouse_117, r_X8_takesHouse_120, r_X8_takesHouse_121, r_X8_takesHouse_124, r_X8_takesHouse_125, r_X8_takesHouse_126, r_X8_takesHouse_127, r_X8_takesHouse_129, r_X8_takesHouse_132, r_X8_takesHouse_135, r_X8_takesHouse_136, r_X8_takesHouse_139, r_X8_takesHouse_140, r_X8_takesHouse_143, r_X8_takesHouse_144, r_X8_takesHouse_147, r_X8_takesHouse_150, r_X8_takesHouse_151, r_X8_takesHouse_154, r_X8_takesHouse_155, r_X8_takesHouse_156, r_X8_takesHouse_157, r_X8_takesHouse_160, r_X8_takesHouse_161, r_X8_takesHouse_164, r_X8_takesHouse_165, r_X8_takesHouse_168, r_X8_takesHouse_170, r_X8_takesHouse_171, r_X8_takesHouse_174, r_X8_takesHouse_175, r_X8_takesHouse_178, r_X8_takesHouse_179, r_X8_takesHouse_180, r_X8_takesHouse_181, r_X8_takesHouse_182, r_X8_takesHouse_185, r_X8_takesHouse_186, r_X8_takesHouse_189, r_X8_takesHouse_190, r_X8_takesHouse_193, r_X8_takesHouse_194, r_X8_takesHouse_195, r_X8_takesHouse_196, hM.1.1, @id (Z.2.2.1 144 0 = .ref 145) hM.1.2.1, @id (Z.2.2.1 144 1 = .ref 146) hM.1.2.2.1, @id (Z.2.2.1 144 2 = .ref 147) hM.1.2.2.2.1, @id (Z.2.2.1 144 3 = .ref 148) hM.1.2.2.2.2.1, @id (Z.2.2.1 144 4 = .ref 149) hM.1.2.2.2.2.2.1, @id (Z.2.2.1 144 5 = .ref 150) hM.1.2.2.2.2.2.2.1, @id (Z.2.2.1 144 6 = .ref 151) hM.1.2.2.2.2.2.2.2, @id (Z.1 145 = 0) hM.2.1.1, @id (Z.1 146 = 0) hM.2.1.2.1, @id (Z.1 147 = 0) hM.2.1.2.2.1, @id (Z.1 148 = 0) hM.2.1.2.2.2.1, @id (Z.1 149 = 0) hM.2.1.2.2.2.2.1, @id (Z.1 150 = 0) hM.2.1.2.2.2.2.2.1, @id (Z.1 151 = 0) hM.2.1.2.2.2.2.2.2, @id (Z.2.1 145 = 667) hM.2.2.1, @id (Z.2.1 146 = 667) hM.2.2.2.1, @id (Z.2.1 147 = 4002) hM.2.2.2.2.1, @id (Z.2.1 148 = 60) hM.2.2.2.2.2.1, @id (Z.2.1 149 = 32) hM.2.2.2.2.2.2.1, @id (Z.2.1 150 = 32) hM.2.2.2.2.2.2.2.1, @id (Z.2.1 151 = 36) hM.2.2.2.2.2.2.2.2, up2_o, up2_e, iN_ap, iN_up, i_ix, i_inb, i_lt, i_lt0, i_0lt, i_eq, i_ne0, i_00, i_11, i_01, i_10, i_b, i_rem2, n_rem, i_add, i_mul, i_div, i_max, i_min, rdk_0, rdk_3, kp_none, kp_int, kp_ref, kp_long, kp_double, aK_v, aK_0, aK_ite, if_true, if_false, and_self, and_true, true_and, or_false, false_or, not_true_eq_false, not_false_eq_true, ite_self, ↓reduceIte, v1, n8, hg]
        simp
      · cases hs'
        refine ⟨?_, fun z => by simp at z, fun _ => ?_, fun z => by simp at z, fun _ e2 l2 he => ?_⟩
        · rw [up144 (by omega), up144 (by omega)]
          exact m1
        · rw [up2_o (by omega)]
          exact n7
        · rw [up2_e ⟨rfl, rfl⟩]
          dsimp only at he
          rw [hl] at he
          cases he
          rw [if_pos (k2 rfl)]
    · have hs : hS x (1, l) = none := by
        show (if x = 58 then some ((2 : Nat), l) else none) = none
        rw [if_neg q]
      rw [hs]
      have hg := s_mGoes (N := N) (L := L) (c := c) (b := 0) (nx := 2) hM (by omega)
      rw [if_pos rfl, n8] at hg
      refine ⟨up2 N 144 8 1, ?_, fun s' hs' => by simp at hs', fun a h1 h2 h3 => up144 h1, fun j h1 h2 => up2_o (by omega)⟩
      simp (disch := omega) only [r_X8_takesHouse_0, r_X8_takesHouse_1, r_X8_takesHouse_3, r_X8_takesHouse_4, r_X8_takesHouse_5, r_X8_takesHouse_6, r_X8_takesHouse_9_0, r_X8_takesHouse_9_1, r_X8_takesHouse_9_2, r_X8_takesHouse_9_d, r_X8_takesHouse_36, r_X8_takesHouse_37, r_X8_takesHouse_40, r_X8_takesHouse_41, r_X8_takesHouse_44, r_X8_takesHouse_45, r_X8_takesHouse_46, r_X8_takesHouse_47, r_X8_takesHouse_48, r_X8_takesHouse_49, r_X8_takesHouse_50, r_X8_takesHouse_53, r_X8_takesHouse_54, r_X8_takesHouse_57, r_X8_takesHouse_58, r_X8_takesHouse_59, r_X8_takesHouse_60, r_X8_takesHouse_62, r_X8_takesHouse_65, r_X8_takesHouse_66, r_X8_takesHouse_69, r_X8_takesHouse_70, r_X8_takesHouse_71, r_X8_takesHouse_74, r_X8_takesHouse_75, r_X8_takesHouse_76, r_X8_takesHouse_79, r_X8_takesHouse_80, r_X8_takesHouse_83, r_X8_takesHouse_84, r_X8_takesHouse_85, r_X8_takesHouse_86, r_X8_takesHouse_87, r_X8_takesHouse_88, r_X8_takesHouse_90, r_X8_takesHouse_93, r_X8_takesHouse_94, r_X8_takesHouse_97, r_X8_takesHouse_98, r_X8_takesHouse_99, r_X8_takesHouse_101, r_X8_takesHouse_104, r_X8_takesHouse_105, r_X8_takesHouse_106, r_X8_takesHouse_109, r_X8_takesHouse_110, r_X8_takesHouse_111, r_X8_takesHouse_113, r_X8_takesHouse_116, r_X8_takesHouse_117, r_X8_takesHouse_120, r_X8_takesHouse_121, r_X8_takesHouse_124, r_X8_takesHouse_125, r_X8_takesHouse_126, r_X8_takesHouse_127, r_X8_takesHouse_129, r_X8_takesHouse_132, r_X8_takesHouse_135, r_X8_takesHouse_136, r_X8_takesHouse_139, r_X8_takesHouse_140, r_X8_takesHouse_143, r_X8_takesHouse_144, r_X8_takesHouse_147, r_X8_takesHouse_150, r_X8_takesHouse_151, r_X8_takesHouse_154, r_X8_takesHouse_155, r_X8_takesHouse_156, r_X8_takesHouse_157, r_X8_takesHouse_160, r_X8_takesHouse_161, r_X8_takesHouse_164, r_X8_takesHouse_165, r_X8_takesHouse_168, r_X8_takesHouse_170, r_X8_takesHouse_171, r_X8_takesHouse_174, r_X8_takesHouse_175, r_X8_takesHouse_178, r_X8_takesHouse_179, r_X8_takesHouse_180, r_X8_takesHouse_181, r_X8_takesHouse_182, r_X8_takesHouse_185, r_X8_takesHouse_186, r_X8_takesHouse_189, r_X8_takesHouse_190, r_X8_takesHouse_193, r_X8_takesHouse_194, r_X8_takesHouse_195, r_X8_takesHouse_196, hM.1.1, @id (Z.2.2.1 144 0 = .ref 145) hM.1.2.1, @id (Z.2.2.1 144 1 = .ref 146) hM.1.2.2.1, @id (Z.2.2.1 144 2 = .ref 147) hM.1.2.2.2.1, @id (Z.2.2.1 144 3 = .ref 148) hM.1.2.2.2.2.1, @id (Z.2.2.1 144 4 = .ref 149) hM.1.2.2.2.2.2.1, @id (Z.2.2.1 144 5 = .ref 150) hM.1.2.2.2.2.2.2.1, @id (Z.2.2.1 144 6 = .ref 151) hM.1.2.2.2.2.2.2.2, @id (Z.1 145 = 0) hM.2.1.1, @id (Z.1 146 = 0) hM.2.1.2.1, @id (Z.1 147 = 0) hM.2.1.2.2.1, @id (Z.1 148 = 0) hM.2.1.2.2.2.1, @id (Z.1 149 = 0) hM.2.1.2.2.2.2.1, @id (Z.1 150 = 0) hM.2.1.2.2.2.2.2.1, @id (Z.1 151 = 0) hM.2.1.2.2.2.2.2.2, @id (Z.2.1 145 = 667) hM.2.2.1, @id (Z.2.1 146 = 667) hM.2.2.2.1, @id (Z.2.1 147 = 4002) hM.2.2.2.2.1, @id (Z.2.1 148 = 60) hM.2.2.2.2.2.1, @id (Z.2.1 149 = 32) hM.2.2.2.2.2.2.1, @id (Z.2.1 150 = 32) hM.2.2.2.2.2.2.2.1, @id (Z.2.1 151 = 36) hM.2.2.2.2.2.2.2.2, up2_o, up2_e, iN_ap, iN_up, i_ix, i_inb, i_lt, i_lt0, i_0lt, i_eq, i_ne0, i_00, i_11, i_01, i_10, i_b, i_rem2, n_rem, i_add, i_mul, i_div, i_max, i_min, rdk_0, rdk_3, kp_none, kp_int, kp_ref, kp_long, kp_double, aK_v, aK_0, aK_ite, if_true, if_false, and_self, and_true, true_and, or_false, false_or, not_true_eq_false, not_false_eq_true, ite_self, ↓reduceIte, v1, n8, q, hg]
      simp
  · obtain ⟨e, l', hl, k1, k2⟩ := b5 (by omega)
    clear b5
    subst hl
    obtain ⟨w, p⟩ := e
    have n8 := m5 rfl _ _ rfl
    have n7 : N 144 7 = l'.length := by
      have := m3 (by omega)
      simp at this
      exact this
    have bl : l'.length ≤ 5 := by simp at b2; omega
    have bp := (b3 _ List.mem_cons_self).2
    dsimp only at n8 bp
    have c1 : At2 (N 149) (N 150) l'.reverse ∧ N 149 l'.length = w ∧ (p ≠ 0 → N 150 l'.length = p) := by
      rw [List.reverse_cons] at m1
      obtain ⟨u1, u2⟩ := At2_app.mp m1
      rw [List.length_reverse] at u2
      exact ⟨u1, u2⟩
    by_cases hp : p = 0
    · rw [if_pos hp] at n8
      obtain ⟨b, hbd⟩ : ∃ b, b = if v < 1 ∨ 9 < v then 0 else 1 := ⟨_, rfl⟩
      have hb1 : b ≤ 1 := by rw [hbd]; split <;> omega
      have hw := w_v (v := v) (lo := 1) (hi := 9) (h := (Z, iN (up2 N 150 (N 144 7) v), L, c)) v2 (by omega) (by omega)
      rw [← hbd] at hw
      have hg : ex 145 0 [some (.ref 144), some (.int (nI b)), some (.int (nI 3))] [] (Z, iN (up2 N 150 (N 144 7) v), L, c) = some (.inl (some (.int (nI b))), (Z, iN (up2 (up2 N 150 (N 144 7) v) 144 8 (if b = 0 then 2 else 3)), L, c)) := by
        rw [s_mGoes hM hb1, up2_o (by omega), n8]
      have hs : hS x (2, (w, p) :: l') = if b = 1 then some (2, (w, x - 48) :: l') else none := by
        show (if x = 44 then (if 1 ≤ p ∧ l'.length + 1 < 6 then some (0, (w, p) :: l') else none) else if (48 ≤ x ∧ x ≤ 57) ∧ 1 ≤ p * 10 + (x - 48) ∧ p * 10 + (x - 48) ≤ 9999 then some (2, (w, p * 10 + (x - 48)) :: l') else none) = _
        subst hp
        by_cases q : 49 ≤ x ∧ x ≤ 57
        · have e : b = 1 := by
            rw [hbd, if_neg]
            omega
          rw [if_neg (by omega), if_pos ⟨by omega, by omega, by omega⟩, if_pos e, Nat.zero_mul, Nat.zero_add]
        · have e : b = 0 := by
            rw [hbd, if_pos]
            omega
          rw [if_neg (show ¬ b = 1 by omega)]
          split
          · rw [if_neg (by omega)]
          · rw [if_neg (by omega)]
      have hsb : (if (hS x (2, (w, p) :: l')).isSome = true then 1 else 0) = b := by
        rw [hs]
        rcases (show b = 0 ∨ b = 1 by omega) with rfl | rfl
        · rfl
        · rfl
      rw [hsb]
      refine ⟨up2 (up2 N 150 (N 144 7) v) 144 8 (if b = 0 then 2 else 3), ?_, fun s' hs' => ?_, fun a h1 h2 h3 => ?_, fun j h1 h2 => ?_⟩
      · simp (disch := omega) only [r_X8_takesHouse_0, r_X8_takesHouse_1, r_X8_takesHouse_3, r_X8_takesHouse_4, r_X8_takesHouse_5, r_X8_takesHouse_6, r_X8_takesHouse_9_0, r_X8_takesHouse_9_1, r_X8_takesHouse_9_2, r_X8_takesHouse_9_d, r_X8_takesHouse_36, r_X8_takesHouse_37, r_X8_takesHouse_40, r_X8_takesHouse_41, r_X8_takesHouse_44, r_X8_takesHouse_45, r_X8_takesHouse_46, r_X8_takesHouse_47, r_X8_takesHouse_48, r_X8_takesHouse_49, r_X8_takesHouse_50, r_X8_takesHouse_53, r_X8_takesHouse_54, r_X8_takesHouse_57, r_X8_takesHouse_58, r_X8_takesHouse_59, r_X8_takesHouse_60, r_X8_takesHouse_62, r_X8_takesHouse_65, r_X8_takesHouse_66, r_X8_takesHouse_69, r_X8_takesHouse_70, r_X8_takesHouse_71, r_X8_takesHouse_74, r_X8_takesHouse_75, r_X8_takesHouse_76, r_X8_takesHouse_79, r_X8_takesHouse_80, r_X8_takesHouse_83, r_X8_takesHouse_84, r_X8_takesHouse_85, r_X8_takesHouse_86, r_X8_takesHouse_87, r_X8_takesHouse_88, r_X8_takesHouse_90, r_X8_takesHouse_93, r_X8_takesHouse_94, r_X8_takesHouse_97, r_X8_takesHouse_98, r_X8_takesHouse_99, r_X8_takesHouse_101, r_X8_takesHouse_104, r_X8_takesHouse_105, r_X8_takesHouse_106, r_X8_takesHouse_109, r_X8_takesHouse_110, r_X8_takesHouse_111, r_X8_takesHouse_113, r_X8_takesHouse_116, r_X8_takesHouse_117, r_X8_takesHouse_120, r_X8_takesHouse_121, r_X8_takesHouse_124, r_X8_takesHouse_125, r_X8_takesHouse_126, r_X8_takesHouse_127, r_X8_takesHouse_129, r_X8_takesHouse_132, r_X8_takesHouse_135, r_X8_takesHouse_136, r_X8_takesHouse_139, r_X8_takesHouse_140, r_X8_takesHouse_143, r_X8_takesHouse_144, r_X8_takesHouse_147, r_X8_takesHouse_150, r_X8_takesHouse_151, r_X8_takesHouse_154, r_X8_takesHouse_155, r_X8_takesHouse_156, r_X8_takesHouse_157, r_X8_takesHouse_160, r_X8_takesHouse_161, r_X8_takesHouse_164, r_X8_takesHouse_165, r_X8_takesHouse_168, r_X8_takesHouse_170, r_X8_takesHouse_171, r_X8_takesHouse_174, r_X8_takesHouse_175, r_X8_takesHouse_178, r_X8_takesHouse_179, r_X8_takesHouse_180, r_X8_takesHouse_181, r_X8_takesHouse_182, r_X8_takesHouse_185, r_X8_takesHouse_186, r_X8_takesHouse_189, r_X8_takesHouse_190, r_X8_takesHouse_193, r_X8_takesHouse_194, r_X8_takesHouse_195, r_X8_takesHouse_196, hM.1.1, @id (Z.2.2.1 144 0 = .ref 145) hM.1.2.1, @id (Z.2.2.1 144 1 = .ref 146) hM.1.2.2.1, @id (Z.2.2.1 144 2 = .ref 147) hM.1.2.2.2.1, @id (Z.2.2.1 144 3 = .ref 148) hM.1.2.2.2.2.1, @id (Z.2.2.1 144 4 = .ref 149) hM.1.2.2.2.2.2.1, @id (Z.2.2.1 144 5 = .ref 150) hM.1.2.2.2.2.2.2.1, @id (Z.2.2.1 144 6 = .ref 151) hM.1.2.2.2.2.2.2.2, @id (Z.1 145 = 0) hM.2.1.1, @id (Z.1 146 = 0) hM.2.1.2.1, @id (Z.1 147 = 0) hM.2.1.2.2.1, @id (Z.1 148 = 0) hM.2.1.2.2.2.1, @id (Z.1 149 = 0) hM.2.1.2.2.2.2.1, @id (Z.1 150 = 0) hM.2.1.2.2.2.2.2.1, @id (Z.1 151 = 0) hM.2.1.2.2.2.2.2.2, @id (Z.2.1 145 = 667) hM.2.2.1, @id (Z.2.1 146 = 667) hM.2.2.2.1, @id (Z.2.1 147 = 4002) hM.2.2.2.2.1, @id (Z.2.1 148 = 60) hM.2.2.2.2.2.1, @id (Z.2.1 149 = 32) hM.2.2.2.2.2.2.1, @id (Z.2.1 150 = 32) hM.2.2.2.2.2.2.2.1, @id (Z.2.1 151 = 36) hM.2.2.2.2.2.2.2.2, up2_o, up2_e, iN_ap, iN_up, i_ix, i_inb, i_lt, i_lt0, i_0lt, i_eq, i_ne0, i_00, i_11, i_01, i_10, i_b, i_rem2, n_rem, i_add, i_mul, i_div, i_max, i_min, rdk_0, rdk_3, kp_none, kp_int, kp_ref, kp_long, kp_double, aK_v, aK_0, aK_ite, if_true, if_false, and_self, and_true, true_and, or_false, false_or, not_true_eq_false, not_false_eq_true, ite_self, ↓reduceIte, v1, n8, hw, hg]
      · rw [hs] at hs'
        have e : b = 1 := by
          by_cases e : b = 1
          · exact e
          · rw [if_neg e] at hs'
            cases hs'
        rw [if_pos e] at hs'
        cases hs'
        have ev : v = x - 48 ∧ 1 ≤ v := by
          by_cases q : 48 ≤ x
          · refine ⟨v3 q, ?_⟩
            by_cases z : v < 1
            · rw [if_pos (Or.inl z)] at hbd
              omega
            · omega
          · rw [if_pos (Or.inr (by have := v4 (by omega); omega))] at hbd
            omega
        rw [e, if_neg (show ¬ 1 = 0 by omega)]
        refine ⟨?_, fun z => by simp at z, fun _ => ?_, fun z => by simp at z, fun _ e2 l2 he => ?_⟩
        · dsimp only
          rw [List.reverse_cons]
          refine At2_app.mpr ⟨At2_congr c1.1 (fun i hi => ?_) (fun i hi => ?_), ?_, fun _ => ?_⟩
          · rw [up2_o (by omega), up2_o (by omega)]
          · rw [List.length_reverse] at hi
            rw [up2_o (by omega), up2_o (by omega)]
          · rw [List.length_reverse, up2_o (by omega), up2_o (by omega)]
            exact c1.2.1
          · rw [List.length_reverse, up2_o (by omega), ← n7, up2_e ⟨rfl, rfl⟩]
            exact ev.1
        · rw [up2_o (by omega), up2_o (by omega)]
          simp
          exact n7
        · dsimp only at he
          cases he
          rw [up2_e ⟨rfl, rfl⟩, if_neg (by dsimp only; omega)]
      · funext i
        rw [up2_o (by omega), up2_o (by omega)]
      · rw [up2_o (by omega), up2_o (by omega)]
    · rw [if_neg hp] at n8
      have d3 : (nI 3).toInt < 0 ∨ 2 < (nI 3).toInt := by decide
      have hsec := c1.2.2 hp
      by_cases q44 : x = 44
      · subst q44
        obtain ⟨b, hbd⟩ : ∃ b, b = if l'.length + 1 < 6 then 1 else 0 := ⟨_, rfl⟩
        have hb1 : b ≤ 1 := by rw [hbd]; split <;> omega
        have he : ex 146 0 [some (.ref 144), some (.int (nI b))] [] (Z, iN N, L, c) = some (.inl (some (.int (nI b))), (Z, iN (up2 (up2 N 144 7 (N 144 7 + b)) 144 8 (if b = 0 then 3 else 0)), L, c)) := by
          rw [s_mEndsT hM hb1, n8]
        have hs : hS 44 (2, (w, p) :: l') = if b = 1 then some (0, (w, p) :: l') else none := by
          show (if 1 ≤ p ∧ l'.length + 1 < 6 then some (0, (w, p) :: l') else none) = _
          by_cases z : l'.length + 1 < 6
          · rw [if_pos ⟨by omega, z⟩, hbd, if_pos z, if_pos rfl]
          · rw [if_neg (fun u => z u.2), hbd, if_neg z, if_neg (by omega)]
        have hsb : (if (hS 44 (2, (w, p) :: l')).isSome = true then 1 else 0) = b := by
          rw [hs]
          rcases (show b = 0 ∨ b = 1 by omega) with rfl | rfl
          · rfl
          · rfl
        rw [hsb]
        refine ⟨up2 (up2 N 144 7 (N 144 7 + b)) 144 8 (if b = 0 then 3 else 0), ?_, fun s' hs' => ?_, fun a h1 h2 h3 => ?_, fun j h1 h2 => ?_⟩
        · rw [r_X8_takesHouse_0, r_X8_takesHouse_1, r_X8_takesHouse_3, v1]
          by_cases z : l'.length + 1 < 6
          · rw [if_pos z] at hbd
            subst hbd
            simp (disch := omega) only [r_X8_takesHouse_4, r_X8_takesHouse_5, r_X8_takesHouse_6, hM.1.1, @id (Z.2.2.1 144 0 = .ref 145) hM.1.2.1, @id (Z.2.2.1 144 1 = .ref 146) hM.1.2.2.1, @id (Z.2.2.1 144 2 = .ref 147) hM.1.2.2.2.1, @id (Z.2.2.1 144 3 = .ref 148) hM.1.2.2.2.2.1, @id (Z.2.2.1 144 4 = .ref 149) hM.1.2.2.2.2.2.1, @id (Z.2.2.1 144 5 = .ref 150) hM.1.2.2.2.2.2.2.1, @id (Z.2.2.1 144 6 = .ref 151) hM.1.2.2.2.2.2.2.2, @id (Z.1 145 = 0) hM.2.1.1, @id (Z.1 146 = 0) hM.2.1.2.1, @id (Z.1 147 = 0) hM.2.1.2.2.1, @id (Z.1 148 = 0) hM.2.1.2.2.2.1, @id (Z.1 149 = 0) hM.2.1.2.2.2.2.1, @id (Z.1 150 = 0) hM.2.1.2.2.2.2.2.1, @id (Z.1 151 = 0) hM.2.1.2.2.2.2.2.2, @id (Z.2.1 145 = 667) hM.2.2.1, @id (Z.2.1 146 = 667) hM.2.2.2.1, @id (Z.2.1 147 = 4002) hM.2.2.2.2.1, @id (Z.2.1 148 = 60) hM.2.2.2.2.2.1, @id (Z.2.1 149 = 32) hM.2.2.2.2.2.2.1, @id (Z.2.1 150 = 32) hM.2.2.2.2.2.2.2.1, @id (Z.2.1 151 = 36) hM.2.2.2.2.2.2.2.2, up2_o, up2_e, iN_ap, iN_up, i_ix, i_inb, i_lt, i_lt0, i_0lt, i_eq, i_ne0, i_00, i_11, i_01, i_10, i_b, i_rem2, n_rem, i_add, i_mul, i_div, i_max, i_min, rdk_0, rdk_3, kp_none, kp_int, kp_ref, kp_long, kp_double, aK_v, aK_0, aK_ite, if_true, if_false, and_self, and_true, true_and, or_false, false_or, not_true_eq_false, not_false_eq_true, ite_self, ↓reduceIte, n8, r_X8_takesHouse_9_d _ _ _ _ d3]
            simp (disch := omega) only [r_X8_takesHouse_98, r_X8_takesHouse_99, r_X8_takesHouse_101, r_X8_takesHouse_104, r_X8_takesHouse_105, r_X8_takesHouse_106, r_X8_takesHouse_109, r_X8_takesHouse_110, r_X8_takesHouse_111, r_X8_takesHouse_113, r_X8_takesHouse_116, r_X8_takesHouse_117, r_X8_takesHouse_120, r_X8_takesHouse_121, r_X8_takesHouse_124, hM.1.1, @id (Z.2.2.1 144 0 = .ref 145) hM.1.2.1, @id (Z.2.2.1 144 1 = .ref 146) hM.1.2.2.1, @id (Z.2.2.1 144 2 = .ref 147) hM.1.2.2.2.1, @id (Z.2.2.1 144 3 = .ref 148) hM.1.2.2.2.2.1, @id (Z.2.2.1 144 4 = .ref 149) hM.1.2.2.2.2.2.1, @id (Z.2.2.1 144 5 = .ref 150) hM.1.2.2.2.2.2.2.1, @id (Z.2.2.1 144 6 = .ref 151) hM.1.2.2.2.2.2.2.2, @id (Z.1 145 = 0) hM.2.1.1, @id (Z.1 146 = 0) hM.2.1.2.1, @id (Z.1 147 = 0) hM.2.1.2.2.1, @id (Z.1 148 = 0) hM.2.1.2.2.2.1, @id (Z.1 149 = 0) hM.2.1.2.2.2.2.1, @id (Z.1 150 = 0) hM.2.1.2.2.2.2.2.1, @id (Z.1 151 = 0) hM.2.1.2.2.2.2.2.2, @id (Z.2.1 145 = 667) hM.2.2.1, @id (Z.2.1 146 = 667) hM.2.2.2.1, @id (Z.2.1 147 = 4002) hM.2.2.2.2.1, @id (Z.2.1 148 = 60) hM.2.2.2.2.2.1, @id (Z.2.1 149 = 32) hM.2.2.2.2.2.2.1, @id (Z.2.1 150 = 32) hM.2.2.2.2.2.2.2.1, @id (Z.2.1 151 = 36) hM.2.2.2.2.2.2.2.2, up2_o, up2_e, iN_ap, iN_up, i_ix, i_inb, i_lt, i_lt0, i_0lt, i_eq, i_ne0, i_00, i_11, i_01, i_10, i_b, i_rem2, n_rem, i_add, i_mul, i_div, i_max, i_min, rdk_0, rdk_3, kp_none, kp_int, kp_ref, kp_long, kp_double, aK_v, aK_0, aK_ite, if_true, if_false, and_self, and_true, true_and, or_false, false_or, not_true_eq_false, not_false_eq_true, ite_self, ↓reduceIte, n7, z]
            rw [n7] at he
            simp (disch := omega) only [r_X8_takesHouse_98, r_X8_takesHouse_99, r_X8_takesHouse_101, r_X8_takesHouse_104, r_X8_takesHouse_105, r_X8_takesHouse_106, r_X8_takesHouse_109, r_X8_takesHouse_110, r_X8_takesHouse_111, r_X8_takesHouse_113, r_X8_takesHouse_116, r_X8_takesHouse_117, r_X8_takesHouse_120, r_X8_takesHouse_121, r_X8_takesHouse_124, hM.1.1, @id (Z.2.2.1 144 0 = .ref 145) hM.1.2.1, @id (Z.2.2.1 144 1 = .ref 146) hM.1.2.2.1, @id (Z.2.2.1 144 2 = .ref 147) hM.1.2.2.2.1, @id (Z.2.2.1 144 3 = .ref 148) hM.1.2.2.2.2.1, @id (Z.2.2.1 144 4 = .ref 149) hM.1.2.2.2.2.2.1, @id (Z.2.2.1 144 5 = .ref 150) hM.1.2.2.2.2.2.2.1, @id (Z.2.2.1 144 6 = .ref 151) hM.1.2.2.2.2.2.2.2, @id (Z.1 145 = 0) hM.2.1.1, @id (Z.1 146 = 0) hM.2.1.2.1, @id (Z.1 147 = 0) hM.2.1.2.2.1, @id (Z.1 148 = 0) hM.2.1.2.2.2.1, @id (Z.1 149 = 0) hM.2.1.2.2.2.2.1, @id (Z.1 150 = 0) hM.2.1.2.2.2.2.2.1, @id (Z.1 151 = 0) hM.2.1.2.2.2.2.2.2, @id (Z.2.1 145 = 667) hM.2.2.1, @id (Z.2.1 146 = 667) hM.2.2.2.1, @id (Z.2.1 147 = 4002) hM.2.2.2.2.1, @id (Z.2.1 148 = 60) hM.2.2.2.2.2.1, @id (Z.2.1 149 = 32) hM.2.2.2.2.2.2.1, @id (Z.2.1 150 = 32) hM.2.2.2.2.2.2.2.1, @id (Z.2.1 151 = 36) hM.2.2.2.2.2.2.2.2, up2_o, up2_e, iN_ap, iN_up, i_ix, i_inb, i_lt, i_lt0, i_0lt, i_eq, i_ne0, i_00, i_11, i_01, i_10, i_b, i_rem2, n_rem, i_add, i_mul, i_div, i_max, i_min, rdk_0, rdk_3, kp_none, kp_int, kp_ref, kp_long, kp_double, aK_v, aK_0, aK_ite, if_true, if_false, and_self, and_true, true_and, or_false, false_or, not_true_eq_false, not_false_eq_true, ite_self, ↓reduceIte, n7, z, he]
          · rw [if_neg z] at hbd
            subst hbd
            simp (disch := omega) only [r_X8_takesHouse_4, r_X8_takesHouse_5, r_X8_takesHouse_6, hM.1.1, @id (Z.2.2.1 144 0 = .ref 145) hM.1.2.1, @id (Z.2.2.1 144 1 = .ref 146) hM.1.2.2.1, @id (Z.2.2.1 144 2 = .ref 147) hM.1.2.2.2.1, @id (Z.2.2.1 144 3 = .ref 148) hM.1.2.2.2.2.1, @id (Z.2.2.1 144 4 = .ref 149) hM.1.2.2.2.2.2.1, @id (Z.2.2.1 144 5 = .ref 150) hM.1.2.2.2.2.2.2.1, @id (Z.2.2.1 144 6 = .ref 151) hM.1.2.2.2.2.2.2.2, @id (Z.1 145 = 0) hM.2.1.1, @id (Z.1 146 = 0) hM.2.1.2.1, @id (Z.1 147 = 0) hM.2.1.2.2.1, @id (Z.1 148 = 0) hM.2.1.2.2.2.1, @id (Z.1 149 = 0) hM.2.1.2.2.2.2.1, @id (Z.1 150 = 0) hM.2.1.2.2.2.2.2.1, @id (Z.1 151 = 0) hM.2.1.2.2.2.2.2.2, @id (Z.2.1 145 = 667) hM.2.2.1, @id (Z.2.1 146 = 667) hM.2.2.2.1, @id (Z.2.1 147 = 4002) hM.2.2.2.2.1, @id (Z.2.1 148 = 60) hM.2.2.2.2.2.1, @id (Z.2.1 149 = 32) hM.2.2.2.2.2.2.1, @id (Z.2.1 150 = 32) hM.2.2.2.2.2.2.2.1, @id (Z.2.1 151 = 36) hM.2.2.2.2.2.2.2.2, up2_o, up2_e, iN_ap, iN_up, i_ix, i_inb, i_lt, i_lt0, i_0lt, i_eq, i_ne0, i_00, i_11, i_01, i_10, i_b, i_rem2, n_rem, i_add, i_mul, i_div, i_max, i_min, rdk_0, rdk_3, kp_none, kp_int, kp_ref, kp_long, kp_double, aK_v, aK_0, aK_ite, if_true, if_false, and_self, and_true, true_and, or_false, false_or, not_true_eq_false, not_false_eq_true, ite_self, ↓reduceIte, n8, r_X8_takesHouse_9_d _ _ _ _ d3]
            simp (disch := omega) only [r_X8_takesHouse_98, r_X8_takesHouse_99, r_X8_takesHouse_101, r_X8_takesHouse_104, r_X8_takesHouse_105, r_X8_takesHouse_106, r_X8_takesHouse_109, r_X8_takesHouse_110, r_X8_takesHouse_111, r_X8_takesHouse_113, r_X8_takesHouse_116, r_X8_takesHouse_117, r_X8_takesHouse_120, r_X8_takesHouse_121, r_X8_takesHouse_124, hM.1.1, @id (Z.2.2.1 144 0 = .ref 145) hM.1.2.1, @id (Z.2.2.1 144 1 = .ref 146) hM.1.2.2.1, @id (Z.2.2.1 144 2 = .ref 147) hM.1.2.2.2.1, @id (Z.2.2.1 144 3 = .ref 148) hM.1.2.2.2.2.1, @id (Z.2.2.1 144 4 = .ref 149) hM.1.2.2.2.2.2.1, @id (Z.2.2.1 144 5 = .ref 150) hM.1.2.2.2.2.2.2.1, @id (Z.2.2.1 144 6 = .ref 151) hM.1.2.2.2.2.2.2.2, @id (Z.1 145 = 0) hM.2.1.1, @id (Z.1 146 = 0) hM.2.1.2.1, @id (Z.1 147 = 0) hM.2.1.2.2.1, @id (Z.1 148 = 0) hM.2.1.2.2.2.1, @id (Z.1 149 = 0) hM.2.1.2.2.2.2.1, @id (Z.1 150 = 0) hM.2.1.2.2.2.2.2.1, @id (Z.1 151 = 0) hM.2.1.2.2.2.2.2.2, @id (Z.2.1 145 = 667) hM.2.2.1, @id (Z.2.1 146 = 667) hM.2.2.2.1, @id (Z.2.1 147 = 4002) hM.2.2.2.2.1, @id (Z.2.1 148 = 60) hM.2.2.2.2.2.1, @id (Z.2.1 149 = 32) hM.2.2.2.2.2.2.1, @id (Z.2.1 150 = 32) hM.2.2.2.2.2.2.2.1, @id (Z.2.1 151 = 36) hM.2.2.2.2.2.2.2.2, up2_o, up2_e, iN_ap, iN_up, i_ix, i_inb, i_lt, i_lt0, i_0lt, i_eq, i_ne0, i_00, i_11, i_01, i_10, i_b, i_rem2, n_rem, i_add, i_mul, i_div, i_max, i_min, rdk_0, rdk_3, kp_none, kp_int, kp_ref, kp_long, kp_double, aK_v, aK_0, aK_ite, if_true, if_false, and_self, and_true, true_and, or_false, false_or, not_true_eq_false, not_false_eq_true, ite_self, ↓reduceIte, n7, z]
            rw [n7] at he
            simp (disch := omega) only [r_X8_takesHouse_98, r_X8_takesHouse_99, r_X8_takesHouse_101, r_X8_takesHouse_104, r_X8_takesHouse_105, r_X8_takesHouse_106, r_X8_takesHouse_109, r_X8_takesHouse_110, r_X8_takesHouse_111, r_X8_takesHouse_113, r_X8_takesHouse_116, r_X8_takesHouse_117, r_X8_takesHouse_120, r_X8_takesHouse_121, r_X8_takesHouse_124, hM.1.1, @id (Z.2.2.1 144 0 = .ref 145) hM.1.2.1, @id (Z.2.2.1 144 1 = .ref 146) hM.1.2.2.1, @id (Z.2.2.1 144 2 = .ref 147) hM.1.2.2.2.1, @id (Z.2.2.1 144 3 = .ref 148) hM.1.2.2.2.2.1, @id (Z.2.2.1 144 4 = .ref 149) hM.1.2.2.2.2.2.1, @id (Z.2.2.1 144 5 = .ref 150) hM.1.2.2.2.2.2.2.1, @id (Z.2.2.1 144 6 = .ref 151) hM.1.2.2.2.2.2.2.2, @id (Z.1 145 = 0) hM.2.1.1, @id (Z.1 146 = 0) hM.2.1.2.1, @id (Z.1 147 = 0) hM.2.1.2.2.1, @id (Z.1 148 = 0) hM.2.1.2.2.2.1, @id (Z.1 149 = 0) hM.2.1.2.2.2.2.1, @id (Z.1 150 = 0) hM.2.1.2.2.2.2.2.1, @id (Z.1 151 = 0) hM.2.1.2.2.2.2.2.2, @id (Z.2.1 145 = 667) hM.2.2.1, @id (Z.2.1 146 = 667) hM.2.2.2.1, @id (Z.2.1 147 = 4002) hM.2.2.2.2.1, @id (Z.2.1 148 = 60) hM.2.2.2.2.2.1, @id (Z.2.1 149 = 32) hM.2.2.2.2.2.2.1, @id (Z.2.1 150 = 32) hM.2.2.2.2.2.2.2.1, @id (Z.2.1 151 = 36) hM.2.2.2.2.2.2.2.2, up2_o, up2_e, iN_ap, iN_up, i_ix, i_inb, i_lt, i_lt0, i_0lt, i_eq, i_ne0, i_00, i_11, i_01, i_10, i_b, i_rem2, n_rem, i_add, i_mul, i_div, i_max, i_min, rdk_0, rdk_3, kp_none, kp_int, kp_ref, kp_long, kp_double, aK_v, aK_0, aK_ite, if_true, if_false, and_self, and_true, true_and, or_false, false_or, not_true_eq_false, not_false_eq_true, ite_self, ↓reduceIte, n7, z, he]
        · rw [hs] at hs'
          have e : b = 1 := by
            by_cases e : b = 1
            · exact e
            · rw [if_neg e] at hs'
              cases hs'
          rw [if_pos e] at hs'
          cases hs'
          rw [e, if_neg (show ¬ 1 = 0 by omega)]
          refine ⟨?_, fun _ => ⟨up2_e ⟨rfl, rfl⟩, ?_⟩, fun z => by simp at z, fun z => by simp at z, fun z => by simp at z⟩
          · rw [up144 (by omega), up144 (by omega), up144 (by omega), up144 (by omega)]
            exact m1
          · rw [up2_o (by omega), up2_e ⟨rfl, rfl⟩, n7]
            rfl
        · rw [up144 h1, up144 h1]
        · rw [up2_o (by omega), up2_o (by omega)]
      · obtain ⟨b, hbd⟩ : ∃ b, b = if v < 0 ∨ 9 < v then 0 else 1 := ⟨_, rfl⟩
        have hb1 : b ≤ 1 := by rw [hbd]; split <;> omega
        have hw := w_v (v := v) (lo := 0) (hi := 9) (h := (Z, iN N, L, c)) v2 (by omega) (by omega)
        rw [← hbd] at hw
        rcases (show b = 0 ∨ b = 1 by omega) with rfl | rfl
        · have hs : hS x (2, (w, p) :: l') = none := by
            show (if x = 44 then _ else if (48 ≤ x ∧ x ≤ 57) ∧ 1 ≤ p * 10 + (x - 48) ∧ p * 10 + (x - 48) ≤ 9999 then some (2, (w, p * 10 + (x - 48)) :: l') else none) = none
            rw [if_neg q44, if_neg]
            intro u
            rw [if_neg (by omega)] at hbd
            omega
          rw [hs]
          refine ⟨up2 N 150 (N 144 7) p, ?_, fun s' hs' => by simp at hs', fun a h1 h2 h3 => ?_, fun j h1 h2 => up2_o (by omega)⟩
          · rw [r_X8_takesHouse_0, r_X8_takesHouse_1, r_X8_takesHouse_3, v1]
            simp (disch := omega) only [r_X8_takesHouse_4, r_X8_takesHouse_5, r_X8_takesHouse_6, hM.1.1, @id (Z.2.2.1 144 0 = .ref 145) hM.1.2.1, @id (Z.2.2.1 144 1 = .ref 146) hM.1.2.2.1, @id (Z.2.2.1 144 2 = .ref 147) hM.1.2.2.2.1, @id (Z.2.2.1 144 3 = .ref 148) hM.1.2.2.2.2.1, @id (Z.2.2.1 144 4 = .ref 149) hM.1.2.2.2.2.2.1, @id (Z.2.2.1 144 5 = .ref 150) hM.1.2.2.2.2.2.2.1, @id (Z.2.2.1 144 6 = .ref 151) hM.1.2.2.2.2.2.2.2, @id (Z.1 145 = 0) hM.2.1.1, @id (Z.1 146 = 0) hM.2.1.2.1, @id (Z.1 147 = 0) hM.2.1.2.2.1, @id (Z.1 148 = 0) hM.2.1.2.2.2.1, @id (Z.1 149 = 0) hM.2.1.2.2.2.2.1, @id (Z.1 150 = 0) hM.2.1.2.2.2.2.2.1, @id (Z.1 151 = 0) hM.2.1.2.2.2.2.2.2, @id (Z.2.1 145 = 667) hM.2.2.1, @id (Z.2.1 146 = 667) hM.2.2.2.1, @id (Z.2.1 147 = 4002) hM.2.2.2.2.1, @id (Z.2.1 148 = 60) hM.2.2.2.2.2.1, @id (Z.2.1 149 = 32) hM.2.2.2.2.2.2.1, @id (Z.2.1 150 = 32) hM.2.2.2.2.2.2.2.1, @id (Z.2.1 151 = 36) hM.2.2.2.2.2.2.2.2, up2_o, up2_e, iN_ap, iN_up, i_ix, i_inb, i_lt, i_lt0, i_0lt, i_eq, i_ne0, i_00, i_11, i_01, i_10, i_b, i_rem2, n_rem, i_add, i_mul, i_div, i_max, i_min, rdk_0, rdk_3, kp_none, kp_int, kp_ref, kp_long, kp_double, aK_v, aK_0, aK_ite, if_true, if_false, and_self, and_true, true_and, or_false, false_or, not_true_eq_false, not_false_eq_true, ite_self, ↓reduceIte, n8, r_X8_takesHouse_9_d _ _ _ _ d3]
            simp (disch := omega) only [r_X8_takesHouse_98, r_X8_takesHouse_99, r_X8_takesHouse_101, r_X8_takesHouse_104, r_X8_takesHouse_105, r_X8_takesHouse_106, r_X8_takesHouse_109, r_X8_takesHouse_110, r_X8_takesHouse_111, r_X8_takesHouse_113, r_X8_takesHouse_116, r_X8_takesHouse_117, r_X8_takesHouse_120, r_X8_takesHouse_121, r_X8_takesHouse_124, r_X8_takesHouse_125, r_X8_takesHouse_126, r_X8_takesHouse_127, r_X8_takesHouse_129, r_X8_takesHouse_132, r_X8_takesHouse_135, r_X8_takesHouse_136, r_X8_takesHouse_139, r_X8_takesHouse_140, r_X8_takesHouse_143, r_X8_takesHouse_144, r_X8_takesHouse_147, r_X8_takesHouse_150, r_X8_takesHouse_151, r_X8_takesHouse_154, r_X8_takesHouse_155, r_X8_takesHouse_156, r_X8_takesHouse_157, r_X8_takesHouse_160, r_X8_takesHouse_161, r_X8_takesHouse_164, r_X8_takesHouse_165, r_X8_takesHouse_168, r_X8_takesHouse_170, r_X8_takesHouse_171, r_X8_takesHouse_174, r_X8_takesHouse_175, r_X8_takesHouse_178, r_X8_takesHouse_179, r_X8_takesHouse_180, r_X8_takesHouse_181, r_X8_takesHouse_182, r_X8_takesHouse_185, r_X8_takesHouse_186, r_X8_takesHouse_189, r_X8_takesHouse_190, r_X8_takesHouse_193, r_X8_takesHouse_194, r_X8_takesHouse_195, r_X8_takesHouse_196, hM.1.1, @id (Z.2.2.1 144 0 = .ref 145) hM.1.2.1, @id (Z.2.2.1 144 1 = .ref 146) hM.1.2.2.1, @id (Z.2.2.1 144 2 = .ref 147) hM.1.2.2.2.1, @id (Z.2.2.1 144 3 = .ref 148) hM.1.2.2.2.2.1, @id (Z.2.2.1 144 4 = .ref 149) hM.1.2.2.2.2.2.1, @id (Z.2.2.1 144 5 = .ref 150) hM.1.2.2.2.2.2.2.1, @id (Z.2.2.1 144 6 = .ref 151) hM.1.2.2.2.2.2.2.2, @id (Z.1 145 = 0) hM.2.1.1, @id (Z.1 146 = 0) hM.2.1.2.1, @id (Z.1 147 = 0) hM.2.1.2.2.1, @id (Z.1 148 = 0) hM.2.1.2.2.2.1, @id (Z.1 149 = 0) hM.2.1.2.2.2.2.1, @id (Z.1 150 = 0) hM.2.1.2.2.2.2.2.1, @id (Z.1 151 = 0) hM.2.1.2.2.2.2.2.2, @id (Z.2.1 145 = 667) hM.2.2.1, @id (Z.2.1 146 = 667) hM.2.2.2.1, @id (Z.2.1 147 = 4002) hM.2.2.2.2.1, @id (Z.2.1 148 = 60) hM.2.2.2.2.2.1, @id (Z.2.1 149 = 32) hM.2.2.2.2.2.2.1, @id (Z.2.1 150 = 32) hM.2.2.2.2.2.2.2.1, @id (Z.2.1 151 = 36) hM.2.2.2.2.2.2.2.2, up2_o, up2_e, iN_ap, iN_up, i_ix, i_inb, i_lt, i_lt0, i_0lt, i_eq, i_ne0, i_00, i_11, i_01, i_10, i_b, i_rem2, n_rem, i_add, i_mul, i_div, i_max, i_min, rdk_0, rdk_3, kp_none, kp_int, kp_ref, kp_long, kp_double, aK_v, aK_0, aK_ite, if_true, if_false, and_self, and_true, true_and, or_false, false_or, not_true_eq_false, not_false_eq_true, ite_self, ↓reduceIte, n7, hsec, i_eq, q44, hw]
            simp
          · funext i
            exact up2_o (by omega)
        · have hd : 48 ≤ x ∧ x ≤ 57 ∧ v = x - 48 := by
            by_cases q : 48 ≤ x
            · have := v3 q
              refine ⟨q, ?_, this⟩
              by_cases z : 9 < v
              · rw [if_pos (Or.inr z)] at hbd
                omega
              · omega
            · rw [if_pos (Or.inr (by have := v4 (by omega); omega))] at hbd
              omega
          by_cases q1 : p < 1000
          · have hs : hS x (2, (w, p) :: l') = some (2, (w, p * 10 + (x - 48)) :: l') := by
              show (if x = 44 then _ else if (48 ≤ x ∧ x ≤ 57) ∧ 1 ≤ p * 10 + (x - 48) ∧ p * 10 + (x - 48) ≤ 9999 then some (2, (w, p * 10 + (x - 48)) :: l') else none) = _
              rw [if_neg q44, if_pos ⟨by omega, by omega, by omega⟩]
            rw [hs]
            refine ⟨up2 N 150 (N 144 7) (10 * p + v), ?_, fun s' hs' => ?_, fun a h1 h2 h3 => ?_, fun j h1 h2 => up2_o (by omega)⟩
            · rw [r_X8_takesHouse_0, r_X8_takesHouse_1, r_X8_takesHouse_3, v1]
              simp (disch := omega) only [r_X8_takesHouse_4, r_X8_takesHouse_5, r_X8_takesHouse_6, hM.1.1, @id (Z.2.2.1 144 0 = .ref 145) hM.1.2.1, @id (Z.2.2.1 144 1 = .ref 146) hM.1.2.2.1, @id (Z.2.2.1 144 2 = .ref 147) hM.1.2.2.2.1, @id (Z.2.2.1 144 3 = .ref 148) hM.1.2.2.2.2.1, @id (Z.2.2.1 144 4 = .ref 149) hM.1.2.2.2.2.2.1, @id (Z.2.2.1 144 5 = .ref 150) hM.1.2.2.2.2.2.2.1, @id (Z.2.2.1 144 6 = .ref 151) hM.1.2.2.2.2.2.2.2, @id (Z.1 145 = 0) hM.2.1.1, @id (Z.1 146 = 0) hM.2.1.2.1, @id (Z.1 147 = 0) hM.2.1.2.2.1, @id (Z.1 148 = 0) hM.2.1.2.2.2.1, @id (Z.1 149 = 0) hM.2.1.2.2.2.2.1, @id (Z.1 150 = 0) hM.2.1.2.2.2.2.2.1, @id (Z.1 151 = 0) hM.2.1.2.2.2.2.2.2, @id (Z.2.1 145 = 667) hM.2.2.1, @id (Z.2.1 146 = 667) hM.2.2.2.1, @id (Z.2.1 147 = 4002) hM.2.2.2.2.1, @id (Z.2.1 148 = 60) hM.2.2.2.2.2.1, @id (Z.2.1 149 = 32) hM.2.2.2.2.2.2.1, @id (Z.2.1 150 = 32) hM.2.2.2.2.2.2.2.1, @id (Z.2.1 151 = 36) hM.2.2.2.2.2.2.2.2, up2_o, up2_e, iN_ap, iN_up, i_ix, i_inb, i_lt, i_lt0, i_0lt, i_eq, i_ne0, i_00, i_11, i_01, i_10, i_b, i_rem2, n_rem, i_add, i_mul, i_div, i_max, i_min, rdk_0, rdk_3, kp_none, kp_int, kp_ref, kp_long, kp_double, aK_v, aK_0, aK_ite, if_true, if_false, and_self, and_true, true_and, or_false, false_or, not_true_eq_false, not_false_eq_true, ite_self, ↓reduceIte, n8, r_X8_takesHouse_9_d _ _ _ _ d3]
              simp (disch := omega) only [r_X8_takesHouse_98, r_X8_takesHouse_99, r_X8_takesHouse_101, r_X8_takesHouse_104, r_X8_takesHouse_105, r_X8_takesHouse_106, r_X8_takesHouse_109, r_X8_takesHouse_110, r_X8_takesHouse_111, r_X8_takesHouse_113, r_X8_takesHouse_116, r_X8_takesHouse_117, r_X8_takesHouse_120, r_X8_takesHouse_121, r_X8_takesHouse_124, r_X8_takesHouse_125, r_X8_takesHouse_126, r_X8_takesHouse_127, r_X8_takesHouse_129, r_X8_takesHouse_132, r_X8_takesHouse_135, r_X8_takesHouse_136, r_X8_takesHouse_139, r_X8_takesHouse_140, r_X8_takesHouse_143, r_X8_takesHouse_144, r_X8_takesHouse_147, r_X8_takesHouse_150, r_X8_takesHouse_151, r_X8_takesHouse_154, r_X8_takesHouse_155, r_X8_takesHouse_156, r_X8_takesHouse_157, r_X8_takesHouse_160, r_X8_takesHouse_161, r_X8_takesHouse_164, r_X8_takesHouse_165, r_X8_takesHouse_168, r_X8_takesHouse_170, r_X8_takesHouse_171, r_X8_takesHouse_174, r_X8_takesHouse_175, r_X8_takesHouse_178, r_X8_takesHouse_179, r_X8_takesHouse_180, r_X8_takesHouse_181, r_X8_takesHouse_182, r_X8_takesHouse_185, r_X8_takesHouse_186, r_X8_takesHouse_189, r_X8_takesHouse_190, r_X8_takesHouse_193, r_X8_takesHouse_194, r_X8_takesHouse_195, r_X8_takesHouse_196, hM.1.1, @id (Z.2.2.1 144 0 = .ref 145) hM.1.2.1, @id (Z.2.2.1 144 1 = .ref 146) hM.1.2.2.1, @id (Z.2.2.1 144 2 = .ref 147) hM.1.2.2.2.1, @id (Z.2.2.1 144 3 = .ref 148) hM.1.2.2.2.2.1, @id (Z.2.2.1 144 4 = .ref 149) hM.1.2.2.2.2.2.1, @id (Z.2.2.1 144 5 = .ref 150) hM.1.2.2.2.2.2.2.1, @id (Z.2.2.1 144 6 = .ref 151) hM.1.2.2.2.2.2.2.2, @id (Z.1 145 = 0) hM.2.1.1, @id (Z.1 146 = 0) hM.2.1.2.1, @id (Z.1 147 = 0) hM.2.1.2.2.1, @id (Z.1 148 = 0) hM.2.1.2.2.2.1, @id (Z.1 149 = 0) hM.2.1.2.2.2.2.1, @id (Z.1 150 = 0) hM.2.1.2.2.2.2.2.1, @id (Z.1 151 = 0) hM.2.1.2.2.2.2.2.2, @id (Z.2.1 145 = 667) hM.2.2.1, @id (Z.2.1 146 = 667) hM.2.2.2.1, @id (Z.2.1 147 = 4002) hM.2.2.2.2.1, @id (Z.2.1 148 = 60) hM.2.2.2.2.2.1, @id (Z.2.1 149 = 32) hM.2.2.2.2.2.2.1, @id (Z.2.1 150 = 32) hM.2.2.2.2.2.2.2.1, @id (Z.2.1 151 = 36) hM.2.2.2.2.2.2.2.2, up2_o, up2_e, iN_ap, iN_up, i_ix, i_inb, i_lt, i_lt0, i_0lt, i_eq, i_ne0, i_00, i_11, i_01, i_10, i_b, i_rem2, n_rem, i_add, i_mul, i_div, i_max, i_min, rdk_0, rdk_3, kp_none, kp_int, kp_ref, kp_long, kp_double, aK_v, aK_0, aK_ite, if_true, if_false, and_self, and_true, true_and, or_false, false_or, not_true_eq_false, not_false_eq_true, ite_self, ↓reduceIte, n7, hsec, i_eq, q44, hw, q1]
              simp
            · cases hs'
              refine ⟨?_, fun z => by simp at z, fun _ => ?_, fun z => by simp at z, fun _ e2 l2 he => ?_⟩
              · dsimp only
                rw [List.reverse_cons]
                refine At2_app.mpr ⟨At2_congr c1.1 (fun i hi => ?_) (fun i hi => ?_), ?_, fun _ => ?_⟩
                · rw [up2_o (by omega)]
                · rw [List.length_reverse] at hi
                  rw [up2_o (by omega)]
                · rw [List.length_reverse, up2_o (by omega)]
                  exact c1.2.1
                · rw [List.length_reverse, ← n7, up2_e ⟨rfl, rfl⟩]
                  dsimp only
                  omega
              · rw [up2_o (by omega)]
                simp
                exact n7
              · dsimp only at he
                cases he
                rw [up2_o (by omega), n8, if_neg (by dsimp only; omega)]
            · funext i
              exact up2_o (by omega)
          · have hs : hS x (2, (w, p) :: l') = none := by
              show (if x = 44 then _ else if (48 ≤ x ∧ x ≤ 57) ∧ 1 ≤ p * 10 + (x - 48) ∧ p * 10 + (x - 48) ≤ 9999 then some (2, (w, p * 10 + (x - 48)) :: l') else none) = none
              rw [if_neg q44, if_neg (by omega)]
            rw [hs]
            refine ⟨up2 N 150 (N 144 7) p, ?_, fun s' hs' => by simp at hs', fun a h1 h2 h3 => ?_, fun j h1 h2 => up2_o (by omega)⟩
            · rw [r_X8_takesHouse_0, r_X8_takesHouse_1, r_X8_takesHouse_3, v1]
              simp (disch := omega) only [r_X8_takesHouse_4, r_X8_takesHouse_5, r_X8_takesHouse_6, hM.1.1, @id (Z.2.2.1 144 0 = .ref 145) hM.1.2.1, @id (Z.2.2.1 144 1 = .ref 146) hM.1.2.2.1, @id (Z.2.2.1 144 2 = .ref 147) hM.1.2.2.2.1, @id (Z.2.2.1 144 3 = .ref 148) hM.1.2.2.2.2.1, @id (Z.2.2.1 144 4 = .ref 149) hM.1.2.2.2.2.2.1, @id (Z.2.2.1 144 5 = .ref 150) hM.1.2.2.2.2.2.2.1, @id (Z.2.2.1 144 6 = .ref 151) hM.1.2.2.2.2.2.2.2, @id (Z.1 145 = 0) hM.2.1.1, @id (Z.1 146 = 0) hM.2.1.2.1, @id (Z.1 147 = 0) hM.2.1.2.2.1, @id (Z.1 148 = 0) hM.2.1.2.2.2.1, @id (Z.1 149 = 0) hM.2.1.2.2.2.2.1, @id (Z.1 150 = 0) hM.2.1.2.2.2.2.2.1, @id (Z.1 151 = 0) hM.2.1.2.2.2.2.2.2, @id (Z.2.1 145 = 667) hM.2.2.1, @id (Z.2.1 146 = 667) hM.2.2.2.1, @id (Z.2.1 147 = 4002) hM.2.2.2.2.1, @id (Z.2.1 148 = 60) hM.2.2.2.2.2.1, @id (Z.2.1 149 = 32) hM.2.2.2.2.2.2.1, @id (Z.2.1 150 = 32) hM.2.2.2.2.2.2.2.1, @id (Z.2.1 151 = 36) hM.2.2.2.2.2.2.2.2, up2_o, up2_e, iN_ap, iN_up, i_ix, i_inb, i_lt, i_lt0, i_0lt, i_eq, i_ne0, i_00, i_11, i_01, i_10, i_b, i_rem2, n_rem, i_add, i_mul, i_div, i_max, i_min, rdk_0, rdk_3, kp_none, kp_int, kp_ref, kp_long, kp_double, aK_v, aK_0, aK_ite, if_true, if_false, and_self, and_true, true_and, or_false, false_or, not_true_eq_false, not_false_eq_true, ite_self, ↓reduceIte, n8, r_X8_takesHouse_9_d _ _ _ _ d3]
              simp (disch := omega) only [r_X8_takesHouse_98, r_X8_takesHouse_99, r_X8_takesHouse_101, r_X8_takesHouse_104, r_X8_takesHouse_105, r_X8_takesHouse_106, r_X8_takesHouse_109, r_X8_takesHouse_110, r_X8_takesHouse_111, r_X8_takesHouse_113, r_X8_takesHouse_116, r_X8_takesHouse_117, r_X8_takesHouse_120, r_X8_takesHouse_121, r_X8_takesHouse_124, r_X8_takesHouse_125, r_X8_takesHouse_126, r_X8_takesHouse_127, r_X8_takesHouse_129, r_X8_takesHouse_132, r_X8_takesHouse_135, r_X8_takesHouse_136, r_X8_takesHouse_139, r_X8_takesHouse_140, r_X8_takesHouse_143, r_X8_takesHouse_144, r_X8_takesHouse_147, r_X8_takesHouse_150, r_X8_takesHouse_151, r_X8_takesHouse_154, r_X8_takesHouse_155, r_X8_takesHouse_156, r_X8_takesHouse_157, r_X8_takesHouse_160, r_X8_takesHouse_161, r_X8_takesHouse_164, r_X8_takesHouse_165, r_X8_takesHouse_168, r_X8_takesHouse_170, r_X8_takesHouse_171, r_X8_takesHouse_174, r_X8_takesHouse_175, r_X8_takesHouse_178, r_X8_takesHouse_179, r_X8_takesHouse_180, r_X8_takesHouse_181, r_X8_takesHouse_182, r_X8_takesHouse_185, r_X8_takesHouse_186, r_X8_takesHouse_189, r_X8_takesHouse_190, r_X8_takesHouse_193, r_X8_takesHouse_194, r_X8_takesHouse_195, r_X8_takesHouse_196, hM.1.1, @id (Z.2.2.1 144 0 = .ref 145) hM.1.2.1, @id (Z.2.2.1 144 1 = .ref 146) hM.1.2.2.1, @id (Z.2.2.1 144 2 = .ref 147) hM.1.2.2.2.1, @id (Z.2.2.1 144 3 = .ref 148) hM.1.2.2.2.2.1, @id (Z.2.2.1 144 4 = .ref 149) hM.1.2.2.2.2.2.1, @id (Z.2.2.1 144 5 = .ref 150) hM.1.2.2.2.2.2.2.1, @id (Z.2.2.1 144 6 = .ref 151) hM.1.2.2.2.2.2.2.2, @id (Z.1 145 = 0) hM.2.1.1, @id (Z.1 146 = 0) hM.2.1.2.1, @id (Z.1 147 = 0) hM.2.1.2.2.1, @id (Z.1 148 = 0) hM.2.1.2.2.2.1, @id (Z.1 149 = 0) hM.2.1.2.2.2.2.1, @id (Z.1 150 = 0) hM.2.1.2.2.2.2.2.1, @id (Z.1 151 = 0) hM.2.1.2.2.2.2.2.2, @id (Z.2.1 145 = 667) hM.2.2.1, @id (Z.2.1 146 = 667) hM.2.2.2.1, @id (Z.2.1 147 = 4002) hM.2.2.2.2.1, @id (Z.2.1 148 = 60) hM.2.2.2.2.2.1, @id (Z.2.1 149 = 32) hM.2.2.2.2.2.2.1, @id (Z.2.1 150 = 32) hM.2.2.2.2.2.2.2.1, @id (Z.2.1 151 = 36) hM.2.2.2.2.2.2.2.2, up2_o, up2_e, iN_ap, iN_up, i_ix, i_inb, i_lt, i_lt0, i_0lt, i_eq, i_ne0, i_00, i_11, i_01, i_10, i_b, i_rem2, n_rem, i_add, i_mul, i_div, i_max, i_min, rdk_0, rdk_3, kp_none, kp_int, kp_ref, kp_long, kp_double, aK_v, aK_0, aK_ite, if_true, if_false, and_self, and_true, true_and, or_false, false_or, not_true_eq_false, not_false_eq_true, ite_self, ↓reduceIte, n7, hsec, i_eq, q44, hw, q1]
              simp
            · funext i
              exact up2_o (by omega)
end Mt
