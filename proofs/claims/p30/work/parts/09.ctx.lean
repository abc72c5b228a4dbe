/-! what holds at any time: the words, the classes, what the statics hold -/
def kwN (w : Cond) : Bool := match w with | .methodLinkNest .. => true | .fieldLinkNest .. => true | _ => false
def kw (w : Cond) : Bool := goodWord w || w.faceAtom || kwN w
theorem kw_tab {w : Cond} (h : kw w = true) : w.onTables = true ∨ ∃ ty, w = .arrayClass ty := by
  unfold kw at h
  cases hg : goodWord w
  · rw [hg] at h
    refine Or.inl ?_
    cases w <;> simp [Cond.faceAtom, kwN] at h <;> rfl
  · rcases good_of_word hg with q | q
    · simp only [Bool.and_eq_true] at q
      exact Or.inl q.1
    · exact Or.inr q
theorem kw_keep {w : Cond} (h : kw w = true) {s U : State} (hW : s.WarmedH U.vm) {args a' : Array Value} (hb : w.before args s = true) : w.before a' U = true := by
  cases hg : goodWord w
  · rcases kw_tab h with hT | ⟨ty, rfl⟩
    · refine va_tabs (u := s.setVm U.vm) (A := args) hT rfl ?_
      unfold kw at h
      rw [hg, Bool.false_or] at h
      cases hf : w.faceAtom
      · rw [hf, Bool.false_or] at h
        cases w <;> simp [kwN] at h
        · exact Cond.methodLinkNest_warmed hW hb
        · exact Cond.fieldLinkNest_warmed hW hb
      · exact Cond.faceAtom_setVm hW.alike w hf hb
    · exact word_at hW (Or.inr ⟨ty, rfl⟩) hb
  · exact word_at hW (good_of_word hg) hb
def strL : List (Nat × String) := [(64, "the day can not be booked"), (78, "all modules of the house are booked"), (93, "the day has no room, or is too early"), (105, "no module is booked and not set"), (120, "the value is out of range"), (128, "there are no such days"), (144, "snags are out of range"), (155, "too many open snags"), (161, "the trade has no open snag"), (175, "the claim is not one of an amount from another trade"), (177, "the share is less than the amount"), (182, "it is too early to release"), (187, "the code is out of range"), (192, "the buffer is full"), (208, "the buffer is not a complete house"), (213, "there are 6 houses"), (219, "the buffer is not a complete text of winds"), (224, "there are more than 60 winds"), (276, "the day is out of range"), (384, "there is no such house"), (387, "there is no such module"), (389, "the module is not set"), (391, "there is no such trade"), (393, "there is no such setting"), (395, "days are out of range"), (397, "there is no such number")]
abbrev exN0 : String := "java/lang/IndexOutOfBoundsException"
abbrev exN1 : String := "java/lang/IllegalArgumentException"
abbrev exN2 : String := "java/lang/IllegalStateException"
def exNm (e : Nat) : String := [exN0, exN1, exN2].getD e ""
/-- the statics and the classes, as a state has them -/
def aGl (G : aG) (U : State) : Prop :=
  va_K (gD G) vwCl (gTy G) U ∧ va_X (gB G) (gN G) (gX G) U U.heap ∧ (gB G < gS G ∧ gS G ≤ U.heap.size) ∧
  (va_Z "ModuleYard" "LOWEST" "[I" (.ref (gT1 G)) (fA G) U U.heap ∧ va_Z "ModuleYard" "HIGHEST" "[I" (.ref (gT2 G)) (fA G) U U.heap ∧ va_Z "ModuleYard" "AT_FIRST" "[I" (.ref (gT3 G)) (fA G) U U.heap) ∧
  (va_T .int (gT1 G) 5 (fun j => .int (fLow j)) (fA G) U U.heap ∧ va_T .int (gT2 G) 5 (fun j => .int (fHigh j)) (fA G) U U.heap ∧ va_T .int (gT3 G) 5 (fun j => .int (fFirst j)) (fA G) U U.heap) ∧
  (vx_Zq Bundle.tN "UNASSIGNED_STACK" Bundle.steD (fA G) U U.heap ∧ vx_Zq Bundle.tN "SUPPRESSED_SENTINEL" Bundle.listD (fA G) U U.heap) ∧
  va_AO RYard U ∧ (∀ q ∈ strL, ∃ sa, vk_R RX7 q.1 q.2 sa U)
theorem aGl_moved {G : aG} {u U : State} (hW : u.WarmedH U.vm) (hq : ∀ q : Nat, q < u.heap.size → ¬ fA G q → U.heap[q]? = u.heap[q]?) (hz : u.heap.size ≤ U.heap.size) (h : aGl G u) : aGl G U := by
  obtain ⟨h1, h2, h3, ⟨h4, h5, h6⟩, ⟨h7, h8, h9⟩, ⟨h10, h11⟩, h12, h13⟩ := h
  have hv := hW.alike
  have hb : ¬ fA G (gB G) := Nat.not_le.mpr h3.1
  exact ⟨va_K.moved hv h1, va_X.moved hv (h2.kept (hq _ (Nat.lt_of_lt_of_le h3.1 h3.2) hb)), ⟨h3.1, Nat.le_trans h3.2 hz⟩,
    ⟨va_Z.moved hv (h4.kept hq), va_Z.moved hv (h5.kept hq), va_Z.moved hv (h6.kept hq)⟩,
    ⟨va_T.moved hv (h7.kept hq), va_T.moved hv (h8.kept hq), va_T.moved hv (h9.kept hq)⟩,
    ⟨vx_Zq.moved hv (h10.kept hq), vx_Zq.moved hv (h11.kept hq)⟩, va_AO.moved hv h12,
    fun q hq => (h13 q hq).elim fun sa h => ⟨sa, vk_R.warm hW h⟩⟩
theorem cl_get : ∀ ci, ci < 7 → vwCl[ci]? = some (clC ci, clT ci, fN ci) := by
  intro ci h
  rcases (show ci = 0 ∨ ci = 1 ∨ ci = 2 ∨ ci = 3 ∨ ci = 4 ∨ ci = 5 ∨ ci = 6 by omega) with rfl | rfl | rfl | rfl | rfl | rfl | rfl <;> rfl
theorem cl_ty : ∀ ci, ci < 7 → ∀ k, k < fN ci → parseFieldDescriptor (clT ci k).2.2.1 = some (clTy ci k) := by
  intro ci h
  rcases (show ci = 0 ∨ ci = 1 ∨ ci = 2 ∨ ci = 3 ∨ ci = 4 ∨ ci = 5 ∨ ci = 6 by omega) with rfl | rfl | rfl | rfl | rfl | rfl | rfl
  · exact tyX0_ok
  · exact tyX1_ok
  · exact tyX2_ok
  · exact tyX3_ok
  · exact tyX5_ok
  · exact tyX6_ok
  · exact tyX7_ok
theorem cl_nm : ∀ ci, ci < 7 → ∀ a, a < fN ci → ∀ b, b < fN ci → a ≠ b → (clT ci a).2.1 ≠ (clT ci b).2.1 := by
  intro ci h
  rcases (show ci = 0 ∨ ci = 1 ∨ ci = 2 ∨ ci = 3 ∨ ci = 4 ∨ ci = 5 ∨ ci = 6 by omega) with rfl | rfl | rfl | rfl | rfl | rfl | rfl
  · exact nmX0
  · exact nmX1
  · exact nmX2
  · exact nmX3
  · exact nmX5
  · exact nmX6
  · exact nmX7
theorem cl_ws0 : ∀ ci, ci < 7 → ∀ w ∈ u_ws (clC ci) (clT ci) (fN ci), w ∈ lw_tbl ∧ kw w = true := by decide +kernel
theorem cl_fl : ∀ ci, ci < 7 → ∀ k, k < fN ci → (clT ci k).1 = clC ci ∧ ((clT ci k).2.2.2 = decide (fTy ci k = 2)) ∧ (fTy ci k = 0 → clTy ci k = .int) ∧ (fTy ci k = 1 → clTy ci k = .long) ∧ (fTy ci k = 2 → (match clTy ci k with | .object _ => true | .array _ => true | _ => false) = true) ∧ fTy ci k ≤ 2 := by decide +kernel
theorem rf_fits {t : FieldType} {a : Nat} (h : (match t with | .object _ => true | .array _ => true | _ => false) = true) : narrow t (.ref a) = .ref a ∧ fits t (.ref a) = true ∧ defaultValue t = .null := by
  cases t <;> first | (exact ⟨rfl, rfl, rfl⟩) | (cases h)
theorem find_in {α β : Type} {l : List (α × β)} {p : α × β → Bool} {b : β} (h : (l.find? p).map (fun e => e.2) = some b) : ∃ a, (a, b) ∈ l ∧ p (a, b) = true := by
  cases hf : l.find? p with
  | none => rw [hf] at h; cases h
  | some e =>
    rw [hf] at h
    cases h
    exact ⟨e.1, List.mem_of_find?_eq_some hf, List.find?_some hf⟩
theorem key2 {a : Nat × Nat} {o i : Nat} (h : (Nat.beq a.1 o && Nat.beq a.2 i) = true) : a = (o, i) := by
  obtain ⟨h1, h2⟩ := Bool.and_eq_true_iff.mp h
  exact Prod.ext (Nat.eq_of_beq_eq_true h1) (Nat.eq_of_beq_eq_true h2)
theorem tab_in {α β : Type} {L : List α} {X : List (α × β)} {a : α} (h : X.map (fun e => e.1) = L) (ha : a ∈ L) : ∃ b, (a, b) ∈ X := by
  rw [← h] at ha
  obtain ⟨e, he, rfl⟩ := List.mem_map.mp ha
  exact ⟨e.2, he⟩
theorem fld_in {o i ci j t : Nat} (h : fldT o i = some (ci, j, t)) : Cond.fieldLink (oName o) i (clT ci j).1 (clT ci j).2.1 (clT ci j).2.2.1 ∈ lw_tbl ∧ ci < 7 ∧ j < fN ci ∧ fTy ci j = t := by
  obtain ⟨a, ha, hp⟩ := find_in h
  have e := key2 hp
  dsimp only at e
  subst e
  obtain ⟨w, hw⟩ := tab_in wFld_fst ha
  have := List.all_eq_true.mp wFld_ok _ hw
  simp only [Bool.and_eq_true, decide_eq_true_eq] at this
  obtain ⟨⟨⟨q1, q2⟩, q3⟩, q4⟩ := this
  exact ⟨List.mem_of_getElem? q1, Nat.blt_eq.mp q2, Nat.blt_eq.mp q3, Nat.eq_of_beq_eq_true q4⟩
theorem cst_in {o i : Nat} {z : Int32} (h : cstT o i = some (.int z)) : Cond.constant (oName o) i z ∈ lw_tbl := by
  obtain ⟨a, ha, hp⟩ := find_in h
  have e := key2 hp
  dsimp only at e
  subst e
  obtain ⟨w, hw⟩ := tab_in wCst_fst ha
  have := List.all_eq_true.mp wCst_ok _ hw
  exact List.mem_of_getElem? (of_decide_eq_true this)
theorem new_in {o i kd n : Nat} (h : newT o i = some (kd, n)) : Cond.classLink (oName o) i (clC (kd - 4)) ∈ lw_tbl ∧ Cond.instantiable (clC (kd - 4)) n ∈ lw_tbl ∧ Cond.initialized (clC (kd - 4)) ∈ lw_tbl ∧ 4 ≤ kd ∧ kd < 11 ∧ fN (kd - 4) = n := by
  obtain ⟨a, ha, hp⟩ := find_in h
  have e := key2 hp
  dsimp only at e
  subst e
  obtain ⟨w, hw⟩ := tab_in wNew_fst ha
  have := List.all_eq_true.mp wNew_ok _ hw
  simp only [Bool.and_eq_true, decide_eq_true_eq] at this
  obtain ⟨⟨⟨⟨⟨q1, q2⟩, q3⟩, q4⟩, q5⟩, q6⟩ := this
  exact ⟨List.mem_of_getElem? q1, List.mem_of_getElem? q2, List.mem_of_getElem? q3, Nat.le_of_ble_eq_true q4, Nat.blt_eq.mp q5, Nat.eq_of_beq_eq_true q6⟩
