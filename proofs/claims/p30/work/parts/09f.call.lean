/-! calls: what the clean machine says of a method, as a contract -/
def wsM (M : Nat) : List Cond := cdW M :: lw_tbl.filter kw
def rmM (M mc ms : Nat) : Room := { frames := mFr M, cells := mc, slots := ms, locals := mLo M }
def aPc (G : aG) (vs : List Value) (h : aH) : Array Value → State → Prop := fun v U => v = (vs.map (am G)).toArray ∧ aGl G U ∧ rep G h U.heap ∧ (h.2.2.2.1 = 0 → U.heap.size ≤ gS G + h.1.2.2.2)
def aKe (G : aG) (st t : State) : Prop := st.heap.size ≤ t.heap.size ∧ ∀ q : Nat, q < st.heap.size → ¬ fA G q → t.heap[q]? = st.heap[q]?
def aQc (G : aG) (r : aR) (h' : aH) : Array Value → State → Outcome → State → Prop := fun _ st o t => ∃ v, r = .inl v ∧ o = .returned (v.map (am G)) ∧ rep G h' t.heap ∧ aKe G st t
def aXC (G : aG) (r : aR) (h' : aH) : String → State → State → Prop := fun E st t => ∃ e, r = .inr e ∧ E = exNm e ∧ rep G h' t.heap ∧ aKe G st t
def aMet (G : aG) (l : Launch) (M : Nat) (vs : List Value) (h : aH) (r : aR) (h' : aH) : Prop :=
  vx_Met l (mY M) (wsM M) (rmM M (cn h' - cn h) (us h' - us h)) (aPc G vs h) (aQc G r h') (aXC G r h') (cn h' - cn h) (us h' - us h) (fA G)
theorem cdW_kw (M : Nat) : kw (cdW M) = true := by
  unfold cdW
  split <;> rfl
theorem wsM_in {M : Nat} (hM : M < 115) : ∀ w ∈ wsM M, w ∈ lw_tbl ∧ kw w = true := by
  intro w hw
  rcases List.mem_cons.mp hw with rfl | hw
  · exact ⟨cw_all M hM, cdW_kw M⟩
  · exact List.mem_filter.mp hw
theorem met_all : ∀ M, M < 115 → wMetX.any (fun q => Nat.beq q.1 M) = true ∧ 1 ≤ mFr M := by decide +kernel
theorem met_in {M : Nat} (hM : M < 115) : Cond.initialized (mY M).cls ∈ lw_tbl ∧ (mY M).cls = oName (mO M) ∧ ((mY M).cls ≠ "java/lang/invoke/MethodHandle" ∧ (mY M).cls ≠ "java/lang/invoke/VarHandle") ∧ plainName (mY M).cls = true := by
  obtain ⟨e, he, hq⟩ := List.any_eq_true.mp (met_all M hM).1
  have := List.all_eq_true.mp wMet_ok e he
  rw [Nat.eq_of_beq_eq_true hq] at this
  simp only [Bool.and_eq_true, decide_eq_true_eq] at this
  obtain ⟨⟨⟨⟨⟨q1, q2⟩, q3⟩, q4⟩, q5⟩, q6⟩ := this
  exact ⟨List.mem_of_getElem? q1, q3, ⟨q4, q5⟩, q6⟩
theorem met_kind {M f : Nat} (h : wMetX.any (fun q => Nat.beq q.1 M && Nat.beq q.2.1 f) = true) : M < 115 ∧ (f = 1 → Cond.static (mY M) ∈ lw_tbl) ∧ (f = 0 → Cond.instanceMethod (mY M) ∈ lw_tbl) := by
  obtain ⟨e, he, hq⟩ := List.any_eq_true.mp h
  obtain ⟨q1, q2⟩ := Bool.and_eq_true_iff.mp hq
  have q1 := Nat.eq_of_beq_eq_true q1
  have q2 := Nat.eq_of_beq_eq_true q2
  have hlt := (show ∀ q ∈ wMetX, q.1 < 115 by decide +kernel) e he
  have := List.all_eq_true.mp wMet_ok e he
  subst q1
  subst q2
  refine ⟨hlt, fun hf => ?_, fun hf => ?_⟩
  · rw [hf] at this
    simp only [Bool.and_eq_true, decide_eq_true_eq] at this
    obtain ⟨⟨⟨⟨⟨-, q2⟩, -⟩, -⟩, -⟩, -⟩ := this
    exact List.mem_of_getElem? q2
  · rw [hf] at this
    simp only [Bool.and_eq_true, decide_eq_true_eq] at this
    obtain ⟨⟨⟨⟨⟨-, q2⟩, -⟩, -⟩, -⟩, -⟩ := this
    exact List.mem_of_getElem? q2
theorem cs_in {o k M' n : Nat} (h : calS o k = some (M', n)) : M' < 115 ∧ (Cond.methodLink (oName o) k (mY M') ∈ lw_tbl ∨ (Cond.methodLinkNest (oName o) k (mY M') "ModuleYard" ∈ lw_tbl ∧ mHh M' = [])) ∧ (parseMethodDescriptor (mY M').desc).map (fun d => d.parameters.length) = some n ∧ Cond.static (mY M') ∈ lw_tbl := by
  obtain ⟨a, ha, hp⟩ := find_in h
  have eo := key2 hp
  dsimp only at eo
  subst eo
  obtain ⟨w, hw⟩ := tab_in wCs_fst ha
  have := List.all_eq_true.mp wCs_ok _ hw
  simp only [Bool.and_eq_true] at this
  obtain ⟨⟨⟨q1, q2⟩, q3⟩, q4⟩ := this
  obtain ⟨k1, k2, -⟩ := met_kind q3
  refine ⟨k1, ?_, of_decide_eq_true q2, k2 rfl⟩
  split at q1
  · exact Or.inl (List.mem_of_getElem? (of_decide_eq_true q1))
  · rename_i hn
    refine Or.inr ⟨List.mem_of_getElem? (of_decide_eq_true q1), ?_⟩
    rcases Bool.or_eq_true_iff.mp q4 with z | z
    · exact absurd (Nat.eq_of_beq_eq_true z) hn
    · simpa using z
theorem cv_in {o k M' n : Nat} (h : calV o k = some (M', n)) : M' < 115 ∧ Cond.methodLink (oName o) k (mY M') ∈ lw_tbl ∧ (parseMethodDescriptor (mY M').desc).map (fun d => d.parameters.length) = some n ∧ Cond.instanceMethod (mY M') ∈ lw_tbl ∧ Cond.selects (mY M').cls (mY M') (mY M') ∈ lw_tbl ∧ (∃ ci, oKd (mO M') = 4 + ci ∧ ci < 7 ∧ vwCl[ci]?.map (fun q => q.1) = some (mY M').cls) ∧ mHh M' = [] := by
  obtain ⟨a, ha, hp⟩ := find_in h
  have eo := key2 hp
  dsimp only at eo
  subst eo
  obtain ⟨w, hw⟩ := tab_in wCv_fst ha
  have := List.all_eq_true.mp wCv_ok _ hw
  simp only [Bool.and_eq_true] at this
  obtain ⟨⟨⟨⟨⟨⟨⟨⟨⟨q1, q2⟩, q3⟩, q4⟩, q5⟩, q6⟩, q7⟩, q8⟩, q9⟩, q10⟩ := this
  obtain ⟨k1, -, k2⟩ := met_kind q3
  rw [Nat.eq_of_beq_eq_true q5] at q1
  have h8 := Nat.le_of_ble_eq_true q8
  have h9 := Nat.le_of_ble_eq_true q9
  exact ⟨k1, List.mem_of_getElem? (of_decide_eq_true q1), of_decide_eq_true q2, k2 rfl, List.mem_of_getElem? (of_decide_eq_true q6), ⟨oKd (mO M') - 4, by omega, by omega, of_decide_eq_true q7⟩, by simpa using q10⟩
theorem ci_in {o k M' n : Nat} (h : calI o k = some (M', n)) : M' < 115 ∧ (Cond.methodLink (oName o) k (mY M') ∈ lw_tbl ∨ Cond.methodLinkNest (oName o) k (mY M') "ModuleYard" ∈ lw_tbl) ∧ (parseMethodDescriptor (mY M').desc).map (fun d => d.parameters.length) = some n ∧ Cond.instanceMethod (mY M') ∈ lw_tbl ∧ (mY M').name = "<init>" ∧ mHh M' = [] ∧ mRet M' = none := by
  obtain ⟨a, ha, hp⟩ := find_in h
  have eo := key2 hp
  dsimp only at eo
  subst eo
  obtain ⟨w, hw⟩ := tab_in wCi_fst ha
  have := List.all_eq_true.mp wCi_ok _ hw
  simp only [Bool.and_eq_true] at this
  obtain ⟨⟨⟨⟨⟨⟨⟨q1, q2⟩, q3⟩, q4⟩, q5⟩, q6⟩, q7⟩, q8⟩ := this
  obtain ⟨k1, -, k2⟩ := met_kind q3
  refine ⟨k1, ?_, of_decide_eq_true q2, k2 rfl, of_decide_eq_true q4, by simpa using q5, of_decide_eq_true q6⟩
  split at q1
  · exact Or.inl (List.mem_of_getElem? (of_decide_eq_true q1))
  · exact Or.inr (List.mem_of_getElem? (of_decide_eq_true q1))
-- counts never fall
theorem aprm_c {k pc : Nat} {ls : aL} {st : List Value} {h h' : aH} {pc' : Nat} {ls' : aL} {st' : List Value} (ha : aprm k pc ls st h = nx pc' ls' st' h') : h'.1 = h.1 ∧ h'.2.2.2 = h.2.2.2 := by
  unfold aprm at ha
  split at ha
  · obtain ⟨-, -, -, -, rfl⟩ := gd_nx ha; exact ⟨rfl, rfl⟩
  · obtain ⟨-, -, -, -, rfl⟩ := gd_nx ha; exact ⟨rfl, rfl⟩
  · have hz := gd_br ha
    clear ha
    obtain ⟨-, ha⟩ := hz
    split at ha
    · obtain ⟨-, -, -, rfl⟩ := nx_nx ha; exact ⟨rfl, rfl⟩
    · simp [nx] at ha
  · obtain ⟨-, -, -, -, rfl⟩ := gd_nx ha; exact ⟨rfl, rfl⟩
  · simp [nx] at ha
def cle (h h' : aH) : Prop := h.2.2.2.1 ≤ h'.2.2.2.1 ∧ h.1.2.2.2 ≤ h'.1.2.2.2 ∧ us h ≤ us h'
theorem cle_rfl {h : aH} : cle h h := ⟨Nat.le_refl _, Nat.le_refl _, Nat.le_refl _⟩
theorem cle_of {h h' : aH} (e1 : h'.1.2.2.2 = h.1.2.2.2) (e2 : h'.2.2.2 = h.2.2.2) : cle h h' := ⟨by rw [e2]; exact Nat.le_refl _, by rw [e1]; exact Nat.le_refl _, by unfold us; rw [e2]; exact Nat.le_refl _⟩
theorem cle_mk {h : aH} {k n u : Nat} : cle h (mkH h k n u) := ⟨Nat.le_refl _, Nat.le_succ _, Nat.le_add_right _ _⟩
theorem cle_bmp {h : aH} : cle h (bmp h) := ⟨Nat.le_succ _, Nat.le_refl _, Nat.le_add_right _ _⟩
theorem cle_trans {a b d : aH} (h1 : cle a b) (h2 : cle b d) : cle a d := ⟨Nat.le_trans h1.1 h2.1, Nat.le_trans h1.2.1 h2.2.1, Nat.le_trans h1.2.2 h2.2.2⟩
theorem cle_cn {a b : aH} (h : cle a b) : cn a ≤ cn b := by
  unfold cn
  have := h.1
  have := h.2.1
  omega
theorem gd_no {b : Bool} {pc' : Nat} {ls' : aL} {st' : List Value} {h' : aH} (q : gd b none = nx pc' ls' st' h') : False := by
  cases b <;> simp [gd, nx] at q
theorem act_c1 {k pc : Nat} {ls : aL} {st : List Value} {h h' : aH} {pc' : Nat} {ls' : aL} {st' : List Value} (ha : aprm k pc ls st h = nx pc' ls' st' h') : cle h h' := by
  obtain ⟨e1, e2⟩ := aprm_c ha
  exact cle_of (by rw [e1]) e2
theorem act_c2 {h h' : aH} (e : h = h') : cle h h' := e ▸ cle_rfl
theorem act_c3 {h h' : aH} {k n u : Nat} (e : mkH h k n u = h') : cle h h' := e ▸ cle_mk
theorem act_c4 {h h1 h' : aH} (e : h1 = h') (e1 : h1.1.2.2.2 = h.1.2.2.2) (e2 : h1.2.2.2 = h.2.2.2) : cle h h' := e ▸ cle_of e1 e2
theorem act_cle {M pc len : Nat} {i : Instr} {ls : aL} {st : List Value} {h h' : aH} {pc' : Nat} {ls' : aL} {st' : List Value} (ha : act M pc len i ls st h = nx pc' ls' st' h') : cle h h' := by
  cases i <;> simp only [act] at ha
  all_goals
    (repeat' split at ha) <;>
    first
    | (simp [nx] at ha; done)
    | exact (gd_no ha).elim
    | exact (call_no ha).elim
    | exact (dn_no ha).elim
    | exact act_c1 (gd_br ha).2
    | exact act_c2 (gd_nx ha).2.2.2.2
    | exact act_c3 (gd_nx ha).2.2.2.2
    | exact act_c4 (gd_nx ha).2.2.2.2 rfl rfl
theorem act_dcle {M pc len : Nat} {i : Instr} {ls : aL} {st : List Value} {h h' : aH} {r : aR} (ha : act M pc len i ls st h = dn r h') : cle h h' ∧ (∀ e, r = .inr e → e < 3) := by
  have no : ∀ {b : Bool} {o : aO}, gd b o = dn r h' → b = true ∧ o = dn r h' := by
    intro b o q
    cases b
    · simp [gd, dn] at q
    · exact ⟨rfl, q⟩
  have dd : ∀ {r2 : aR} {h2 : aH}, dn r2 h2 = dn r h' → r2 = r ∧ h2 = h' := by
    intro r2 h2 q
    simp only [dn, Option.some.injEq, Sum.inr.injEq, Sum.inl.injEq, Prod.mk.injEq] at q
    exact q
  cases i <;> simp only [act] at ha
  case ireturn =>
    split at ha
    · obtain ⟨rfl, rfl⟩ := dd (no ha).2
      exact ⟨cle_rfl, fun e q => by cases q⟩
    · simp [dn] at ha
  case lreturn =>
    split at ha
    · obtain ⟨rfl, rfl⟩ := dd (no ha).2
      exact ⟨cle_rfl, fun e q => by cases q⟩
    · simp [dn] at ha
  case dreturn =>
    split at ha
    · obtain ⟨rfl, rfl⟩ := dd (no ha).2
      exact ⟨cle_rfl, fun e q => by cases q⟩
    · simp [dn] at ha
  case return_ =>
    split at ha
    · obtain ⟨rfl, rfl⟩ := dd (no ha).2
      exact ⟨cle_rfl, fun e q => by cases q⟩
    · simp [dn] at ha
  case new k =>
    split at ha
    · rename_i e he
      obtain ⟨rfl, rfl⟩ := dd (no ha).2
      refine ⟨cle_bmp, fun e2 q => ?_⟩
      cases q
      obtain ⟨a, h1, -⟩ := find_in he
      exact (show ∀ z ∈ thrL, z.2 < 3 by decide +kernel) _ h1
    · split at ha
      · have hz := (no ha).2
        split at hz
        · simp [nx, dn] at hz
        · simp [dn] at hz
      · simp [dn] at ha
  all_goals
    exfalso
    (repeat' split at ha) <;>
    first
    | (simp [dn] at ha; done)
    | (simp [gd, nx, cl, dn] at ha; done)
    | (have hz := (no ha).2; simp [nx, cl, dn] at hz; done)
    | (have hz := (no ha).2; unfold aprm at hz; (repeat' split at hz) <;> (first | (simp [dn] at hz; done) | (have hy := (no hz).2; simp [nx, dn] at hy; done)))
