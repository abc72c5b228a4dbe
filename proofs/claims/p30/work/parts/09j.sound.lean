/-! an exception caught; THE CLEAN MACHINE'S RUN IS THE MACHINE'S -/
theorem hdl_nil {M pc e : Nat} : hdl M pc e = none := rfl
theorem exN_cle : ∀ (n M pc : Nat) (ls : aL) (st : List Value) (h : aH) (r : aR) (h' : aH), exN n M pc ls st h = some (r, h') → cle h h' ∧ (∀ e, r = .inr e → e < 3)
  | 0, _, _, _, _, _, _, _, q => by simp [exN] at q
  | n + 1, M, pc, ls, st, h, r, h', q => by
    rw [exN] at q
    split at q
    · cases q
    · rename_i i len hd
      split at q
      · cases q
      · rename_i ha
        have h1 := act_cle (ha := ha)
        obtain ⟨h2, h3⟩ := exN_cle n _ _ _ _ _ _ _ q
        exact ⟨cle_trans h1 h2, h3⟩
      · rename_i rh ha
        obtain ⟨r1, h1⟩ := rh
        cases q
        exact act_dcle ha
      · split at q
        · cases q
        · rename_i v h1 hc
          obtain ⟨a1, -⟩ := exN_cle n _ _ _ _ _ _ _ hc
          obtain ⟨a2, a3⟩ := exN_cle n _ _ _ _ _ _ _ q
          exact ⟨cle_trans a1 a2, a3⟩
        · rename_i e h1 hc
          obtain ⟨a1, b1⟩ := exN_cle n _ _ _ _ _ _ _ hc
          split at q
          · split at q
            · obtain ⟨a2, a3⟩ := exN_cle n _ _ _ _ _ _ _ q
              exact ⟨cle_trans a1 a2, a3⟩
            · cases q
          · split at q
            · cases q
              exact ⟨a1, fun e2 z => by cases z; exact b1 e rfl⟩
            · cases q
def FRM (G : aG) (l : Launch) (M pc : Nat) (ls : aL) (st : List Value) (h : aH) (r : aR) (h' : aH) : Prop :=
  ∀ (p : Program) (e : Env) (R : Room) (s : State) (m : MethodId) (args : Array Value) (below : List Frame) (meth : Method) (c : Code) (H : Heap) (locs : List Loc) (cells slots : Nat) (Q : State → Prop) (lss : Array Slot),
    aCtx G M p l R s m args meth c → rep G h H → va_S (fA G) s.heap H locs → loc G ls lss (mMax M) → (h.2.2.2.1 = 0 → s.heap.size + cells ≤ gS G + h.1.2.2.2) → cells + cn h' ≤ R.cells + cn h → slots + us h' ≤ R.slots + us h →
    (∀ (pc2 len2 : Nat) (i2 : Instr) (ls2 : aL) (st2 : List Value) (h2 : aH) (H2 : Heap) (locs2 : List Loc) (cells2 slots2 : Nat) (lss2 : Array Slot), decode (mCode M) pc2 = .ok (i2, len2) → act M pc2 len2 i2 ls2 st2 h2 = dn r h' → rep G h2 H2 → va_S (fA G) s.heap H2 locs2 → loc G ls2 lss2 (mMax M) → cells2 + cn h = cells + cn h2 → slots2 + us h = slots + us h2 → W p l e R s m args below meth c H2 locs2 cells2 slots2 Q (F0 m pc2 lss2 (st2.map (am G)))) →
    (∀ (pc2 e2 : Nat) (rest2 : List Value) (H2 : Heap) (locs2 : List Loc) (cells2 slots2 : Nat) (lss2 : Array Slot) (q : Addr) (ce : Cell), r = .inr e2 → mHh M = [] → rep G h' H2 → va_S (fA G) s.heap H2 locs2 → cells2 + cn h = cells + cn h' → slots2 + us h = slots + us h' → H2[q]? = some ce → ce.vm = .none → s.vm.findClass (exNm e2) = some ce.cls → vx_W p l e R s m args below meth c H2 locs2 cells2 slots2 Q (F0 m pc2 lss2 rest2) q) →
    W p l e R s m args below meth c H locs cells slots Q (F0 m pc lss (st.map (am G)))
theorem fr_1 : ∀ M, M < 115 → 1 ≤ mFr M := fun M h => (met_all M h).2
theorem spr_len (vs : List Value) (G : aG) : (spr vs).length = (lg_sl (vs.map (am G))).length := by
  induction vs with
  | nil => rfl
  | cons v l ih =>
    unfold lg_sl at ih ⊢
    rw [List.map_cons, List.flatMap_cons, List.length_append, ← ih]
    cases v <;> simp [spr, am, Value.category] <;> omega
theorem spr_args (G : aG) : ∀ (vs : List Value) (i k : Nat) (q : Nat × Value), q ∈ asl G i (spr vs ++ List.replicate k none) → q ∈ lv_args i (vs.map (am G))
  | [], i, k, q, h => by
    rw [asl_mem] at h
    obtain ⟨-, v, hv, -⟩ := h
    have : ∀ (k j : Nat), gl (List.replicate k none) j = none := by
      intro k
      induction k with
      | zero => intro j; rfl
      | succ k ih => intro j; cases j with
        | zero => rfl
        | succ j => exact ih j
    rw [show spr [] ++ List.replicate k none = List.replicate k none from rfl, this] at hv
    cases hv
  | v :: vs, i, k, q, h => by
    rw [List.map_cons, lv_args, am_cat]
    have one : ∀ w : Value, w.category = 1 → q ∈ asl G i (some w :: (spr vs ++ List.replicate k none)) → q ∈ (i, am G w) :: lv_args (if w.category = 2 then i + 2 else i + 1) (vs.map (am G)) := by
      intro w hw hq
      rw [hw, if_neg (by omega)]
      rcases List.mem_cons.mp hq with z | z
      · exact List.mem_cons.mpr (Or.inl z)
      · exact List.mem_cons.mpr (Or.inr (spr_args G vs (i + 1) k q z))
    have two : ∀ w : Value, w.category = 2 → q ∈ asl G i (some w :: none :: (spr vs ++ List.replicate k none)) → q ∈ (i, am G w) :: lv_args (if w.category = 2 then i + 2 else i + 1) (vs.map (am G)) := by
      intro w hw hq
      rw [hw, if_pos rfl]
      rcases List.mem_cons.mp hq with z | z
      · exact List.mem_cons.mpr (Or.inl z)
      · exact List.mem_cons.mpr (Or.inr (spr_args G vs (i + 2) k q z))
    cases v with
    | long n => exact two _ rfl h
    | double n => exact two _ rfl h
    | int n => exact one _ rfl h
    | float n => exact one _ rfl h
    | null => exact one _ rfl h
    | ref n => exact one _ rfl h
    | retAddr n => exact one _ rfl h
theorem loc_lay {G : aG} {vs : List Value} {n : Nat} (h : (spr vs).length ≤ n) : loc G (lay n vs) ((lg_sl (vs.map (am G)) ++ List.replicate (n - (lg_sl (vs.map (am G))).length) Slot.unset).toArray) n := by
  have h2 : (lg_sl (vs.map (am G))).length ≤ n := by rw [← spr_len]; exact h
  obtain ⟨a1, a2, a3⟩ := lv_entry (vs.map (am G)) h2
  refine ⟨⟨a1, a2, fun q hq => a3 q (spr_args G vs 0 _ q hq)⟩, ?_⟩
  unfold lay
  rw [List.length_append, List.length_replicate]
  omega
