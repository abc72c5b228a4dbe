/-! an exception caught; THE CLEAN MACHINE'S RUN IS THE MACHINE'S -/
def ctE (e : Nat) : Nat := [13, 15, 17].getD e 0
/-- a handler's row: behind such as take other exceptions; its code stores the reference -/
def hdP (M pc e k t : Nat) : Bool := match (mHh M).dropWhile (fun z => !Nat.beq z.2.2.2 (ctE e)) with
  | [] => false
  | z :: _ => decide (z.1 ≤ pc) && decide (pc < z.2.1) && Nat.beq z.2.2.2 (ctE e) && decide (e < 3) && decide (mO M = 9) && (match decode (mCode M) z.2.2.1 with
    | .ok (.astore j, 2) => Nat.beq j k && Nat.beq (z.2.2.1 + 2) t
    | .ok (.astore_n j, 1) => Nat.beq j.val k && Nat.beq (z.2.2.1 + 1) t
    | _ => false)
def hdQ (M e : Nat) : Bool := ((mHh M).takeWhile (fun z => !Nat.beq z.2.2.2 (ctE e))).all (fun z => (List.range 3).any (fun e' => Nat.beq z.2.2.2 (ctE e') && !Nat.beq e' e))
theorem hdl_ok : hdlL.all (fun q => hdP q.1.1 q.1.2.1 q.1.2.2 q.2.1 q.2.2 && hdQ q.1.1 q.1.2.2) = true := by decide +kernel
theorem hdl_in {M pc e k t : Nat} (h : hdl M pc e = some (k, t)) : hdP M pc e k t = true ∧ hdQ M e = true := by
  obtain ⟨a, ha, hp⟩ := find_in h
  obtain ⟨h1, h3⟩ := Bool.and_eq_true_iff.mp hp
  obtain ⟨h1, h2⟩ := Bool.and_eq_true_iff.mp h1
  have := List.all_eq_true.mp hdl_ok _ ha
  dsimp only at h1 h2 h3 this
  rw [Nat.eq_of_beq_eq_true h1, Nat.eq_of_beq_eq_true h2, Nat.eq_of_beq_eq_true h3] at this
  exact Bool.and_eq_true_iff.mp this
theorem hd_w : ∀ e, e < 3 → Cond.classLink RL (ctE e) (exNm e) ∈ lw_tbl ∧ Cond.castable (exNm e) (exNm e) ∈ lw_tbl ∧ ctE e ≠ 0 := by decide +kernel
theorem skp_gl {ls l' : aL} {k : Nat} (h : skp ls k = some l') : l'.length = ls.length ∧ k < ls.length ∧ ∀ j, gl l' j = if j = k then none else if j + 1 = k then kp (gl ls j) else gl ls j := by
  unfold skp at h
  cases hs : sl1 ls k .null with
  | none => rw [hs] at h; cases h
  | some l1 =>
    rw [hs] at h
    cases h
    obtain ⟨e1, e2, e3⟩ := sl1_gl ls k .null l1 hs
    have gs : ∀ (l : aL) (k j : Nat), gl (l.set k none) j = if j = k then none else gl l j := by
      intro l
      induction l with
      | nil => intro k j; simp [gl]
      | cons a l ih =>
        intro k j
        cases k with
        | zero =>
          cases j with
          | zero => simp [gl]
          | succ j => simp [gl]
        | succ k =>
          cases j with
          | zero => simp [gl]
          | succ j =>
            rw [List.set_cons_succ]
            show gl (l.set k none) j = _
            rw [ih k j]
            by_cases q : j = k
            · rw [if_pos q, if_pos (congrArg (· + 1) q)]
            · rw [if_neg q, if_neg (by omega)]; rfl
    refine ⟨by rw [List.length_set]; exact e1, e2, fun j => ?_⟩
    rw [gs, e3]
    by_cases q : j = k
    · rw [if_pos q, if_pos q]
    · rw [if_neg q, if_neg q, if_neg q]
section StS
variable {p : Program} {l : Launch} {e : Env} {R : Room} {s : State} {m : MethodId} {args : Array Value} {below : List Frame} {meth : Method} {c : Code} {H : Heap} {locs : List Loc} {cells slots : Nat} {Q : State → Prop}
variable {G : aG} {M pc len pc' : Nat} {i : Instr} {ls ls' : aL} {st st' : List Value} {h h' : aH} {lss : Array Slot}
theorem loc_skp {k : Nat} {nL q : Nat} (hl : loc G ls lss nL) (hs : skp ls k = some ls') : k < nL ∧ ∀ lss' : Array Slot, lv_has lss' nL ((k, .ref q) :: (asl G 0 ls).filter (fun z => !(z.1 == k) && !(z.1 + 1 == k && z.2.category == 2))) → loc G ls' lss' nL := by
  obtain ⟨e1, e2, e3⟩ := skp_gl hs
  refine ⟨hl.2 ▸ e2, fun lss' hq => ⟨⟨hq.1, hq.2.1, fun z hz => hq.2.2 z ?_⟩, e1.trans hl.2⟩⟩
  obtain ⟨-, w, hw, hv⟩ := (asl_mem ls' 0 z).mp hz
  rw [Nat.sub_zero, e3] at hw
  by_cases a1 : z.1 = k
  · rw [if_pos a1] at hw; cases hw
  · rw [if_neg a1] at hw
    refine List.mem_cons.mpr (Or.inr (List.mem_filter.mpr ?_))
    by_cases a2 : z.1 + 1 = k
    · rw [if_pos a2] at hw
      obtain ⟨f1, f2⟩ := kp_cat hw
      refine ⟨(asl_mem ls 0 z).mpr ⟨Nat.zero_le _, w, by rw [Nat.sub_zero]; exact f1, hv⟩, ?_⟩
      rw [hv, am_cat]
      simp [a1, f2]
    · rw [if_neg a2] at hw
      refine ⟨(asl_mem ls 0 z).mpr ⟨Nat.zero_le _, w, by rw [Nat.sub_zero]; exact hw, hv⟩, ?_⟩
      simp [a1, a2]
theorem h_catch {e2 k t : Nat} {q : Addr} {ce : Cell} {rest : List Value} (hC : aCtx G M p l R s m args meth c) (hl : loc G ls lss (mMax M)) (hh : hdl M pc e2 = some (k, t)) (hs : skp ls k = some ls') (hcell : H[q]? = some ce) (hv : ce.vm = .none) (hcl : s.vm.findClass (exNm e2) = some ce.cls)
    (kk : ∀ lss' : Array Slot, loc G ls' lss' (mMax M) → W p l e R s m args below meth c H locs cells slots Q (F0 m t lss' [])) : vx_W p l e R s m args below meth c H locs cells slots Q (F0 m pc lss rest) q := by
  obtain ⟨hx, hb, hml, hown, hts, hg, -, -, -, -, -, htb, -⟩ := hC
  obtain ⟨hP, hQ⟩ := hdl_in hh
  have hsplit : (mHh M).takeWhile (fun z => !Nat.beq z.2.2.2 (ctE e2)) ++ (mHh M).dropWhile (fun z => !Nat.beq z.2.2.2 (ctE e2)) = mHh M := List.takeWhile_append_dropWhile
  unfold hdP at hP
  cases hdw : (mHh M).dropWhile (fun z => !Nat.beq z.2.2.2 (ctE e2)) with
  | nil => rw [hdw] at hP; cases hP
  | cons z zs =>
    rw [hdw] at hP hsplit
    dsimp only at hP
    obtain ⟨hP, h6⟩ := Bool.and_eq_true_iff.mp hP
    obtain ⟨hP, h5⟩ := Bool.and_eq_true_iff.mp hP
    obtain ⟨hP, h4⟩ := Bool.and_eq_true_iff.mp hP
    obtain ⟨hP, h3⟩ := Bool.and_eq_true_iff.mp hP
    obtain ⟨h1, h2⟩ := Bool.and_eq_true_iff.mp hP
    have h1 := of_decide_eq_true h1
    have h2 := of_decide_eq_true h2
    have h3 := Nat.eq_of_beq_eq_true h3
    have h4 := of_decide_eq_true h4
    have h5 := of_decide_eq_true h5
    obtain ⟨w1, w2, w3⟩ := hd_w e2 h4
    rw [h5] at hown
    have hne : mHh M ≠ [] := by
      intro z
      rw [z] at hdw
      cases hdw
    have htb := htb (Or.inl hne)
    have htb2 : c.exceptionTable.toList = tableOf ((mHh M).takeWhile (fun z => !Nat.beq z.2.2.2 (ctE e2))) ++ ⟨z.1, z.2.1, z.2.2.1, z.2.2.2⟩ :: tableOf zs := by
      rw [htb, ← hsplit]
      simp only [tableOf, List.map_append, List.map_cons]
      rw [hsplit]
    refine vx_catch (own := RL) (name := exNm e2) hown _ ⟨z.1, z.2.1, z.2.2.1, z.2.2.2⟩ _ htb2 ?_ ?_ ?_ ?_ (hts _ w2 rfl) hcell hv hcl ?_
    · intro y hy
      obtain ⟨y0, hy0, rfl⟩ := List.mem_map.mp hy
      obtain ⟨e', he', hb'⟩ := List.any_eq_true.mp (List.all_eq_true.mp hQ y0 hy0)
      obtain ⟨g1, g2⟩ := Bool.and_eq_true_iff.mp hb'
      have g1 := Nat.eq_of_beq_eq_true g1
      have g3 : e' < 3 := List.mem_range.mp he'
      obtain ⟨v1, -, v3⟩ := hd_w e' g3
      refine Or.inr ⟨by show y0.2.2.2 ≠ 0; rw [g1]; exact v3, exNm e', by show (Cond.classLink RL y0.2.2.2 (exNm e')).before args s = true; rw [g1]; exact hts _ v1 rfl, hg.2.2.2.2.2.2.2.2 e2 e' h4 g3 fun q => ?_⟩
      rw [← q] at g2
      have : Nat.beq e2 e2 = true := Nat.beq_refl e2
      rw [this] at g2
      cases g2
    · simp [covers, h1, h2]
    · show z.2.2.2 ≠ 0
      rw [h3]; exact w3
    · show (Cond.classLink RL z.2.2.2 (exNm e2)).before args s = true
      rw [h3]
      exact hts _ w1 rfl
    · split at h6
      · rename_i j hdec
        obtain ⟨g1, g2⟩ := Bool.and_eq_true_iff.mp h6
        have g1 := Nat.eq_of_beq_eq_true g1
        have g2 := Nat.eq_of_beq_eq_true g2
        subst g1
        obtain ⟨hk, hst⟩ := loc_skp (q := q) hl hs
        exact lv_astore hx hb hdec hl.1 hk rfl (fun lss' hl' => by rw [g2]; exact kk lss' (hst lss' hl'))
      · rename_i j hdec
        obtain ⟨g1, g2⟩ := Bool.and_eq_true_iff.mp h6
        have g1 := Nat.eq_of_beq_eq_true g1
        have g2 := Nat.eq_of_beq_eq_true g2
        subst g1
        obtain ⟨hk, hst⟩ := loc_skp (q := q) hl hs
        exact lv_astore_n hx hb hdec rfl hl.1 hk rfl (fun lss' hl' => by rw [g2]; exact kk lss' (hst lss' hl'))
      · cases h6
end StS
theorem exN_cle : ∀ (n M pc : Nat) (ls : aL) (st : List Value) (h : aH) (r : aR) (h' : aH), exN n M pc ls st h = some (r, h') → cle h h' ∧ (∀ e, r = .inr e → e < 3)
  | 0, _, _, _, _, _, _, _, q => by simp [exN] at q
  | n + 1, M, pc, ls, st, h, r, h', q => by
    rw [exN] at q
    split at q
    · cases q
    · rename_i i len hd
      split at q
      · cases q
      · rename_i ha
        have h1 := act_cle (ha := ha)
        obtain ⟨h2, h3⟩ := exN_cle n _ _ _ _ _ _ _ q
        exact ⟨cle_trans h1 h2, h3⟩
      · rename_i rh ha
        obtain ⟨r1, h1⟩ := rh
        cases q
        exact act_dcle ha
      · split at q
        · cases q
        · rename_i v h1 hc
          obtain ⟨a1, -⟩ := exN_cle n _ _ _ _ _ _ _ hc
          obtain ⟨a2, a3⟩ := exN_cle n _ _ _ _ _ _ _ q
          exact ⟨cle_trans a1 a2, a3⟩
        · rename_i e h1 hc
          obtain ⟨a1, b1⟩ := exN_cle n _ _ _ _ _ _ _ hc
          split at q
          · split at q
            · obtain ⟨a2, a3⟩ := exN_cle n _ _ _ _ _ _ _ q
              exact ⟨cle_trans a1 a2, a3⟩
            · cases q
          · split at q
            · cases q
              exact ⟨a1, fun e2 z => by cases z; exact b1 e rfl⟩
            · cases q
def FRM (G : aG) (l : Launch) (M pc : Nat) (ls : aL) (st : List Value) (h : aH) (r : aR) (h' : aH) : Prop :=
  ∀ (p : Program) (e : Env) (R : Room) (s : State) (m : MethodId) (args : Array Value) (below : List Frame) (meth : Method) (c : Code) (H : Heap) (locs : List Loc) (cells slots : Nat) (Q : State → Prop) (lss : Array Slot),
    aCtx G M p l R s m args meth c → rep G h H → va_S (fA G) s.heap H locs → loc G ls lss (mMax M) → (h.2.2.2.1 = 0 → s.heap.size + cells ≤ gS G + h.1.2.2.2) → cells + cn h' ≤ R.cells + cn h → slots + us h' ≤ R.slots + us h →
    (∀ (pc2 len2 : Nat) (i2 : Instr) (ls2 : aL) (st2 : List Value) (h2 : aH) (H2 : Heap) (locs2 : List Loc) (cells2 slots2 : Nat) (lss2 : Array Slot), decode (mCode M) pc2 = .ok (i2, len2) → act M pc2 len2 i2 ls2 st2 h2 = dn r h' → rep G h2 H2 → va_S (fA G) s.heap H2 locs2 → loc G ls2 lss2 (mMax M) → cells2 + cn h = cells + cn h2 → slots2 + us h = slots + us h2 → W p l e R s m args below meth c H2 locs2 cells2 slots2 Q (F0 m pc2 lss2 (st2.map (am G)))) →
    (∀ (pc2 e2 : Nat) (rest2 : List Value) (H2 : Heap) (locs2 : List Loc) (cells2 slots2 : Nat) (lss2 : Array Slot) (q : Addr) (ce : Cell), r = .inr e2 → mHh M = [] → rep G h' H2 → va_S (fA G) s.heap H2 locs2 → cells2 + cn h = cells + cn h' → slots2 + us h = slots + us h' → H2[q]? = some ce → ce.vm = .none → s.vm.findClass (exNm e2) = some ce.cls → vx_W p l e R s m args below meth c H2 locs2 cells2 slots2 Q (F0 m pc2 lss2 rest2) q) →
    W p l e R s m args below meth c H locs cells slots Q (F0 m pc lss (st.map (am G)))
theorem fr_1 : ∀ M, M < 211 → 1 ≤ mFr M := fun M h => (met_all M h).2
theorem spr_len (vs : List Value) (G : aG) : (spr vs).length = (lg_sl (vs.map (am G))).length := by
  induction vs with
  | nil => rfl
  | cons v l ih =>
    unfold lg_sl at ih ⊢
    rw [List.map_cons, List.flatMap_cons, List.length_append, ← ih]
    cases v <;> simp [spr, am, Value.category] <;> omega
theorem spr_args (G : aG) : ∀ (vs : List Value) (i k : Nat) (q : Nat × Value), q ∈ asl G i (spr vs ++ List.replicate k none) → q ∈ lv_args i (vs.map (am G))
  | [], i, k, q, h => by
    rw [asl_mem] at h
    obtain ⟨-, v, hv, -⟩ := h
    have : ∀ (k j : Nat), gl (List.replicate k none) j = none := by
      intro k
      induction k with
      | zero => intro j; rfl
      | succ k ih => intro j; cases j with
        | zero => rfl
        | succ j => exact ih j
    rw [show spr [] ++ List.replicate k none = List.replicate k none from rfl, this] at hv
    cases hv
  | v :: vs, i, k, q, h => by
    rw [List.map_cons, lv_args, am_cat]
    have one : ∀ w : Value, w.category = 1 → q ∈ asl G i (some w :: (spr vs ++ List.replicate k none)) → q ∈ (i, am G w) :: lv_args (if w.category = 2 then i + 2 else i + 1) (vs.map (am G)) := by
      intro w hw hq
      rw [hw, if_neg (by omega)]
      rcases List.mem_cons.mp hq with z | z
      · exact List.mem_cons.mpr (Or.inl z)
      · exact List.mem_cons.mpr (Or.inr (spr_args G vs (i + 1) k q z))
    have two : ∀ w : Value, w.category = 2 → q ∈ asl G i (some w :: none :: (spr vs ++ List.replicate k none)) → q ∈ (i, am G w) :: lv_args (if w.category = 2 then i + 2 else i + 1) (vs.map (am G)) := by
      intro w hw hq
      rw [hw, if_pos rfl]
      rcases List.mem_cons.mp hq with z | z
      · exact List.mem_cons.mpr (Or.inl z)
      · exact List.mem_cons.mpr (Or.inr (spr_args G vs (i + 2) k q z))
    cases v with
    | long n => exact two _ rfl h
    | double n => exact two _ rfl h
    | int n => exact one _ rfl h
    | float n => exact one _ rfl h
    | null => exact one _ rfl h
    | ref n => exact one _ rfl h
    | retAddr n => exact one _ rfl h
theorem loc_lay {G : aG} {vs : List Value} {n : Nat} (h : (spr vs).length ≤ n) : loc G (lay n vs) ((lg_sl (vs.map (am G)) ++ List.replicate (n - (lg_sl (vs.map (am G))).length) Slot.unset).toArray) n := by
  have h2 : (lg_sl (vs.map (am G))).length ≤ n := by rw [← spr_len]; exact h
  obtain ⟨a1, a2, a3⟩ := lv_entry (vs.map (am G)) h2
  refine ⟨⟨a1, a2, fun q hq => a3 q (spr_args G vs 0 _ q hq)⟩, ?_⟩
  unfold lay
  rw [List.length_append, List.length_replicate]
  omega
