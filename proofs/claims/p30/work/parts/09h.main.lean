/-! a call by an interface; then: what the clean machine says, the machine does -/
def xF (k : Nat) : MethodName := if k = 19 then ⟨RX4, "restart", "()V"⟩ else if k = 24 then ⟨RX4, "accepts", "(I)Z"⟩ else ⟨RX4, "isAtEnd", "()Z"⟩
abbrev cfW (o k M n ci : Nat) : Prop := M < 115 ∧ Cond.methodLink (oName o) k (xF k) ∈ lw_tbl ∧ Cond.declares (xF k) ∈ lw_tbl ∧ Cond.interfaceMethod (xF k).cls (xF k).cls (xF k).name (xF k).desc ∈ lw_tbl ∧ Cond.selects (clC ci) (xF k) (mY M) ∈ lw_tbl ∧ Cond.instanceMethod (mY M) ∈ lw_tbl ∧ Cond.publicMethod (mY M) ∈ lw_tbl ∧ Cond.unhidden (clC ci) (xF k).name (xF k).desc ∈ lw_tbl ∧ Cond.castable (clC ci) (xF k).cls ∈ lw_tbl ∧ ((xF k).cls ≠ "java/lang/invoke/MethodHandle" ∧ (xF k).cls ≠ "java/lang/invoke/VarHandle") ∧ (parseMethodDescriptor (xF k).desc).map (fun d => d.parameters.length) = some n ∧ (mHh M).isEmpty = true
theorem cf_all : ∀ e ∈ calFL, cfW e.1.1 e.1.2 e.2.1 e.2.2.2 0 ∧ cfW e.1.1 e.1.2 e.2.2.1 e.2.2.2 4 := by decide +kernel
theorem cf_in {o k M0 M1 n : Nat} (h : calF o k = some (M0, M1, n)) : cfW o k M0 n 0 ∧ cfW o k M1 n 4 := by
  obtain ⟨a, ha, hp⟩ := find_in h
  have eo := key2 hp
  dsimp only at eo
  subst eo
  exact cf_all _ ha
theorem cf_kw (x : MethodName) (C : String) : kw (.declares x) = true ∧ kw (.publicMethod x) = true ∧ kw (.unhidden C x.name x.desc) = true ∧ kw (.castable C x.cls) = true := ⟨rfl, rfl, rfl, rfl⟩
section StF
variable {p : Program} {l : Launch} {e : Env} {R : Room} {s : State} {m : MethodId} {args : Array Value} {below : List Frame} {meth : Method} {c : Code} {H : Heap} {locs : List Loc} {cells slots : Nat} {Q : State → Prop}
variable {G : aG} {M pc len pc' : Nat} {i : Instr} {ls ls' : aL} {st st' : List Value} {h h' : aH} {lss : Array Slot}
theorem h_callF {k k2 M' n a ci : Nat} {vs rest : List Value} {r1 : aR} {h1 : aH} (hC : aCtx G M p l R s m args meth c) (r : rep G h H) (hS : va_S (fA G) s.heap H locs) (hl : loc G ls lss (mMax M)) (hsz : h.2.2.2.1 = 0 → s.heap.size + cells ≤ gS G + h.1.2.2.2)
    (hf : cfW (mO M) k M' n ci) (hci : ci < 7) (hok : okc M M' = true) (hn : vs.length = n) (hcs : cs rest ≤ 8) (hd : decode (mCode M) pc = .ok (.invokeinterface k k2, 5)) (hk : h.1.1 a = 4 + ci) (hT : aMet G l M' (.ref a :: vs) h r1 h1) (hcr : cells + (cn h1 - cn h) ≤ R.cells) (hsr : slots + (us h1 - us h) ≤ R.slots)
    (kR : ∀ (v : Option Value) (H1 : Heap) (locs1 : List Loc), r1 = .inl v → rep G h1 H1 → va_S (fA G) s.heap H1 locs1 → W p l e R s m args below meth c H1 locs1 (cells + (cn h1 - cn h)) (slots + (us h1 - us h)) Q (F0 m (pc + 5) lss ((v.toList ++ rest).map (am G))))
    (kX : ∀ (e2 : Nat) (H1 : Heap) (locs1 : List Loc) (q : Addr) (ce : Cell), r1 = .inr e2 → rep G h1 H1 → va_S (fA G) s.heap H1 locs1 → H1[q]? = some ce → ce.vm = .none → s.vm.findClass (exNm e2) = some ce.cls → vx_W p l e R s m args below meth c H1 locs1 (cells + (cn h1 - cn h)) (slots + (us h1 - us h)) Q (F0 m pc lss (rest.map (am G))) q) : W p l e R s m args below meth c H locs cells slots Q (F0 m pc lss ((vs.reverse ++ .ref a :: rest).map (am G))) := by
  obtain ⟨hx, hb, hml, hown, hts, hg, hfr, hlo, -, -, -, -, -⟩ := hC
  refine W.sized fun hs => ?_
  obtain ⟨c1, w1, w2, w3, w4, w5, w6, w7, w8, w9, c3, c9⟩ := hf
  obtain ⟨o1, o2⟩ := okc_le hok
  obtain ⟨i1, i2, i3, i4⟩ := met_in c1
  obtain ⟨ra, rc⟩ := h_recv hg r hk hci
  have hcode := cdW_nil (List.isEmpty_iff.mp c9)
  have hst : (vs.reverse ++ .ref a :: rest).map (am G) = (vs.map (am G)).reverse ++ .ref (gS G + a) :: rest.map (am G) := by rw [List.map_append, List.map_reverse, List.map_cons, ra]
  have hw8 : 2 * (F0 m pc lss ((vs.reverse ++ .ref a :: rest).map (am G))).monitorRoom + ((rest.map (am G)).map fun v => v.category).sum ≤ 8 := lv_room (by rw [cs_am]; exact hcs)
  have hpre : PreV s H (clC ci) (gS G + a) (aPc G (.ref a :: vs) h) (vs.map (am G)) := ⟨aPc_blind, rc _ (by rw [cl_get ci hci]; rfl), fun U hU hW => by
    have := aPc_at (vs := .ref a :: vs) hg r hS (fun z => Nat.le_trans hs (hsz z)) hU hW
    rw [List.map_cons, ra] at this
    exact this⟩
  have hfix : CallFix p m c (mCode M) (mMax M) s args (lw_tbl.filter kw) (oName (mO M)) := ⟨hx, hb, hml, hown, fun w hw => hts w (List.mem_filter.mp hw).1 (List.mem_filter.mp hw).2⟩
  have hini : (Cond.initialized (mY M').cls).before args s = true := hts _ i1 rfl
  have hcw : (cdW M').before args s = true := hts _ (cw_all M' c1) (cdW_kw M')
  have hro : (rmM M' (cn h1 - cn h) (us h1 - us h)).frames + 1 ≤ R.frames ∧ 8 + (mMax M' + 11) + (rmM M' (cn h1 - cn h) (us h1 - us h)).locals ≤ R.locals := ⟨by show mFr M' + 1 ≤ _; omega, by show _ + mLo M' ≤ _; omega⟩
  have hpar : ∀ sig, parseMethodDescriptor (xF k).desc = some sig → n = sig.parameters.length := by
    intro sig hs
    rw [hs] at c3
    exact (Option.some.inj c3).symm
  refine aCall (d := 5) (a := (Value.ref (gS G + a) :: vs.map (am G)).toArray) (fun T hT2 X => ?_) hS kR kX
  exact vx_runF (x := xF k) (bytes := mCode M') (maxL := mMax M') (ret := mRet M') (hg.1.1 ci _ (cl_get ci hci)).2 hfix hT ⟨⟨rfl, rfl, hro.1, hro.2, wsM_pay c1 hts, by rw [← hcode]; exact List.mem_cons_self⟩, hts _ w1 rfl, hts _ w2 rfl, hts _ w3 (by unfold xF; split <;> (try split) <;> decide +kernel), hts _ w4 rfl, hts _ w5 rfl, hts _ w6 rfl, hts _ w7 rfl, hts _ w8 rfl, hini, by rw [← hcode]; exact hcw, w9, hpar⟩ hpre rfl (by simp; exact hn) hl.1.1 hst hw8 hd ⟨hcr, hsr⟩ T hT2 X
end StF
