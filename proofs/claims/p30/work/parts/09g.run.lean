/-! a call, by the callee's contract -/
def aRun (d : Nat) (p : Program) (l : Launch) (e : Env) (R : Room) (s : State) (m : MethodId) (args : Array Value) (below : List Frame) (meth : Method) (c : Code) (H : Heap) (locs : List Loc) (cells slots mc ms : Nat) (g : JFrame) (rest : List Value) (Qa : State → Outcome → State → Prop) (XC : String → State → State → Prop) (free : Addr → Prop) : Prop :=
  ∀ T : State, T.heap = H → Stand p l e R s m args below meth c T locs cells slots →
    (∃ (v : Option Value) (st₀ t T' : State) (L : List Loc), st₀.heap = H ∧ Stand p l e R s m args below meth c T' (locs ++ L) (cells + mc) (slots + ms) ∧ (∀ q ∈ L, free q.base) ∧ T'.heap = t.heap ∧ T'.vm = t.vm ∧ Qa st₀ (.returned v) t ∧
      Goes p e below T g T' { g with pc := g.pc + d, stack := v.toList ++ rest }) ∨
    (∃ (q : Addr) (st₀ t T' : State) (L : List Loc) (E : String) (ce : Cell), st₀.heap = H ∧ Stand p l e R s m args below meth c T' (locs ++ L) (cells + mc) (slots + ms) ∧ (∀ z ∈ L, free z.base) ∧ T'.heap = t.heap ∧ T'.vm = t.vm ∧ XC E st₀ t ∧ t.heap[q]? = some ce ∧ ce.vm = .none ∧ s.vm.findClass E = some ce.cls ∧
      Steps p.tables e below (T.setTop g) ((T'.setTop { g with stack := rest }).pushFrame (.throwing q)))
section StR
variable {p : Program} {l : Launch} {e : Env} {R : Room} {s : State} {m : MethodId} {args : Array Value} {below : List Frame} {meth : Method} {c : Code} {H : Heap} {locs : List Loc} {cells slots : Nat} {Q : State → Prop}
variable {G : aG} {M pc len pc' : Nat} {i : Instr} {ls ls' : aL} {st st' : List Value} {h h' : aH} {lss : Array Slot}
theorem aKe_S {st t : State} {L : List Loc} (h0 : st.heap = H) (hS : va_S (fA G) s.heap H locs) (hF : aKe G st t) (hL : ∀ q ∈ L, fA G q.base) : va_S (fA G) s.heap t.heap (locs ++ L) := by
  obtain ⟨hz, hk⟩ := hF
  rw [h0] at hz hk
  exact ⟨Nat.le_trans hS.1 hz, fun q h1 h2 => (hk q (Nat.lt_of_lt_of_le h1 hS.1) h2).trans (hS.2.1 q h1 h2), fun q hq => (List.mem_append.mp hq).elim (hS.2.2 q) (hL q)⟩
theorem aCall {d mc ms : Nat} {a : Array Value} {r1 : aR} {h1 : aH} {st0 rest : List Value} (hr : aRun d p l e R s m args below meth c H locs cells slots mc ms (F0 m pc lss st0) (rest.map (am G)) (aQc G r1 h1 a) (aXC G r1 h1) (fA G)) (hS : va_S (fA G) s.heap H locs)
    (kR : ∀ (v : Option Value) (H1 : Heap) (locs1 : List Loc), r1 = .inl v → rep G h1 H1 → va_S (fA G) s.heap H1 locs1 → W p l e R s m args below meth c H1 locs1 (cells + mc) (slots + ms) Q (F0 m (pc + d) lss ((v.toList ++ rest).map (am G))))
    (kX : ∀ (e2 : Nat) (H1 : Heap) (locs1 : List Loc) (q : Addr) (ce : Cell), r1 = .inr e2 → rep G h1 H1 → va_S (fA G) s.heap H1 locs1 → H1[q]? = some ce → ce.vm = .none → s.vm.findClass (exNm e2) = some ce.cls → vx_W p l e R s m args below meth c H1 locs1 (cells + mc) (slots + ms) Q (F0 m pc lss (rest.map (am G))) q) : W p l e R s m args below meth c H locs cells slots Q (F0 m pc lss st0) := by
  intro T hT X
  rcases hr T hT X with ⟨v, st₀, t, T', L, g0, X', hL, e1, e2, ⟨v0, f1, f2, f3, f4⟩, stp⟩ | ⟨q, st₀, t, T', L, E, ce, g0, X', hL, e1, e2, ⟨ee, f1, f2, f3, f4⟩, hce, hcv, hcl, stp⟩
  · have hv : v = v0.map (am G) := Outcome.returned.inj f2
    have hst : v.toList ++ rest.map (am G) = (v0.toList ++ rest).map (am G) := by
      rw [hv, List.map_append]
      cases v0 <;> rfl
    obtain ⟨t2, a1, b1⟩ := kR v0 T'.heap (locs ++ L) f1 (by rw [e1]; exact f3) (by rw [e1]; exact aKe_S g0 hS f4 hL) T' rfl X'
    refine ⟨t2, stp t2 ?_, b1⟩
    rw [hst]
    exact a1
  · subst f2
    obtain ⟨t2, a1, b1⟩ := kX ee T'.heap (locs ++ L) q ce f1 (by rw [e1]; exact f3) (by rw [e1]; exact aKe_S g0 hS f4 hL) (by rw [e1]; exact hce) hcv hcl T' rfl X'
    exact ⟨t2, stp.trans a1, b1⟩
theorem aPc_blind {vs : List Value} : FrameBlind (aPc G vs h) := by
  intro a U g mk hp
  obtain ⟨h1, h2, h3, h4⟩ := hp
  exact ⟨h1, aGl_moved (u := U) (U := U.calling g mk a) (State.WarmedH.refl U) (fun q _ _ => rfl) (Nat.le_refl _) h2, h3, h4⟩
theorem aPc_at {vs : List Value} (hg : aGl G s) (r : rep G h H) (hS : va_S (fA G) s.heap H locs) (hz : h.2.2.2.1 = 0 → H.size ≤ gS G + h.1.2.2.2) {U : State} (hU : U.heap = H) (hW : s.WarmedH U.vm) : aPc G vs h (vs.map (am G)).toArray U :=
  ⟨rfl, aGl_moved hW (fun q h1 h2 => by rw [hU]; exact hS.2.1 q h1 h2) (by rw [hU]; exact hS.1) hg, by rw [hU]; exact r, by rw [hU]; exact hz⟩
theorem okc_le {M M' : Nat} (h : okc M M' = true) : mFr M' + 1 ≤ mFr M ∧ 19 + mMax M' + mLo M' ≤ mLo M := by
  obtain ⟨h1, h2⟩ := Bool.and_eq_true_iff.mp h
  exact ⟨Nat.le_of_ble_eq_true h1, Nat.le_of_ble_eq_true h2⟩
theorem cdW_nil {M : Nat} (h : mHh M = []) : cdW M = .code (mY M) (mCode M) (mMax M) (mRet M) := by
  unfold cdW
  rw [h]
theorem cdW_cons {M : Nat} {a : Nat × Nat × Nat × Nat} {b : List (Nat × Nat × Nat × Nat)} (h : mHh M = a :: b) : cdW M = .codeWith (mY M) (mCode M) (mMax M) (mRet M) (a :: b) := by
  unfold cdW
  rw [h]
theorem par_len {M' n : Nat} (h : (parseMethodDescriptor (mY M').desc).map (fun d => d.parameters.length) = some n) : ∀ sig, parseMethodDescriptor (mY M').desc = some sig → n = sig.parameters.length := by
  intro sig hs
  rw [hs] at h
  exact (Option.some.inj h).symm
theorem wsM_pay {M' : Nat} (hM : M' < 115) (hts : ∀ w ∈ lw_tbl, kw w = true → w.before args s = true) : ∀ w ∈ wsM M', ∀ (a' : Array Value) (U : State), s.WarmedH U.vm → w.before a' U = true :=
  fun w hw a' U hW => kw_keep (wsM_in hM w hw).2 hW (hts w (wsM_in hM w hw).1 (wsM_in hM w hw).2)
theorem h_callS {k M' n : Nat} {vs rest : List Value} {r1 : aR} {h1 : aH} (hC : aCtx G M p l R s m args meth c) (r : rep G h H) (hS : va_S (fA G) s.heap H locs) (hl : loc G ls lss (mMax M)) (hsz : h.2.2.2.1 = 0 → s.heap.size + cells ≤ gS G + h.1.2.2.2)
    (hf : calS (mO M) k = some (M', n)) (hok : okc M M' = true) (hn : vs.length = n) (hcs : cs rest ≤ 8) (hd : decode (mCode M) pc = .ok (.invokestatic k, 3)) (hT : aMet G l M' vs h r1 h1) (hcr : cells + (cn h1 - cn h) ≤ R.cells) (hsr : slots + (us h1 - us h) ≤ R.slots)
    (kR : ∀ (v : Option Value) (H1 : Heap) (locs1 : List Loc), r1 = .inl v → rep G h1 H1 → va_S (fA G) s.heap H1 locs1 → W p l e R s m args below meth c H1 locs1 (cells + (cn h1 - cn h)) (slots + (us h1 - us h)) Q (F0 m (pc + 3) lss ((v.toList ++ rest).map (am G))))
    (kX : ∀ (e2 : Nat) (H1 : Heap) (locs1 : List Loc) (q : Addr) (ce : Cell), r1 = .inr e2 → rep G h1 H1 → va_S (fA G) s.heap H1 locs1 → H1[q]? = some ce → ce.vm = .none → s.vm.findClass (exNm e2) = some ce.cls → vx_W p l e R s m args below meth c H1 locs1 (cells + (cn h1 - cn h)) (slots + (us h1 - us h)) Q (F0 m pc lss (rest.map (am G))) q) : W p l e R s m args below meth c H locs cells slots Q (F0 m pc lss ((vs.reverse ++ rest).map (am G))) := by
  obtain ⟨hx, hb, hml, hown, hts, hg, hfr, hlo, -, -, -, -, -⟩ := hC
  refine W.sized fun hs => ?_
  obtain ⟨c1, c2, c3, c4⟩ := cs_in hf
  obtain ⟨o1, o2⟩ := okc_le hok
  obtain ⟨i1, i2, i3, i4⟩ := met_in c1
  have hst : (vs.reverse ++ rest).map (am G) = (vs.map (am G)).reverse ++ rest.map (am G) := by rw [List.map_append, List.map_reverse]
  have hw8 : 2 * (F0 m pc lss ((vs.reverse ++ rest).map (am G))).monitorRoom + ((rest.map (am G)).map fun v => v.category).sum ≤ 8 := lv_room (by rw [cs_am]; exact hcs)
  have hpre : PreS s H (aPc G vs h) (vs.map (am G)) := ⟨aPc_blind, fun U hU hW => aPc_at hg r hS (fun z => Nat.le_trans hs (hsz z)) hU hW⟩
  have hfix : CallFix p m c (mCode M) (mMax M) s args (lw_tbl.filter kw) (oName (mO M)) := ⟨hx, hb, hml, hown, fun w hw => hts w (List.mem_filter.mp hw).1 (List.mem_filter.mp hw).2⟩
  have hini : (Cond.initialized (mY M').cls).before args s = true := hts _ i1 rfl
  have hcw : (cdW M').before args s = true := hts _ (cw_all M' c1) (cdW_kw M')
  have hro : (rmM M' (cn h1 - cn h) (us h1 - us h)).frames + 1 ≤ R.frames ∧ 8 + (mMax M' + 11) + (rmM M' (cn h1 - cn h) (us h1 - us h)).locals ≤ R.locals := ⟨by show mFr M' + 1 ≤ _; omega, by show _ + mLo M' ≤ _; omega⟩
  refine aCall (a := (vs.map (am G)).toArray) (fun T hT2 X => ?_) hS kR kX
  cases hm : mHh M' with
  | nil =>
    have hcode := cdW_nil hm
    have hcb : (rmM M' (cn h1 - cn h) (us h1 - us h)).cells = (cn h1 - cn h) ∧ (rmM M' (cn h1 - cn h) (us h1 - us h)).slots = (us h1 - us h) := ⟨rfl, rfl⟩
    rcases c2 with c2 | ⟨c2, -⟩
    · exact vx_runS (bytes := mCode M') (maxL := mMax M') (ret := mRet M') hfix hT ⟨⟨rfl, rfl, hro.1, hro.2, wsM_pay c1 hts, by rw [← hcode]; exact List.mem_cons_self, by rw [← hcode]; exact hcw, hini, i3, par_len c3, hts _ c2 rfl⟩, hts _ c4 rfl⟩ hpre rfl (by simp; exact hn) hl.1.1 hst hw8 hd ⟨hcr, hsr⟩ T hT2 X
    · exact vx_runSN (bytes := mCode M') (maxL := mMax M') (ret := mRet M') hfix hT ⟨⟨⟨rfl, rfl, hro.1, hro.2, wsM_pay c1 hts, by rw [← hcode]; exact List.mem_cons_self⟩, by rw [← hcode]; exact hcw, hini, i3, par_len c3, hts _ c2 rfl⟩, hts _ c4 rfl, trivial⟩ hpre rfl (by simp; exact hn) hl.1.1 hst hw8 hd ⟨hcr, hsr⟩ T hT2 X
  | cons a b =>
    have hcode := cdW_cons hm
    rcases c2 with c2 | ⟨-, c2⟩
    · exact vx_runSX (bytes := mCode M') (maxL := mMax M') (ret := mRet M') (hh := a :: b) hfix hT ⟨⟨rfl, rfl, hro.1, hro.2, wsM_pay c1 hts, by rw [← hcode]; exact List.mem_cons_self⟩, by rw [← hcode]; exact hcw, hini, i3, par_len c3, hts _ c2 rfl, hts _ c4 rfl⟩ hpre rfl (by simp; exact hn) hl.1.1 hst hw8 hd ⟨hcr, hsr⟩ T hT2 X
    · rw [c2] at hm; cases hm
theorem h_recv {a ci : Nat} (hg : aGl G s) (r : rep G h H) (hk : h.1.1 a = 4 + ci) (hc : ci < 7) : am G (.ref a) = .ref (gS G + a) ∧ ∀ C, vwCl[ci]?.map (fun q => q.1) = some C → ∃ cell : Cell, H[gS G + a]? = some cell ∧ cell.vm.isStatics = false ∧ s.vm.findClass C = some cell.cls := by
  have ha := rep_lt r hk (by omega) (by omega)
  refine ⟨by show Value.ref (ad G a) = _; rw [ad_lt r ha], fun C hC => ?_⟩
  have := va_recv hg.1 r.1 (cl_get ci hc) (show (wsL G h)[a]? = _ by rw [wsL_get ha, ent_4 hk])
  rw [cl_get ci hc] at hC
  rw [← Option.some.inj hC]
  exact this
theorem h_callV {k M' n a : Nat} {vs rest : List Value} {r1 : aR} {h1 : aH} (hC : aCtx G M p l R s m args meth c) (r : rep G h H) (hS : va_S (fA G) s.heap H locs) (hl : loc G ls lss (mMax M)) (hsz : h.2.2.2.1 = 0 → s.heap.size + cells ≤ gS G + h.1.2.2.2)
    (hf : calV (mO M) k = some (M', n)) (hok : okc M M' = true) (hn : vs.length = n) (hcs : cs rest ≤ 8) (hd : decode (mCode M) pc = .ok (.invokevirtual k, 3)) (hk : h.1.1 a = oKd (mO M')) (hT : aMet G l M' (.ref a :: vs) h r1 h1) (hcr : cells + (cn h1 - cn h) ≤ R.cells) (hsr : slots + (us h1 - us h) ≤ R.slots)
    (kR : ∀ (v : Option Value) (H1 : Heap) (locs1 : List Loc), r1 = .inl v → rep G h1 H1 → va_S (fA G) s.heap H1 locs1 → W p l e R s m args below meth c H1 locs1 (cells + (cn h1 - cn h)) (slots + (us h1 - us h)) Q (F0 m (pc + 3) lss ((v.toList ++ rest).map (am G))))
    (kX : ∀ (e2 : Nat) (H1 : Heap) (locs1 : List Loc) (q : Addr) (ce : Cell), r1 = .inr e2 → rep G h1 H1 → va_S (fA G) s.heap H1 locs1 → H1[q]? = some ce → ce.vm = .none → s.vm.findClass (exNm e2) = some ce.cls → vx_W p l e R s m args below meth c H1 locs1 (cells + (cn h1 - cn h)) (slots + (us h1 - us h)) Q (F0 m pc lss (rest.map (am G))) q) : W p l e R s m args below meth c H locs cells slots Q (F0 m pc lss ((vs.reverse ++ .ref a :: rest).map (am G))) := by
  obtain ⟨hx, hb, hml, hown, hts, hg, hfr, hlo, -, -, -, -, -⟩ := hC
  refine W.sized fun hs => ?_
  obtain ⟨c1, c2, c3, c4, c5, ⟨ci, c6, c7, c8⟩, c9⟩ := cv_in hf
  obtain ⟨o1, o2⟩ := okc_le hok
  obtain ⟨i1, i2, i3, i4⟩ := met_in c1
  obtain ⟨ra, rc⟩ := h_recv hg r (hk.trans c6) c7
  have hcode := cdW_nil c9
  have hst : (vs.reverse ++ .ref a :: rest).map (am G) = (vs.map (am G)).reverse ++ .ref (gS G + a) :: rest.map (am G) := by rw [List.map_append, List.map_reverse, List.map_cons, ra]
  have hw8 : 2 * (F0 m pc lss ((vs.reverse ++ .ref a :: rest).map (am G))).monitorRoom + ((rest.map (am G)).map fun v => v.category).sum ≤ 8 := lv_room (by rw [cs_am]; exact hcs)
  have hpre : PreV s H (mY M').cls (gS G + a) (aPc G (.ref a :: vs) h) (vs.map (am G)) := ⟨aPc_blind, rc _ c8, fun U hU hW => by
    have := aPc_at (vs := .ref a :: vs) hg r hS (fun z => Nat.le_trans hs (hsz z)) hU hW
    rw [List.map_cons, ra] at this
    exact this⟩
  have hfix : CallFix p m c (mCode M) (mMax M) s args (lw_tbl.filter kw) (oName (mO M)) := ⟨hx, hb, hml, hown, fun w hw => hts w (List.mem_filter.mp hw).1 (List.mem_filter.mp hw).2⟩
  have hini : (Cond.initialized (mY M').cls).before args s = true := hts _ i1 rfl
  have hcw : (cdW M').before args s = true := hts _ (cw_all M' c1) (cdW_kw M')
  have hro : (rmM M' (cn h1 - cn h) (us h1 - us h)).frames + 1 ≤ R.frames ∧ 8 + (mMax M' + 11) + (rmM M' (cn h1 - cn h) (us h1 - us h)).locals ≤ R.locals := ⟨by show mFr M' + 1 ≤ _; omega, by show _ + mLo M' ≤ _; omega⟩
  refine aCall (a := (Value.ref (gS G + a) :: vs.map (am G)).toArray) (fun T hT2 X => ?_) hS kR kX
  exact vx_runV (bytes := mCode M') (maxL := mMax M') (ret := mRet M') hfix hT ⟨⟨rfl, rfl, hro.1, hro.2, wsM_pay c1 hts, by rw [← hcode]; exact List.mem_cons_self, by rw [← hcode]; exact hcw, hini, i3, par_len c3, hts _ c2 rfl⟩, hts _ c4 rfl, hts _ c5 rfl⟩ hpre rfl (by simp; exact hn) hl.1.1 hst hw8 hd ⟨hcr, hsr⟩ T hT2 X
theorem h_callI {k M' n a : Nat} {vs rest : List Value} {r1 : aR} {h1 : aH} (hC : aCtx G M p l R s m args meth c) (r : rep G h H) (hS : va_S (fA G) s.heap H locs) (hl : loc G ls lss (mMax M)) (hsz : h.2.2.2.1 = 0 → s.heap.size + cells ≤ gS G + h.1.2.2.2)
    (hf : calI (mO M) k = some (M', n)) (hok : okc M M' = true) (hn : vs.length = n) (hcs : cs rest ≤ 8) (hd : decode (mCode M) pc = .ok (.invokespecial k, 3)) (ha : a < h.1.2.2.2) (hT : aMet G l M' (.ref a :: vs) h r1 h1) (hcr : cells + (cn h1 - cn h) ≤ R.cells) (hsr : slots + (us h1 - us h) ≤ R.slots)
    (kR : ∀ (v : Option Value) (H1 : Heap) (locs1 : List Loc), r1 = .inl v → rep G h1 H1 → va_S (fA G) s.heap H1 locs1 → W p l e R s m args below meth c H1 locs1 (cells + (cn h1 - cn h)) (slots + (us h1 - us h)) Q (F0 m (pc + 3) lss ((v.toList ++ rest).map (am G))))
    (kX : ∀ (e2 : Nat) (H1 : Heap) (locs1 : List Loc) (q : Addr) (ce : Cell), r1 = .inr e2 → rep G h1 H1 → va_S (fA G) s.heap H1 locs1 → H1[q]? = some ce → ce.vm = .none → s.vm.findClass (exNm e2) = some ce.cls → vx_W p l e R s m args below meth c H1 locs1 (cells + (cn h1 - cn h)) (slots + (us h1 - us h)) Q (F0 m pc lss (rest.map (am G))) q) : W p l e R s m args below meth c H locs cells slots Q (F0 m pc lss ((vs.reverse ++ .ref a :: rest).map (am G))) := by
  obtain ⟨hx, hb, hml, hown, hts, hg, hfr, hlo, -, -, -, -, -⟩ := hC
  refine W.sized fun hs => ?_
  obtain ⟨c1, c2, c3, c4, c5, c9, c10⟩ := ci_in hf
  obtain ⟨o1, o2⟩ := okc_le hok
  obtain ⟨i1, i2, i3, i4⟩ := met_in c1
  have ra : am G (.ref a) = .ref (gS G + a) := by show Value.ref (ad G a) = _; rw [ad_lt r ha]
  have hcode := cdW_nil c9
  rw [c10] at hcode
  have hst : (vs.reverse ++ .ref a :: rest).map (am G) = (vs.map (am G)).reverse ++ .ref (gS G + a) :: rest.map (am G) := by rw [List.map_append, List.map_reverse, List.map_cons, ra]
  have hw8 : 2 * (F0 m pc lss ((vs.reverse ++ .ref a :: rest).map (am G))).monitorRoom + ((rest.map (am G)).map fun v => v.category).sum ≤ 8 := lv_room (by rw [cs_am]; exact hcs)
  have hpre : PreS s H (aPc G (.ref a :: vs) h) (.ref (gS G + a) :: vs.map (am G)) := ⟨aPc_blind, fun U hU hW => by
    have := aPc_at (vs := .ref a :: vs) hg r hS (fun z => Nat.le_trans hs (hsz z)) hU hW
    rw [List.map_cons, ra] at this
    exact this⟩
  have hfix : CallFix p m c (mCode M) (mMax M) s args (lw_tbl.filter kw) (oName (mO M)) := ⟨hx, hb, hml, hown, fun w hw => hts w (List.mem_filter.mp hw).1 (List.mem_filter.mp hw).2⟩
  have hini : (Cond.initialized (mY M').cls).before args s = true := hts _ i1 rfl
  have hcw : (cdW M').before args s = true := hts _ (cw_all M' c1) (cdW_kw M')
  have hro : (rmM M' (cn h1 - cn h) (us h1 - us h)).frames + 1 ≤ R.frames ∧ 8 + (mMax M' + 11) + (rmM M' (cn h1 - cn h) (us h1 - us h)).locals ≤ R.locals := ⟨by show mFr M' + 1 ≤ _; omega, by show _ + mLo M' ≤ _; omega⟩
  refine aCall (a := (Value.ref (gS G + a) :: vs.map (am G)).toArray) (fun T hT2 X => ?_) hS kR kX
  rcases c2 with c2 | c2
  · exact vx_runI (bytes := mCode M') (maxL := mMax M') hfix hT ⟨⟨rfl, rfl, hro.1, hro.2, wsM_pay c1 hts, by rw [← hcode]; exact List.mem_cons_self, by rw [← hcode]; exact hcw, hini, i3, par_len c3, hts _ c2 rfl⟩, c5, hts _ c4 rfl⟩ hpre rfl (by simp; exact hn) hl.1.1 hst hw8 hd ⟨hcr, hsr⟩ T hT2 X
  · exact vx_runIN (bytes := mCode M') (maxL := mMax M') hfix hT ⟨⟨⟨rfl, rfl, hro.1, hro.2, wsM_pay c1 hts, by rw [← hcode]; exact List.mem_cons_self⟩, by rw [← hcode]; exact hcw, hini, i3, par_len c3, hts _ c2 rfl⟩, c5, hts _ c4 rfl⟩ hpre rfl (by simp; exact hn) hl.1.1 hst hw8 hd ⟨hcr, hsr⟩ T hT2 X
end StR
