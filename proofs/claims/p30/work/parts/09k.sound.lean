theorem cl_inj {b : Bool} {M' p1 M2 p2 : Nat} {c1 c2 : aL} {r1 r2 : List Value} (q : gd b (cl M' c1 p1 r1) = cl M2 c2 p2 r2) : b = true ∧ M' = M2 ∧ c1 = c2 ∧ p1 = p2 ∧ r1 = r2 := by
  cases b
  · simp [gd, cl] at q
  · simp only [gd, cl, Option.some.injEq, Sum.inr.injEq, Prod.mk.injEq] at q
    exact ⟨rfl, q.1, q.2.1, q.2.2.1, q.2.2.2⟩
theorem gd_cl {b : Bool} {o : aO} {M2 p2 : Nat} {c2 : aL} {r2 : List Value} (q : gd b o = cl M2 c2 p2 r2) : b = true ∧ o = cl M2 c2 p2 r2 := by
  cases b
  · simp [gd, cl] at q
  · exact ⟨rfl, q⟩
theorem cl_cl {M' p1 M2 p2 : Nat} {c1 c2 : aL} {r1 r2 : List Value} (q : cl M' c1 p1 r1 = cl M2 c2 p2 r2) : M' = M2 ∧ c1 = c2 ∧ p1 = p2 ∧ r1 = r2 := by
  simp only [cl, Option.some.injEq, Sum.inr.injEq, Prod.mk.injEq] at q
  exact q
theorem tk_dr {st rest : List Value} {n a : Nat} (h : st.drop n = .ref a :: rest) : st = (st.take n).reverse.reverse ++ .ref a :: rest := by
  rw [List.reverse_reverse, ← h, List.take_append_drop]
theorem ci_kd {o k M' n : Nat} (h : calI o k = some (M', n)) : 4 ≤ oKd (mO M') ∧ oKd (mO M') ≤ 10 := by
  obtain ⟨a, ha, hp⟩ := find_in h
  have eo := key2 hp
  dsimp only at eo
  subst eo
  obtain ⟨w, hw⟩ := tab_in wCi_fst ha
  have := List.all_eq_true.mp wCi_ok _ hw
  simp only [Bool.and_eq_true] at this
  obtain ⟨⟨⟨⟨⟨⟨⟨q1, q2⟩, q3⟩, q4⟩, q5⟩, q6⟩, q7⟩, q8⟩ := this
  exact ⟨Nat.le_of_ble_eq_true q7, Nat.le_of_ble_eq_true q8⟩
section StM
variable {p : Program} {l : Launch} {e : Env} {R : Room} {s : State} {m : MethodId} {args : Array Value} {below : List Frame} {meth : Method} {c : Code} {H : Heap} {locs : List Loc} {cells slots : Nat} {Q : State → Prop}
variable {G : aG} {M pc len pc' : Nat} {i : Instr} {ls cs' : aL} {st rest : List Value} {h : aH} {lss : Array Slot}
theorem h_call {M' : Nat} {r1 : aR} {h1 : aH} (hC : aCtx G M p l R s m args meth c) (r : rep G h H) (hS : va_S (fA G) s.heap H locs) (hl : loc G ls lss (mMax M)) (hsz : h.2.2.2.1 = 0 → s.heap.size + cells ≤ gS G + h.1.2.2.2)
    (hd : decode (mCode M) pc = .ok (i, len)) (ha : act M pc len i ls st h = cl M' cs' pc' rest) (hT : ∀ vs, cs' = lay (mMax M') vs → (spr vs).length ≤ mMax M' → M' < 115 → aMet G l M' vs h r1 h1) (hcr : cells + (cn h1 - cn h) ≤ R.cells) (hsr : slots + (us h1 - us h) ≤ R.slots)
    (kR : ∀ (v : Option Value) (H1 : Heap) (locs1 : List Loc), r1 = .inl v → rep G h1 H1 → va_S (fA G) s.heap H1 locs1 → W p l e R s m args below meth c H1 locs1 (cells + (cn h1 - cn h)) (slots + (us h1 - us h)) Q (F0 m pc' lss ((v.toList ++ rest).map (am G))))
    (kX : ∀ (e2 : Nat) (H1 : Heap) (locs1 : List Loc) (q : Addr) (ce : Cell), r1 = .inr e2 → rep G h1 H1 → va_S (fA G) s.heap H1 locs1 → H1[q]? = some ce → ce.vm = .none → s.vm.findClass (exNm e2) = some ce.cls → vx_W p l e R s m args below meth c H1 locs1 (cells + (cn h1 - cn h)) (slots + (us h1 - us h)) Q (F0 m pc lss (rest.map (am G))) q) : W p l e R s m args below meth c H locs cells slots Q (F0 m pc lss (st.map (am G))) := by
  cases i <;> simp only [act] at ha
  case invokestatic k =>
    split at ha
    · rename_i M2 n hf
      obtain ⟨h0, rfl, rfl, rfl, rfl⟩ := cl_inj ha
      obtain ⟨h0, g5⟩ := Bool.and_eq_true_iff.mp h0
      obtain ⟨h0, g4⟩ := Bool.and_eq_true_iff.mp h0
      obtain ⟨h0, g3⟩ := Bool.and_eq_true_iff.mp h0
      obtain ⟨g1, g2⟩ := Bool.and_eq_true_iff.mp h0
      have g1 := Nat.eq_of_beq_eq_true g1
      have g3 := Nat.eq_of_beq_eq_true g3
      have g4 := Nat.le_of_ble_eq_true g4
      have g5 := Nat.le_of_ble_eq_true g5
      subst g1
      have e1 : st = (st.take n).reverse.reverse ++ st.drop n := by rw [List.reverse_reverse, List.take_append_drop]
      rw [e1]
      exact h_callS hC r hS hl hsz hf g2 (by rw [List.length_reverse]; exact g3) g4 hd (hT _ rfl g5 (cs_in hf).1) hcr hsr kR kX
    · split at ha
      · have hz := (gd_cl ha).2
        unfold aprm at hz
        (repeat' split at hz) <;> first | (simp [cl] at hz; done) | (have hy := (gd_cl hz).2; simp [nx, cl] at hy; done) | (have hy := (gd_cl hz).2; split at hy <;> simp [nx, cl] at hy; done)
      · simp [cl] at ha
  case invokevirtual k =>
    split at ha
    · rename_i M2 n hf
      split at ha
      · rename_i a rest2 hdr
        obtain ⟨h0, ha2⟩ := gd_cl ha
        obtain ⟨h0, g5⟩ := Bool.and_eq_true_iff.mp h0
        obtain ⟨h0, g4⟩ := Bool.and_eq_true_iff.mp h0
        obtain ⟨h0, g3⟩ := Bool.and_eq_true_iff.mp h0
        obtain ⟨g1, g2⟩ := Bool.and_eq_true_iff.mp h0
        have g1 := Nat.eq_of_beq_eq_true g1
        have g3 := Nat.eq_of_beq_eq_true g3
        have g4 := Nat.le_of_ble_eq_true g4
        have g5 := Nat.le_of_ble_eq_true g5
        subst g1
        split at ha2
        · rename_i hk
          obtain ⟨rfl, rfl, rfl, rfl⟩ := cl_cl ha2
          rw [tk_dr hdr]
          exact h_callV hC r hS hl hsz hf g2 (by rw [List.length_reverse]; exact g3) g4 hd hk (hT _ rfl g5 (cv_in hf).1) hcr hsr kR kX
        · simp [cl] at ha2
      · simp [cl] at ha
    · simp [cl] at ha
  case invokespecial k =>
    split at ha
    · rename_i M2 n hf
      split at ha
      · rename_i a rest2 hdr
        obtain ⟨h0, ha2⟩ := gd_cl ha
        obtain ⟨h0, g5⟩ := Bool.and_eq_true_iff.mp h0
        obtain ⟨h0, g4⟩ := Bool.and_eq_true_iff.mp h0
        obtain ⟨h0, g3⟩ := Bool.and_eq_true_iff.mp h0
        obtain ⟨g1, g2⟩ := Bool.and_eq_true_iff.mp h0
        have g1 := Nat.eq_of_beq_eq_true g1
        have g3 := Nat.eq_of_beq_eq_true g3
        have g4 := Nat.le_of_ble_eq_true g4
        have g5 := Nat.le_of_ble_eq_true g5
        subst g1
        split at ha2
        · rename_i hk
          obtain ⟨rfl, rfl, rfl, rfl⟩ := cl_cl ha2
          rw [tk_dr hdr]
          obtain ⟨z1, z2⟩ := ci_kd hf
          exact h_callI hC r hS hl hsz hf g2 (by rw [List.length_reverse]; exact g3) g4 hd (rep_lt r hk (by omega) (by omega)) (hT _ rfl g5 (ci_in hf).1) hcr hsr kR kX
        · simp [cl] at ha2
      · simp [cl] at ha
    · split at ha
      · have hz := (gd_cl ha).2
        unfold aprm at hz
        (repeat' split at hz) <;> first | (simp [cl] at hz; done) | (have hy := (gd_cl hz).2; simp [nx, cl] at hy; done) | (have hy := (gd_cl hz).2; split at hy <;> simp [nx, cl] at hy; done)
      · simp [cl] at ha
  case invokeinterface k k2 =>
    split at ha
    · rename_i M0 M1 n hf
      obtain ⟨f0, f1⟩ := cf_in hf
      split at ha
      · rename_i a rest2 hdr
        obtain ⟨h0, ha2⟩ := gd_cl ha
        obtain ⟨h0, g7⟩ := Bool.and_eq_true_iff.mp h0
        obtain ⟨h0, g6⟩ := Bool.and_eq_true_iff.mp h0
        obtain ⟨h0, g4⟩ := Bool.and_eq_true_iff.mp h0
        obtain ⟨h0, g3⟩ := Bool.and_eq_true_iff.mp h0
        obtain ⟨h0, g5⟩ := Bool.and_eq_true_iff.mp h0
        obtain ⟨g1, g2⟩ := Bool.and_eq_true_iff.mp h0
        have g1 := Nat.eq_of_beq_eq_true g1
        have g3 := Nat.eq_of_beq_eq_true g3
        have g4 := Nat.le_of_ble_eq_true g4
        have g6 := Nat.le_of_ble_eq_true g6
        have g7 := Nat.le_of_ble_eq_true g7
        subst g1
        rw [tk_dr hdr]
        split at ha2
        · rename_i hk
          obtain ⟨rfl, rfl, rfl, rfl⟩ := cl_cl ha2
          exact h_callF (ci := 0) hC r hS hl hsz f0 (by omega) g2 (by rw [List.length_reverse]; exact g3) g4 hd hk (hT _ rfl g6 f0.1) hcr hsr kR kX
        · split at ha2
          · rename_i hk
            obtain ⟨rfl, rfl, rfl, rfl⟩ := cl_cl ha2
            exact h_callF (ci := 4) hC r hS hl hsz f1 (by omega) g5 (by rw [List.length_reverse]; exact g3) g4 hd hk (hT _ rfl g7 f1.1) hcr hsr kR kX
          · simp [cl] at ha2
      · simp [cl] at ha
    · simp [cl] at ha
  all_goals
    exfalso
    (repeat' split at ha) <;>
    first
    | (simp [cl] at ha; done)
    | (simp [gd, nx, cl, dn] at ha; done)
    | (have hz := (gd_cl ha).2; simp [nx, cl, dn] at hz; done)
end StM
/-- the frame's run gives the method's contract -/
theorem met_of {G : aG} {l : Launch} (hfl : l.stackTraces = false) {n : Nat} (hF : ∀ (M pc : Nat) (ls : aL) (st : List Value) (h : aH) (r : aR) (h' : aH), exN n M pc ls st h = some (r, h') → FRM G l M pc ls st h r h')
    {M : Nat} {vs : List Value} {h : aH} {r : aR} {h' : aH} (hM : M < 115) (hs : (spr vs).length ≤ mMax M) (hx : exN n M 0 (lay (mMax M) vs) [] h = some (r, h')) : aMet G l M vs h r h' := by
  have hc := (exN_cle _ _ _ _ _ _ _ _ hx).1
  have hcn := cle_cn hc
  have hus := hc.2.2
  obtain ⟨i1, i2, i3, i4⟩ := met_in hM
  have body : ∀ (p : Program) (e : Env) (s : State) (m : MethodId) (args : Array Value) (below : List Frame) (meth : Method) (c : Code) (s₁ : State), BodyLoose p l (mY M) (headSpec (wsM M) (rmM M (cn h' - cn h) (us h' - us h))) (mCode M) (mMax M) (mRet M) e s m args below meth c s₁ → c.maxLocals = mMax M → c.exceptionTable.toList = tableOf (mHh M) → aPc G vs h args s →
      W p l e (headSpec (wsM M) (rmM M (cn h' - cn h) (us h' - us h))).room s m args below meth c s.heap [] 0 0 (vx_MQ below (aQc G r h') (aXC G r h') args s (cn h' - cn h) (us h' - us h) (fA G)) (entryFrame m args (mMax M)) := by
    intro p e s m args below meth c s₁ B hml htb hp
    obtain ⟨rfl, hg, hr, hz⟩ := hp
    have hts0 := atoms_spec (ws := wsM M) B.pre
    have hown : s.vm.findClass (oName (mO M)) = some m.cls := by rw [← i2]; exact findClass_of_methodNamed B.named
    have hC : aCtx G M p l (headSpec (wsM M) (rmM M (cn h' - cn h) (us h' - us h))).room s m (vs.map (am G)).toArray meth c :=
      ⟨B.exec, B.bytes, hml, hown, fun w h1 h2 => hts0 w (List.mem_cons_of_mem _ (List.mem_filter.mpr ⟨h1, h2⟩)), hg, ⟨Nat.le_refl _, fr_1 M hM⟩, Nat.le_refl _, B.notSynchronized, fun z => by rw [← z]; exact (name_of_methodNamed B.named B.method).1, B.returns, fun _ => htb, hfl⟩
    rw [lg_entry_eq]
    have hS : va_S (fA G) s.heap s.heap [] := va_S.rf
    refine hF M 0 _ _ h r h' hx p e _ s m _ below meth c s.heap [] 0 0 _ _ hC hr hS (loc_lay hs) (fun q => by rw [Nat.add_zero]; exact hz q) ?_ ?_ ?_ ?_
    · show 0 + cn h' ≤ (cn h' - cn h) + cn h
      omega
    · show 0 + us h' ≤ (us h' - us h) + us h
      omega
    · intro pc2 len2 i2 ls2 st2 h2 H2 locs2 cells2 slots2 lss2 hd ha rr S2 L2 c2 u2
      have hc2 := (act_dcle ha).1
      exact h_end hC rr S2 L2 hd ha (by omega) (by omega) (Nat.le_refl _) (Nat.le_refl _)
    · intro pc2 e2 rest2 H2 locs2 cells2 slots2 lss2 q ce he hh rr S2 c2 u2 hce hcv hcl
      refine vx_out (fun x hx => ?_) B.notSynchronized hce hcv hcl (fun t hT _ => ⟨e2, he, rfl, by rw [hT]; exact rr, by rw [hT]; exact S2.1, by rw [hT]; exact S2.2.1⟩) S2.2.2 (by omega) (by omega)
      rw [htb, hh] at hx
      cases hx
  cases hm : mHh M with
  | nil =>
    refine vx_ofW (cc := mCode M) (maxL := mMax M) (ret := mRet M) (ws' := lw_tbl.filter kw) i4 (by unfold wsM; rw [cdW_nil hm]) fun p e s m args below meth c s₁ B hml hno hp => body p e s m args below meth c s₁ B hml ?_ hp
    rw [hm]
    cases ht : c.exceptionTable.toList with
    | nil => rfl
    | cons a b => exact (hno a (by rw [ht]; exact List.mem_cons_self)).elim
  | cons a b =>
    refine vx_ofWH (cc := mCode M) (maxL := mMax M) (ret := mRet M) (hh := a :: b) (ws' := lw_tbl.filter kw) i4 (by unfold wsM; rw [cdW_cons hm]) fun p e s m args below meth c s₁ B hml hp => body p e s m args below meth c s₁ B hml ?_ hp
    rw [hm]
    refine vx_table B (x := mY M) (y := mY M) (bytes := mCode M) (maxL' := mMax M) (ret' := mRet M) ?_
    have := atoms_spec (ws := wsM M) B.pre _ List.mem_cons_self
    rw [cdW_cons hm] at this
    exact this
/-- THE CLEAN MACHINE'S RUN OF A FRAME IS THE MACHINE'S -/
theorem frm {G : aG} {l : Launch} (hfl : l.stackTraces = false) : ∀ (n M pc : Nat) (ls : aL) (st : List Value) (h : aH) (r : aR) (h' : aH), exN n M pc ls st h = some (r, h') → FRM G l M pc ls st h r h'
  | 0, _, _, _, _, _, _, _, q => by simp [exN] at q
  | n + 1, M, pc, ls, st, h, r, h', q => by
    have ih := frm (G := G) hfl n
    intro p e R s m args below meth c H locs cells slots Q lss hC rr hS hl hsz hcr hsr K1 K2
    rw [exN] at q
    split at q
    · cases q
    · rename_i i len hd
      split at q
      · cases q
      · rename_i pc1 ls1 st1 h1 ha
        have a1 := act_cle (ha := ha)
        have a2 := (exN_cle _ _ _ _ _ _ _ _ q).1
        have b1 := cle_cn a1
        have b2 := cle_cn a2
        have b3 := a1.2.2
        have b4 := a2.2.2
        have go : ∀ (H1 : Heap) (locs1 : List Loc) (cells1 slots1 : Nat) (lss1 : Array Slot), rep G h1 H1 → va_S (fA G) s.heap H1 locs1 → loc G ls1 lss1 (mMax M) → cells1 + cn h = cells + cn h1 → slots1 + us h = slots + us h1 → (h1.2.2.2.1 = 0 → s.heap.size + cells1 ≤ gS G + h1.1.2.2.2) → W p l e R s m args below meth c H1 locs1 cells1 slots1 Q (F0 m pc1 lss1 (st1.map (am G))) := by
          intro H1 locs1 cells1 slots1 lss1 r1 S1 L1 c1 u1 z1
          refine ih M pc1 ls1 st1 h1 r h' q p e R s m args below meth c H1 locs1 cells1 slots1 Q lss1 hC r1 S1 L1 z1 (by omega) (by omega) ?_ ?_
          · intro pc2 len2 i2 ls2 st2 h2 H2 locs2 cells2 slots2 lss2 hd2 ha2 rr2 S2 L2 c2 u2
            exact K1 pc2 len2 i2 ls2 st2 h2 H2 locs2 cells2 slots2 lss2 hd2 ha2 rr2 S2 L2 (by omega) (by omega)
          · intro pc2 e2 rest2 H2 locs2 cells2 slots2 lss2 q2 ce he hh rr2 S2 c2 u2 hce hcv hcl
            exact K2 pc2 e2 rest2 H2 locs2 cells2 slots2 lss2 q2 ce he hh rr2 S2 (by omega) (by omega) hce hcv hcl
        cases hp : pureI i
        · exact stH hC rr hS hl hsz (by omega) (by omega) a1 hd ha hp go
        · refine stP hC.1 hC.2.1 hd ha hp hl fun he lss1 L1 => ?_
          subst he
          exact go H locs cells slots lss1 rr hS L1 rfl rfl hsz
      · rename_i rh ha
        cases q
        exact K1 pc len i ls st h H locs cells slots lss hd ha rr hS hl rfl rfl
      · rename_i M1 cs1 pc1 rest1 ha
        have main : ∀ (r1 : aR) (h1 : aH), exN n M1 0 cs1 [] h = some (r1, h1) → cle h1 h' →
            (∀ v, r1 = .inl v → exN n M pc1 ls (v.toList ++ rest1) h1 = some (r, h')) →
            (∀ e2, r1 = .inr e2 → (∃ k t l2, hdl M pc e2 = some (k, t) ∧ skp ls k = some l2 ∧ exN n M t l2 [] h1 = some (r, h')) ∨ (mHh M = [] ∧ r = .inr e2 ∧ h' = h1)) →
            W p l e R s m args below meth c H locs cells slots Q (F0 m pc lss (st.map (am G))) := by
          intro r1 h1 hc a2 kv kx
          have a1 := (exN_cle _ _ _ _ _ _ _ _ hc).1
          have b1 := cle_cn a1
          have b2 := cle_cn a2
          have b3 := a1.2.2
          have b4 := a2.2.2
          have z1 : h1.2.2.2.1 = 0 → s.heap.size + (cells + (cn h1 - cn h)) ≤ gS G + h1.1.2.2.2 := by
            intro z
            have y1 := a1.1
            have y2 := a1.2.1
            have := hsz (by omega)
            have e1 : cn h = h.1.2.2.2 + h.2.2.2.1 := rfl
            have e2 : cn h1 = h1.1.2.2.2 + h1.2.2.2.1 := rfl
            omega
          refine h_call hC rr hS hl hsz hd ha (fun vs h5 h6 h7 => met_of hfl ih h7 h6 (by rw [← h5]; exact hc)) (by omega) (by omega) ?_ ?_
          · intro v H1 locs1 hv r2 S1
            refine ih M pc1 ls _ h1 r h' (kv v hv) p e R s m args below meth c H1 locs1 _ _ Q lss hC r2 S1 hl z1 (by omega) (by omega) ?_ ?_
            · intro pc2 len2 i2 ls2 st2 h2 H2 locs2 cells2 slots2 lss2 hd2 ha2 rr2 S2 L2 c2 u2
              exact K1 pc2 len2 i2 ls2 st2 h2 H2 locs2 cells2 slots2 lss2 hd2 ha2 rr2 S2 L2 (by omega) (by omega)
            · intro pc2 e2 rest2 H2 locs2 cells2 slots2 lss2 q2 ce he hh rr2 S2 c2 u2 hce hcv hcl
              exact K2 pc2 e2 rest2 H2 locs2 cells2 slots2 lss2 q2 ce he hh rr2 S2 (by omega) (by omega) hce hcv hcl
          · intro e2 H1 locs1 q2 ce he r2 S1 hce hcv hcl
            rcases kx e2 he with ⟨k, t, l2, f1, f2, f3⟩ | ⟨f1, f2, f3⟩
            · rw [hdl_nil] at f1; cases f1
            · subst f3
              exact K2 pc e2 _ H1 locs1 _ _ lss q2 ce f2 f1 r2 S1 (by omega) (by omega) hce hcv hcl
        split at q
        · cases q
        · rename_i v h1 hc
          exact main (.inl v) h1 hc (exN_cle _ _ _ _ _ _ _ _ q).1 (fun v2 hv => by cases hv; exact q) (fun e2 he => by cases he)
        · rename_i e2 h1 hc
          split at q
          · rename_i k t hh
            split at q
            · rename_i l2 hk
              exact main (.inr e2) h1 hc (exN_cle _ _ _ _ _ _ _ _ q).1 (fun v2 hv => by cases hv) (fun e3 he => by cases he; exact Or.inl ⟨k, t, l2, hh, hk, q⟩)
            · cases q
          · cases hm : mHh M with
            | nil =>
              rw [hm] at q
              cases q
              exact main (.inr e2) _ hc cle_rfl (fun v2 hv => by cases hv) (fun e3 he => by cases he; exact Or.inr ⟨hm, rfl, rfl⟩)
            | cons a b => rw [hm] at q; cases q
