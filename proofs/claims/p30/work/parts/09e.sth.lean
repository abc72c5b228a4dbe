/-! any step that is no call and no end -/
def aCtx (G : aG) (M : Nat) (p : Program) (l : Launch) (R : Room) (s : State) (m : MethodId) (args : Array Value) (meth : Method) (c : Code) : Prop :=
  p.tables.exec = Jvm.exec ∧ c.code = mCode M ∧ c.maxLocals = mMax M ∧ s.vm.findClass (oName (mO M)) = some m.cls ∧ (∀ w ∈ lw_tbl, kw w = true → w.before args s = true) ∧ aGl G s ∧ (mFr M ≤ R.frames ∧ 1 ≤ R.frames) ∧ mLo M ≤ R.locals ∧ meth.locks = false ∧ ((mY M).name = "<init>" → meth.name = "<init>") ∧ meth.sig.returnType = mRet M ∧ ((mHh M ≠ [] ∨ mO M = 7) → c.exceptionTable.toList = tableOf (mHh M)) ∧ l.stackTraces = false
theorem sta_in {o i a : Nat} (h : staT o i = some a) : (o = 6 ∧ i = 61 ∧ a = 100003) ∨ (o = 7 ∧ i = 114 ∧ a = 100001) ∨ (o = 7 ∧ i = 117 ∧ a = 100002) := by
  obtain ⟨z, hz, hp⟩ := find_in h
  have := (show ∀ q ∈ staTL, (q.1.1 = 6 ∧ q.1.2 = 61 ∧ q.2 = 100003) ∨ (q.1.1 = 7 ∧ q.1.2 = 114 ∧ q.2 = 100001) ∨ (q.1.1 = 7 ∧ q.1.2 = 117 ∧ q.2 = 100002) by decide +kernel) _ hz
  have e := key2 hp
  dsimp only at e
  subst e
  exact this
theorem sta_w : Cond.fieldLinkNest RX6 61 "ModuleYard" "AT_FIRST" "[I" "ModuleYard" ∈ lw_tbl ∧ Cond.fieldLink RX7 114 "ModuleYard" "LOWEST" "[I" ∈ lw_tbl ∧ Cond.fieldLink RX7 117 "ModuleYard" "HIGHEST" "[I" ∈ lw_tbl := by decide +kernel
theorem init_cl : ∀ ci, ci < 7 → ∀ o, o < 11 → Nat.beq (oKd o) (4 + ci) = true → clC ci = oName o := by decide +kernel
theorem oKd_lt {o ci : Nat} (h : Nat.beq (oKd o) (4 + ci) = true) (hc : ci < 7) : o < 11 := by
  rcases Nat.lt_or_ge o 11 with q | q
  · exact q
  · have : oKd o = 98 := by
      unfold oKd
      rw [List.getD_eq_getElem?_getD, List.getElem?_eq_none (by simp; omega)]
      rfl
    rw [this] at h
    have := Nat.eq_of_beq_eq_true h
    omega
theorem call_no {b : Bool} {M' pc : Nat} {cs' : aL} {rest : List Value} {p' : Nat} {l' : aL} {s' : List Value} {h' : aH} (q : gd b (cl M' cs' pc rest) = nx p' l' s' h') : False := by
  cases b <;> simp [gd, cl, nx] at q
theorem dn_no {b : Bool} {r : aR} {h p' : _} {l' : aL} {s' : List Value} {h' : aH} (q : gd b (dn r h) = nx p' l' s' h') : False := by
  cases b <;> simp [gd, dn, nx] at q
section StH2
variable {p : Program} {l : Launch} {e : Env} {R : Room} {s : State} {m : MethodId} {args : Array Value} {below : List Frame} {meth : Method} {c : Code} {H : Heap} {locs : List Loc} {cells slots : Nat} {Q : State → Prop}
variable {G : aG} {M pc len pc' : Nat} {i : Instr} {ls ls' : aL} {st st' : List Value} {h h' : aH} {lss : Array Slot}
set_option maxHeartbeats 4000000 in
theorem stH (hC : aCtx G M p l R s m args meth c) (r : rep G h H) (hS : va_S (fA G) s.heap H locs) (hl : loc G ls lss (mMax M)) (hsz : h.2.2.2.1 = 0 → s.heap.size + cells ≤ gS G + h.1.2.2.2) (hcr : cells + cn h' ≤ R.cells + cn h) (hsr : slots + us h' ≤ R.slots + us h) (hm : h.2.2.2.1 ≤ h'.2.2.2.1 ∧ h.1.2.2.2 ≤ h'.1.2.2.2 ∧ us h ≤ us h')
    (hd : decode (mCode M) pc = .ok (i, len)) (ha : act M pc len i ls st h = nx pc' ls' st' h') (hp : pureI i = false)
    (kk : ∀ (H1 : Heap) (locs1 : List Loc) (cells1 slots1 : Nat) (lss1 : Array Slot), rep G h' H1 → va_S (fA G) s.heap H1 locs1 → loc G ls' lss1 (mMax M) → cells1 + cn h = cells + cn h' → slots1 + us h = slots + us h' → (h'.2.2.2.1 = 0 → s.heap.size + cells1 ≤ gS G + h'.1.2.2.2) → W p l e R s m args below meth c H1 locs1 cells1 slots1 Q (F0 m pc' lss1 (st'.map (am G)))) : W p l e R s m args below meth c H locs cells slots Q (F0 m pc lss (st.map (am G))) := by
  obtain ⟨hx, hb, hml, hown, hts, hg, hfr, hlo, -, hnm, -, -, -⟩ := hC
  have hml2 : c.maxLocals = lss.size := hml.trans hl.1.1.symm
  cases i
  case ldc k =>
    simp only [act] at ha
    split at ha
    · rename_i a hv
      obtain ⟨h1, rfl, rfl, rfl, rfl⟩ := gd_nx ha
      have h1 := Nat.eq_of_beq_eq_true h1
      subst h1
      exact lv_ldc hx hb hown (hts _ (cst_in hv) rfl) hd (kk H locs cells slots lss r hS hl rfl rfl hsz)
    · simp [nx] at ha
  case getfield k =>
    simp only [act] at ha
    split at ha
    · rename_i a r2 ci j hf
      have hz := gd_br ha
      clear ha
      obtain ⟨h1, ha⟩ := hz
      have h1 := Nat.eq_of_beq_eq_true h1
      subst h1
      split at ha
      · rename_i hk
        obtain ⟨rfl, rfl, rfl, rfl⟩ := nx_nx ha
        refine h_getfield hx hb hown hts hg r hd hf hk ?_
        have f4 := (fld_in hf).2.2.2
        unfold fv
        rw [f4]
        exact (kk H locs cells slots lss r hS hl rfl rfl hsz)
      · simp [nx] at ha
    · rename_i a r2 ci j hf
      have hz := gd_br ha
      clear ha
      obtain ⟨h1, ha⟩ := hz
      have h1 := Nat.eq_of_beq_eq_true h1
      subst h1
      split at ha
      · rename_i hk
        obtain ⟨rfl, rfl, rfl, rfl⟩ := nx_nx ha
        refine h_getfield hx hb hown hts hg r hd hf hk ?_
        have f4 := (fld_in hf).2.2.2
        unfold fv
        rw [f4]
        exact (kk H locs cells slots lss r hS hl rfl rfl hsz)
      · simp [nx] at ha
    · rename_i a r2 ci j hf
      have hz := gd_br ha
      clear ha
      obtain ⟨h1, ha⟩ := hz
      have h1 := Nat.eq_of_beq_eq_true h1
      subst h1
      split at ha
      · rename_i hk
        obtain ⟨rfl, rfl, rfl, rfl⟩ := nx_nx ha
        refine h_getfield hx hb hown hts hg r hd hf hk ?_
        have f4 := (fld_in hf).2.2.2
        unfold fv
        rw [f4]
        exact (kk H locs cells slots lss r hS hl rfl rfl hsz)
      · simp [nx] at ha
    · simp [nx] at ha
  case putfield k =>
    simp only [act] at ha
    split at ha
    · rename_i v a r2 ci j hf
      have hz := gd_br ha
      clear ha
      obtain ⟨h1, ha⟩ := hz
      have h1 := Nat.eq_of_beq_eq_true h1
      subst h1
      split at ha
      · rename_i hk
        obtain ⟨rfl, rfl, rfl, rfl⟩ := nx_nx ha
        have f4 := (fld_in hf).2.2.2
        refine h_putfield (v := .int v) (h' := (h.1, up2 h.2.1 a j v, h.2.2)) hx hb hown hts hg r hS hd hf hk (Or.inl ⟨rfl, v, rfl⟩) rfl (fun b q => ent_ne rfl rfl (up2_ne q) rfl rfl) (ent_4 hk) (fun i hi => ?_) (fun H1 locs1 hP hS1 => kk H1 locs1 cells slots lss (rep_set r hP rfl rfl rfl (fun b q => up2_ne fun z => ?_) r.2.2.1) hS1 hl rfl rfl hsz)
        · unfold fv
          by_cases q : i = j
          · subst q
            rw [if_pos rfl, f4]
            show Value.int (up2 h.2.1 a i v a i) = .int v
            rw [up2_eq, if_pos rfl]
          · rw [if_neg q]
            show (match fTy ci i with | 0 => Value.int (up2 h.2.1 a j v a i) | 1 => .long (h.2.2.1 a i) | _ => am G (h.1.2.2.1 a i)) = _
            rw [up2_eq, if_neg q]; rfl
        · have hal := rep_lt r hk (by omega) (by have := (fld_in hf).2.1; omega)
          have := r.2.1
          rcases q with q | q
          · rw [z, hk] at q; omega
          · omega
      · simp [nx] at ha
    · rename_i v a r2 ci j hf
      have hz := gd_br ha
      clear ha
      obtain ⟨h1, ha⟩ := hz
      have h1 := Nat.eq_of_beq_eq_true h1
      subst h1
      split at ha
      · rename_i hk
        obtain ⟨rfl, rfl, rfl, rfl⟩ := nx_nx ha
        have f4 := (fld_in hf).2.2.2
        refine h_putfield (v := .long v) (h' := (h.1, h.2.1, up2 h.2.2.1 a j v, h.2.2.2)) hx hb hown hts hg r hS hd hf hk (Or.inr (Or.inl ⟨rfl, v, rfl⟩)) rfl (fun b q => ent_ne rfl rfl rfl (up2_ne q) rfl) (ent_4 hk) (fun i hi => ?_) (fun H1 locs1 hP hS1 => kk H1 locs1 cells slots lss (rep_set r hP rfl rfl rfl (fun b q => rfl) r.2.2.1) hS1 hl rfl rfl hsz)
        unfold fv
        by_cases q : i = j
        · subst q
          rw [if_pos rfl, f4]
          show Value.long (up2 h.2.2.1 a i v a i) = .long v
          rw [up2_eq, if_pos rfl]
        · rw [if_neg q]
          show (match fTy ci i with | 0 => Value.int (h.2.1 a i) | 1 => .long (up2 h.2.2.1 a j v a i) | _ => am G (h.1.2.2.1 a i)) = _
          rw [up2_eq, if_neg q]; rfl
      · simp [nx] at ha
    · rename_i v a r2 ci j hf
      have hz := gd_br ha
      clear ha
      obtain ⟨h0, ha⟩ := hz
      obtain ⟨h0, h3⟩ := Bool.and_eq_true_iff.mp h0
      obtain ⟨h1, h2⟩ := Bool.and_eq_true_iff.mp h0
      have h1 := Nat.eq_of_beq_eq_true h1
      subst h1
      split at ha
      · rename_i hk
        obtain ⟨hk, -⟩ := hk
        obtain ⟨rfl, rfl, rfl, rfl⟩ := nx_nx ha
        have f4 := (fld_in hf).2.2.2
        have f2 := (fld_in hf).2.1
        refine h_putfield (v := .ref v) (h' := ((h.1.1, h.1.2.1, up2 h.1.2.2.1 a j (.ref v), h.1.2.2.2), h.2)) hx hb hown hts hg r hS hd hf hk (Or.inr (Or.inr ⟨rfl, ⟨v, rfl⟩, hnm (of_decide_eq_true h2), init_cl ci f2 _ (oKd_lt h3 f2) h3⟩)) rfl (fun b q => ent_ne rfl rfl rfl rfl (up2_ne q)) (ent_4 hk) (fun i hi => ?_) (fun H1 locs1 hP hS1 => kk H1 locs1 cells slots lss (rep_set r hP rfl rfl rfl (fun b q => rfl) (up2_R r.2.2.1)) hS1 hl rfl rfl hsz)
        unfold fv
        by_cases q : i = j
        · subst q
          rw [if_pos rfl, f4]
          show am G (up2 h.1.2.2.1 a i (.ref v) a i) = am G (.ref v)
          rw [up2_eq, if_pos rfl]
        · rw [if_neg q]
          show (match fTy ci i with | 0 => Value.int (h.2.1 a i) | 1 => .long (h.2.2.1 a i) | _ => am G (up2 h.1.2.2.1 a j (.ref v) a i)) = _
          rw [up2_eq, if_neg q]; rfl
      · simp [nx] at ha
    · simp [nx] at ha
  case getstatic k =>
    simp only [act] at ha
    split at ha
    · rename_i a hf
      obtain ⟨h1, rfl, rfl, rfl, rfl⟩ := gd_nx ha
      have h1 := Nat.eq_of_beq_eq_true h1
      subst h1
      obtain ⟨w1, w2, w3⟩ := sta_w
      obtain ⟨-, -, -, ⟨z1, z2, z3⟩, -⟩ := id hg
      rcases sta_in hf with ⟨e1, rfl, rfl⟩ | ⟨e1, rfl, rfl⟩ | ⟨e1, rfl, rfl⟩ <;> rw [e1] at hown
      · exact va_getsN hx hb z3 hS hown (hts _ w1 rfl) (fun z hz => hz) hd (kk H locs cells slots lss r hS hl rfl rfl hsz)
      · exact va_gets hx hb z1 hS hown (hts _ w2 rfl) (fun z hz => hz) hd (kk H locs cells slots lss r hS hl rfl rfl hsz)
      · exact va_gets hx hb z2 hS hown (hts _ w3 rfl) (fun z hz => hz) hd (kk H locs cells slots lss r hS hl rfl rfl hsz)
    · simp [nx] at ha
  case arraylength =>
    simp only [act] at ha
    split at ha
    · have hz := gd_br ha
      clear ha
      obtain ⟨h1, ha⟩ := hz
      have h1 := Nat.eq_of_beq_eq_true h1
      subst h1
      split at ha
      · rename_i hk
        obtain ⟨rfl, rfl, rfl, rfl⟩ := nx_nx ha
        exact h_alen hx hb hg r hS hd hk (kk H locs cells slots lss r hS hl rfl rfl hsz)
      · simp [nx] at ha
    · simp [nx] at ha
  case iaload =>
    simp only [act] at ha
    split at ha
    · have hz := gd_br ha
      clear ha
      obtain ⟨h1, ha⟩ := hz
      have h1 := Nat.eq_of_beq_eq_true h1
      subst h1
      split at ha
      · rename_i hk
        obtain ⟨rfl, rfl, rfl, rfl⟩ := nx_nx ha
        exact h_iaload hx hb hg r hS hd hk.1 hk.2 (kk H locs cells slots lss r hS hl rfl rfl hsz)
      · simp [nx] at ha
    · simp [nx] at ha
  case aaload =>
    simp only [act] at ha
    split at ha
    · have hz := gd_br ha
      clear ha
      obtain ⟨h1, ha⟩ := hz
      have h1 := Nat.eq_of_beq_eq_true h1
      subst h1
      split at ha
      · rename_i hk
        obtain ⟨rfl, rfl, rfl, rfl⟩ := nx_nx ha
        exact h_aaload hx hb hg r hd hk.1 hk.2 (kk H locs cells slots lss r hS hl rfl rfl hsz)
      · simp [nx] at ha
    · simp [nx] at ha
  case iastore =>
    simp only [act] at ha
    split at ha
    · have hz := gd_br ha
      clear ha
      obtain ⟨h1, ha⟩ := hz
      have h1 := Nat.eq_of_beq_eq_true h1
      subst h1
      split at ha
      · rename_i hk
        obtain ⟨rfl, rfl, rfl, rfl⟩ := nx_nx ha
        exact h_iastore hx hb hg r hS hd hk.1 hk.2 (fun H1 locs1 r1 hS1 => kk H1 locs1 cells slots lss r1 hS1 hl rfl rfl hsz)
      · simp [nx] at ha
    · simp [nx] at ha
  case aastore =>
    simp only [act] at ha
    split at ha
    · have hz := gd_br ha
      clear ha
      obtain ⟨h1, ha⟩ := hz
      have h1 := Nat.eq_of_beq_eq_true h1
      subst h1
      split at ha
      · rename_i hk
        obtain ⟨rfl, rfl, rfl, rfl⟩ := nx_nx ha
        exact h_aastore hx hb hg r hS hd hk.1 hk.2.1 hk.2.2 (fun H1 locs1 r1 hS1 => kk H1 locs1 cells slots lss r1 hS1 hl rfl rfl hsz)
      · simp [nx] at ha
    · simp [nx] at ha
  case newarray t =>
    simp only [act] at ha
    split at ha
    · rename_i n r2
      have hz := gd_br ha
      clear ha
      obtain ⟨h1, ha⟩ := hz
      have h1 := Nat.eq_of_beq_eq_true h1
      subst h1
      split at ha
      · rename_i hk
        obtain ⟨rfl, rfl, rfl, rfl⟩ := nx_nx ha
        exact h_newarray hx hb hts hg r hS ⟨rfl, rfl⟩ hd hk.1 hk.2.1 hk.2.2.2 (hsz hk.2.2.1) (by unfold cn mkH at hcr; dsimp only at hcr; omega) (by unfold us mkH at hsr; dsimp only at hsr; omega) (fun H1 r1 hS1 => kk H1 locs (cells + 1) (slots + ix n) lss r1 hS1 hl (by unfold cn mkH; dsimp only; omega) (by unfold us mkH; dsimp only; omega) (fun _ => by have := hsz hk.2.2.1; show _ ≤ gS G + (h.1.2.2.2 + 1); omega))
      · simp [nx] at ha
    · simp [nx] at ha
  case anewarray k =>
    simp only [act] at ha
    split at ha
    · rename_i n r2
      have hz := gd_br ha
      clear ha
      obtain ⟨h0, ha⟩ := hz
      obtain ⟨h0, h3⟩ := Bool.and_eq_true_iff.mp h0
      obtain ⟨h1, h2⟩ := Bool.and_eq_true_iff.mp h0
      have h1 := Nat.eq_of_beq_eq_true h1
      have h2 := Nat.eq_of_beq_eq_true h2
      have h3 := Nat.eq_of_beq_eq_true h3
      subst h1
      subst h3
      split at ha
      · rename_i hk
        obtain ⟨rfl, rfl, rfl, rfl⟩ := nx_nx ha
        exact h_anewarray hx hb hown hts hg r hS h2 hd hk.1 hk.2.1 hk.2.2.2 (hsz hk.2.2.1) (by unfold cn mkH at hcr; dsimp only at hcr; omega) (by unfold us mkH at hsr; dsimp only at hsr; omega) (fun H1 r1 hS1 => kk H1 locs (cells + 1) (slots + ix n) lss r1 hS1 hl (by unfold cn mkH; dsimp only; omega) (by unfold us mkH; dsimp only; omega) (fun _ => by have := hsz hk.2.2.1; show _ ≤ gS G + (h.1.2.2.2 + 1); omega))
      · simp [nx] at ha
    · simp [nx] at ha
  case new k =>
    simp only [act] at ha
    split at ha
    · exact (dn_no ha).elim
    · split at ha
      · rename_i kd n hf
        have hz := gd_br ha
        clear ha
        obtain ⟨h1, ha⟩ := hz
        have h1 := Nat.eq_of_beq_eq_true h1
        subst h1
        split at ha
        · rename_i hk
          obtain ⟨rfl, rfl, rfl, rfl⟩ := nx_nx ha
          exact h_new hx hb hown hts hg r hS hd hf hk.2 (hsz hk.1) (by unfold cn mkH at hcr; dsimp only at hcr; omega) (by unfold us mkH at hsr; dsimp only at hsr; omega) (fun H1 r1 hS1 => kk H1 locs (cells + 1) (slots + n) lss r1 hS1 hl (by unfold cn mkH; dsimp only; omega) (by unfold us mkH; dsimp only; omega) (fun _ => by have := hsz hk.1; show _ ≤ gS G + (h.1.2.2.2 + 1); omega))
        · simp [nx] at ha
      · simp [nx] at ha
  case invokestatic k =>
    simp only [act] at ha
    split at ha
    · exact (call_no ha).elim
    · split at ha
      · rename_i q hf
        have hz := gd_br ha
        clear ha
        obtain ⟨h0, ha⟩ := hz
        obtain ⟨h0, h5⟩ := Bool.and_eq_true_iff.mp h0
        obtain ⟨h1, h2⟩ := Bool.and_eq_true_iff.mp h0
        have h1 := Nat.eq_of_beq_eq_true h1
        have h2 := Nat.le_of_ble_eq_true h2
        subst h1
        exact h_prm hx hb hml2 hown hts hg r hS hf (Or.inl ⟨hd, by omega⟩) hfr.2 (by unfold cn at hcr; omega) (by omega) ha (fun _ => Nat.blt_eq.mp h5) (fun el H1 locs1 r1 hS1 e1 e2 => by
          subst el
          have ecn : cn h' = cn h := by unfold cn; rw [e1, e2]
          have eus : us h' = us h := by unfold us; rw [e2]
          exact kk H1 locs1 cells slots lss r1 hS1 hl (by rw [ecn]) (by rw [eus]) (by rw [e1, e2]; exact hsz))
      · simp [nx] at ha
  case invokespecial k =>
    simp only [act] at ha
    split at ha
    · split at ha
      · have hz := gd_br ha
        clear ha
        obtain ⟨h0, ha⟩ := hz
        split at ha
        · simp [cl, nx] at ha
        · simp [nx] at ha
      · simp [nx] at ha
    · split at ha
      · rename_i q hf
        have hz := gd_br ha
        clear ha
        obtain ⟨h0, ha⟩ := hz
        obtain ⟨h0, h2⟩ := Bool.and_eq_true_iff.mp h0
        obtain ⟨h1, h3⟩ := Bool.and_eq_true_iff.mp h0
        have h1 := Nat.eq_of_beq_eq_true h1
        have h2 := Nat.le_of_ble_eq_true h2
        have h3 := Nat.eq_of_beq_eq_true h3
        subst h1
        exact h_prm hx hb hml2 hown hts hg r hS hf (Or.inr ⟨hd, h3, by omega⟩) hfr.2 (by unfold cn at hcr; omega) (by omega) ha (fun z => by rw [hd] at z; cases z) (fun el H1 locs1 r1 hS1 e1 e2 => by
          subst el
          have ecn : cn h' = cn h := by unfold cn; rw [e1, e2]
          have eus : us h' = us h := by unfold us; rw [e2]
          exact kk H1 locs1 cells slots lss r1 hS1 hl (by rw [ecn]) (by rw [eus]) (by rw [e1, e2]; exact hsz))
      · simp [nx] at ha
  case invokevirtual k =>
    simp only [act] at ha
    split at ha
    · split at ha
      · have hz := gd_br ha
        clear ha
        obtain ⟨h0, ha⟩ := hz
        split at ha
        · simp [cl, nx] at ha
        · simp [nx] at ha
      · simp [nx] at ha
    · simp [nx] at ha
  case invokeinterface k n =>
    simp only [act] at ha
    split at ha
    · split at ha
      · have hz := gd_br ha
        clear ha
        obtain ⟨h0, ha⟩ := hz
        split at ha
        · simp [cl, nx] at ha
        · split at ha
          · simp [cl, nx] at ha
          · simp [nx] at ha
      · simp [nx] at ha
    · simp [nx] at ha
  case ireturn =>
    simp only [act] at ha
    split at ha
    · exact (dn_no ha).elim
    · simp [nx] at ha
  case lreturn =>
    simp only [act] at ha
    split at ha
    · exact (dn_no ha).elim
    · simp [nx] at ha
  case dreturn =>
    simp only [act] at ha
    split at ha
    · exact (dn_no ha).elim
    · simp [nx] at ha
  case return_ =>
    simp only [act] at ha
    split at ha
    · exact (dn_no ha).elim
    · simp [nx] at ha
  all_goals first | (cases hp; done) | (simp [act, nx] at ha; done)
end StH2
