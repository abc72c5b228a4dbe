/-! ends: an exception thrown, a value returned; an exception caught; the whole run of a frame -/
def thrX : List (((Nat × Nat) × Nat) × (Nat × Nat × Nat)) := [(((58, 23), 1), (64, 0, 0)), (((58, 54), 2), (78, 0, 1)), (((58, 109), 2), (93, 0, 2)), (((59, 26), 2), (105, 0, 3)), (((60, 22), 1), (120, 0, 4)), (((61, 19), 2), (128, 0, 5)), (((62, 23), 1), (144, 0, 6)), (((62, 68), 2), (155, 0, 7)), (((63, 44), 2), (161, 0, 8)), (((64, 35), 1), (175, 0, 9)), (((64, 76), 2), (177, 0, 10)), (((65, 47), 2), (182, 0, 11)), (((66, 12), 1), (187, 0, 12)), (((66, 34), 2), (192, 0, 13)), (((68, 14), 1), (208, 0, 14)), (((68, 36), 2), (213, 0, 15)), (((69, 14), 1), (219, 0, 16)), (((69, 36), 2), (224, 0, 17)), (((74, 11), 1), (276, 1, 18)), (((86, 15), 0), (384, 1, 19)), (((87, 22), 0), (387, 1, 20)), (((88, 13), 2), (389, 1, 21)), (((89, 9), 0), (391, 1, 22)), (((90, 9), 0), (393, 1, 23)), (((91, 11), 1), (395, 1, 24)), (((92, 9), 1), (397, 1, 25))]
def ikE (e : Nat) : Nat := [382, 62, 76].getD e 0
def icE (e : Nat) : Nat := [386, 66, 80].getD e 0
abbrev exSup : List String := ["java/lang/RuntimeException", "java/lang/Exception"]
theorem thrX_fst : thrX.map (fun e => e.1) = thrL := by decide +kernel
theorem thrX_ok : thrX.all (fun q => decide (q.1.2 < 3) && decide (mO q.1.1.1 = 7) && (mHh q.1.1.1).isEmpty && decide (decode (mCode q.1.1.1) q.1.1.2 = .ok (.new (ikE q.1.2), 3)) && decide (decode (mCode q.1.1.1) (q.1.1.2 + 3) = .ok (.dup, 1)) && (match q.2.2.1 with
    | 0 => decide (decode (mCode q.1.1.1) (q.1.1.2 + 4) = .ok (.ldc q.2.1, 2)) && decide (decode (mCode q.1.1.1) (q.1.1.2 + 6) = .ok (.invokespecial (icE q.1.2), 3)) && decide (decode (mCode q.1.1.1) (q.1.1.2 + 9) = .ok (.athrow, 1))
    | _ => decide (decode (mCode q.1.1.1) (q.1.1.2 + 4) = .ok (.ldc_w q.2.1, 3)) && decide (decode (mCode q.1.1.1) (q.1.1.2 + 7) = .ok (.invokespecial (icE q.1.2), 3)) && decide (decode (mCode q.1.1.1) (q.1.1.2 + 10) = .ok (.athrow, 1))) && decide ((strL[q.2.2.2]?).map (fun z => z.1) = some q.2.1)) = true := by decide +kernel
theorem thr_w : ∀ e, e < 3 → (∀ w ∈ Cond.classLink RX7 (ikE e) (exNm e) :: Cond.initialized (exNm e) :: vx_atS RX7 (icE e) (exNm e) exSup, vx_ot w = true) ∧ Bundle.fit (exNm e) = true := by decide +kernel
theorem thr_in : ∀ e, e < 3 → ∀ w ∈ Cond.classLink RX7 (ikE e) (exNm e) :: Cond.initialized (exNm e) :: vx_atS RX7 (icE e) (exNm e) exSup, w ∈ lw_tbl ∧ kw w = true := by decide +kernel
theorem thr_f : ∀ n ∈ exSup, Bundle.fit n = true := by decide +kernel
section StE
variable {p : Program} {l : Launch} {e : Env} {R : Room} {s : State} {m : MethodId} {args : Array Value} {below : List Frame} {meth : Method} {c : Code} {H : Heap} {locs : List Loc} {cells slots : Nat} {Q : State → Prop}
variable {G : aG} {M pc len pc' : Nat} {i : Instr} {ls ls' : aL} {st st' : List Value} {h h' : aH} {lss : Array Slot}
theorem rep_bmp (r : rep G h H) {H1 : Heap} (hq : ∀ q : Nat, q < H.size → H1[q]? = H[q]?) : rep G (bmp h) H1 := by
  obtain ⟨r1, r2⟩ := r
  refine ⟨?_, r2⟩
  show va_P (gD G) vwCl (wsL G h) H1
  exact r1.kept fun k q hk => hq _ ((r1 k q hk).lt)
theorem h_throw {k e2 mc ms : Nat} {Rr : aR} (hC : aCtx G M p l R s m args meth c) (r : rep G h H) (hS : va_S (fA G) s.heap H locs) (hl : loc G ls lss (mMax M)) (hd : decode (mCode M) pc = .ok (.new k, 3)) (hf : thrT M pc = some e2) (hfr : 6 ≤ mFr M) (hlo : 103 ≤ mLo M) (hcs : cs st ≤ 8)
    (hcr : cells + 1 ≤ R.cells) (hsr : slots + 6 ≤ R.slots) (hmc : cells + 1 ≤ mc) (hms : slots + 6 ≤ ms) : W p l e R s m args below meth c H locs cells slots (vx_MQ below (aQc G Rr h') (aXC G (.inr e2) (bmp h)) args s mc ms (fA G)) (F0 m pc lss (st.map (am G))) := by
  obtain ⟨hx, hb, hml, hown, hts, hg, hfr2, hlo2, hlk, -, -, htb, hfl⟩ := hC
  obtain ⟨a, ha, hp⟩ := find_in hf
  have eo := key2 hp
  dsimp only at eo
  subst eo
  obtain ⟨w, hw⟩ := tab_in thrX_fst ha
  have := List.all_eq_true.mp thrX_ok _ hw
  simp only [Bool.and_eq_true, decide_eq_true_eq] at this
  obtain ⟨⟨⟨⟨⟨⟨q1, q2⟩, q3⟩, q4⟩, q5⟩, q6⟩, q7⟩ := this
  have q3 := List.isEmpty_iff.mp q3
  have htb := htb (Or.inr q2)
  rw [q3] at htb
  rw [q2] at hown
  obtain ⟨t1, t2⟩ := thr_w e2 q1
  have t3 := thr_in e2 q1
  obtain ⟨hK, -, -, -, -, ⟨z1, z2⟩, -, hstr⟩ := hg
  have hin : ∀ w ∈ Cond.classLink RX7 (ikE e2) (exNm e2) :: Cond.initialized (exNm e2) :: vx_atS RX7 (icE e2) (exNm e2) exSup, w.before args s = true := fun w hw => hts w (t3 w hw).1 (t3 w hw).2
  obtain ⟨str, hs1, hs2⟩ := Option.map_eq_some_iff.mp q7
  obtain ⟨sa, hsa⟩ := hstr str (List.mem_of_getElem? hs1)
  rw [hs2] at hsa
  have hcs2 : ((st.map (am G)).map fun v => v.category).sum + (13 * (exSup.length + 1) + 43) ≤ R.locals := by
    rw [cs_am]
    show cs st + (13 * 3 + 43) ≤ _
    omega
  have hfr3 : exSup.length + 3 < R.frames := by
    show 2 + 3 < _
    omega
  have hout : ∀ (pc2 : Nat), ∀ x ∈ c.exceptionTable.toList, covers x pc2 = false := fun pc2 x hx => by rw [htb] at hx; cases hx
  have hxc : ∀ t : State, s.vm.Alike t.vm → H.size ≤ t.heap.size → (∀ q : Nat, q < H.size → t.heap[q]? = H[q]?) → aXC G (.inr e2) (bmp h) (exNm e2) s t := fun t hv hz hq => ⟨e2, rfl, rfl, rep_bmp r hq, Nat.le_trans hS.1 hz, fun q h1 h2 => (hq q (Nat.lt_of_lt_of_le h1 hS.1)).trans (hS.2.1 q h1 h2)⟩
  split at q6
  · simp only [Bool.and_eq_true, decide_eq_true_eq] at q6
    exact vx_throwS (own := RX7) (cls := exNm e2) (text := str.2) (names := exSup) hx hb hfl hown t2 thr_f (hin _ List.mem_cons_self) (hin _ (List.mem_cons_of_mem _ List.mem_cons_self)) hsa (fun w hw => hin w (List.mem_cons_of_mem _ (List.mem_cons_of_mem _ hw))) t1 z1 z2 hS (hl.1.1.trans hml.symm) q4 q5 q6.1.1 q6.1.2 q6.2 (hout _) hfr3 hcs2 hcr hsr hlk hxc hS.2.2 hmc hms
  · simp only [Bool.and_eq_true, decide_eq_true_eq] at q6
    exact vx_throwSW (own := RX7) (cls := exNm e2) (text := str.2) (names := exSup) hx hb hfl hown t2 thr_f (hin _ List.mem_cons_self) (hin _ (List.mem_cons_of_mem _ List.mem_cons_self)) hsa (fun w hw => hin w (List.mem_cons_of_mem _ (List.mem_cons_of_mem _ hw))) t1 z1 z2 hS (hl.1.1.trans hml.symm) q4 q5 q6.1.1 q6.1.2 q6.2 (hout _) hfr3 hcs2 hcr hsr hlk hxc hS.2.2 hmc hms
/-- a method's own end -/
theorem h_end {r : aR} {mc ms : Nat} (hC : aCtx G M p l R s m args meth c) (rr : rep G h H) (hS : va_S (fA G) s.heap H locs) (hl : loc G ls lss (mMax M)) (hd : decode (mCode M) pc = .ok (i, len)) (ha : act M pc len i ls st h = dn r h')
    (hmc : cells + cn h' = mc + cn h) (hms : slots + us h' = ms + us h) (hcr : mc ≤ R.cells) (hsr : ms ≤ R.slots) : W p l e R s m args below meth c H locs cells slots (vx_MQ below (aQc G r h') (aXC G r h') args s mc ms (fA G)) (F0 m pc lss (st.map (am G))) := by
  obtain ⟨hx, hb, -, -, -, -, -, -, hlk, -, hrt, -, -⟩ := id hC
  have no : ∀ {b : Bool} {o : aO}, gd b o = dn r h' → b = true ∧ o = dn r h' := by
    intro b o q
    cases b
    · simp [gd, dn] at q
    · exact ⟨rfl, q⟩
  have dd : ∀ {r2 : aR} {h2 : aH}, dn r2 h2 = dn r h' → r2 = r ∧ h2 = h' := by
    intro r2 h2 q
    simp only [dn, Option.some.injEq, Sum.inr.injEq, Sum.inl.injEq, Prod.mk.injEq] at q
    exact q
  have hq : ∀ (v : Option Value), r = .inl v → h' = h → ∀ t : State, t.heap = H → s.WarmedH t.vm → aQc G r h' args s (.returned (v.map (am G))) t := fun v e1 e2 t hT _ => ⟨v, e1, rfl, by rw [hT, e2]; exact rr, by rw [hT]; exact hS.1, by rw [hT]; exact hS.2.1⟩
  cases i <;> simp only [act] at ha
  case ireturn =>
    split at ha
    · rename_i a
      obtain ⟨h1, h2⟩ := no ha
      obtain ⟨rfl, rfl⟩ := dd h2
      obtain ⟨h1, h3⟩ := Bool.and_eq_true_iff.mp h1
      have h1 := Nat.eq_of_beq_eq_true h1
      subst h1
      obtain rfl : cells = mc := by omega
      obtain rfl : slots = ms := by omega
      unfold nrw at h3
      split at h3
      · rename_i hr
        exact vx_ret (W.iret hx hb (hrt.trans hr) (hq (some (.int a)) rfl rfl) hS.2.2 hd hlk)
      · rename_i hr
        refine vx_ret (W.zret hx hb (hrt.trans hr) ?_ (hq (some (.int a)) rfl rfl) hS.2.2 hd hlk)
        rcases Bool.or_eq_true_iff.mp h3 with z | z
        · rw [of_decide_eq_true z]; rfl
        · rw [of_decide_eq_true z]; rfl
      · cases h3
    · simp [dn] at ha
  case lreturn =>
    split at ha
    · rename_i a
      obtain ⟨h1, h2⟩ := no ha
      obtain ⟨rfl, rfl⟩ := dd h2
      obtain ⟨h1, h3⟩ := Bool.and_eq_true_iff.mp h1
      have h1 := Nat.eq_of_beq_eq_true h1
      subst h1
      obtain rfl : cells = mc := by omega
      obtain rfl : slots = ms := by omega
      exact vx_ret (W.lret hx hb (hrt.trans (of_decide_eq_true h3)) (hq (some (.long a)) rfl rfl) hS.2.2 hd hlk)
    · simp [dn] at ha
  case dreturn =>
    split at ha
    · rename_i a
      obtain ⟨h1, h2⟩ := no ha
      obtain ⟨rfl, rfl⟩ := dd h2
      obtain ⟨h1, h3⟩ := Bool.and_eq_true_iff.mp h1
      have h1 := Nat.eq_of_beq_eq_true h1
      subst h1
      obtain rfl : cells = mc := by omega
      obtain rfl : slots = ms := by omega
      exact vx_ret (W.dret hx hb (hrt.trans (of_decide_eq_true h3)) (hq (some (.double a)) rfl rfl) hS.2.2 hd hlk)
    · simp [dn] at ha
  case return_ =>
    split at ha
    · obtain ⟨h1, h2⟩ := no ha
      obtain ⟨rfl, rfl⟩ := dd h2
      obtain ⟨h1, h3⟩ := Bool.and_eq_true_iff.mp h1
      have h1 := Nat.eq_of_beq_eq_true h1
      subst h1
      obtain rfl : cells = mc := by omega
      obtain rfl : slots = ms := by omega
      exact vx_ret (W.vret hx hb (hrt.trans (of_decide_eq_true h3)) (hq none rfl rfl) hS.2.2 hd hlk)
    · simp [dn] at ha
  case new k =>
    split at ha
    · rename_i e2 he
      obtain ⟨h0, h2⟩ := no ha
      obtain ⟨rfl, rfl⟩ := dd h2
      obtain ⟨h0, h5⟩ := Bool.and_eq_true_iff.mp h0
      obtain ⟨h0, h4⟩ := Bool.and_eq_true_iff.mp h0
      obtain ⟨h1, h3⟩ := Bool.and_eq_true_iff.mp h0
      have h1 := Nat.eq_of_beq_eq_true h1
      subst h1
      have e1 : cn (bmp h) = cn h + 1 := by unfold cn bmp; dsimp only; omega
      have e2 : us (bmp h) = us h + 6 := rfl
      exact h_throw hC rr hS hl hd he (Nat.le_of_ble_eq_true h3) (Nat.le_of_ble_eq_true h4) (Nat.le_of_ble_eq_true h5) (by omega) (by omega) (by omega) (by omega)
    · split at ha
      · have hz := (no ha).2
        split at hz
        · simp [nx, dn] at hz
        · simp [dn] at hz
      · simp [dn] at ha
  all_goals
    exfalso
    (repeat' split at ha) <;>
    first
    | (simp [dn] at ha; done)
    | (simp [gd, nx, cl, dn] at ha; done)
    | (have hz := (no ha).2; simp [nx, cl, dn] at hz; done)
    | (have hz := (no ha).2; unfold aprm at hz; (repeat' split at hz) <;> (first | (simp [dn] at hz; done) | (have hy := (no hz).2; simp [nx, dn] at hy; done)))
end StE
