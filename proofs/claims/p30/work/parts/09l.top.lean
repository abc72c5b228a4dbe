-- ===== end of PART A; then your names; then what follows =====
/-! THE CLAIM OUT OF ONE WALK OF THE LAW'S BODY. Your part is whole_start (and what it stands on); all else here is the same for every law, but numbers. -/
def R_law : String := "ModuleYardLaw"
def lw_P (b : Addr) (xs : List Int32) (args : Array Value) (s : State) : Prop := args = #[.ref b] ∧ s.IntsAt b xs ∧ xs.length ≤ 260 ∧ (Jvm.Cond.and given_1 narrow_1).before args s = true
/-- what a walk over the start with the record d0 says of its end, said of the start itself -/
theorem lw_closed {s t : State} {o : Outcome} {d0 : Drawn} {L : List Loc} {k n : Nat} (hd0 : s.drawn.sameBut d0 lw_cs) (hv : ∃ v, o = .returned v) (hW : (s.setDrawn d0).WarmedH t.vm) (hs : (s.setDrawn d0).sameButNew ({ t with vm := s.vm } : State) L k n) : State.butDraws s t lw_cs (fun t1 => Framed s o t1 L k n) := by
  have h2 : t.drawn = d0 := congrArg State.drawn hs.1
  refine ⟨⟨hv, hW, State.sameButNew.setDrawn hs s.drawn⟩, ?_, by decide⟩
  rw [h2]
  exact hd0
def lw_Q (_ : Array Value) (s : State) (o : Outcome) (t : State) : Prop := o = .returned (some (.int 1)) ∧ State.butDraws s t lw_cs (fun t1 => Framed s o t1 [] 600086 7301442)
def lw_Z (below : List Frame) (a : Array Value) (s : State) : State → Prop := fun t => ∃ o, t.status = .running ∧ Ended t below o ∧ lw_Q a s o t
/-- the law's own end, with 1 on the stack, nothing written that was there before, its room as the claim has it; d0: the record of draws at this point (at the entry s.drawn: begin with 'refine W.base ?_' and 'have hd0 := Drawn.sameBut.refl s.drawn lw_cs') -/
theorem lw_ret {p : Program} {l : Launch} {e : Env} {s : State} {m : MethodId} {below : List Frame} {meth : Method} {c : Code} {b : Nat} {d0 : Drawn} (hd0 : s.drawn.sameBut d0 lw_cs) (hx : p.tables.exec = Jvm.exec) (hb : c.code = code) (hr : meth.sig.returnType = ret) (hlocks : meth.locks = false) {pc : Nat} {H : Heap} {ls : Array Slot} (hdg : decode code pc = .ok (.ireturn, 1)) : W p l e room_1 (s.setDrawn d0) m #[Value.ref b] below meth c H [] 600086 7301442 (lw_Z below #[Value.ref b] s) (F0 m pc ls [.int 1]) := by
  intro T hT X
  obtain ⟨fs, hret, hrun, hended, hW, hframe⟩ := X.leave (v := some (.int 1)) (hlocks := hlocks) (fun h => by rw [hr] at h; cases h)
  have hmeth' : T.vm.method? m = some meth := X.method'
  refine ⟨T.setFrames fs, ?_, .returned (some (.int 1)), hrun, hended, rfl, lw_closed hd0 ⟨_, rfl⟩ hW hframe⟩
  jvm_step X.here [X.here.top, hx, hb, hdg, hmeth', hr, ret, narrow_b1]
  (try refine ⟨rfl, ?_⟩); (try refine ⟨rfl, ?_⟩)
  first | (intro acts; rw [hret _ acts rfl rfl rfl]) | rw [hret _ _ rfl rfl rfl]
  exact Steps.refl _
/-- what holds at the law's entry: the machine, the code, the tables' words (any of lw_tbl by 'hts w (by decide +kernel)'), the script of L ints xs at the cell b, what the Statement gives of the start (any of its parts by flat_of_before) -/
def lw_At (p : Program) (s : State) (m : MethodId) (meth : Method) (c : Code) (b L : Nat) (xs : Nat → Int32) : Prop :=
  p.tables.exec = Jvm.exec ∧ c.code = code ∧ meth.sig.returnType = ret ∧ c.maxLocals = 14 ∧ s.vm.findClass R_law = some m.cls ∧ (∀ w ∈ lw_tbl, w.before #[Value.ref b] s = true) ∧ va_X b L xs s s.heap ∧ b < s.heap.size ∧ meth.locks = false ∧ (Jvm.Cond.and given_1 narrow_1).before #[Value.ref b] s = true
theorem gd_dn {b : Bool} {o : aO} {r : aR} {h : aH} (q : gd b o = dn r h) : b = true ∧ o = dn r h := by
  cases b
  · simp [gd, dn] at q
  · exact ⟨rfl, q⟩
def h00 (L : Nat) (xs : Nat → Int32) : aH := ((fun a => if 100000 ≤ a ∧ a < 100004 then 3 else 99, fun a => if a = 100000 then L else 5, fun _ _ => .null, 0), fun a => if a = 100000 then xs else if a = 100001 then fLow else if a = 100002 then fHigh else fFirst, fun _ _ => 0, (0, 0))
theorem top_in : ∀ ci, ci < 7 → Cond.instantiable (clC ci) (fN ci) ∈ lw_tbl := by decide +kernel
theorem top_w : (Cond.arrayClass .int ∈ lw_tbl ∧ Cond.arrayOver (.object RYard) ∈ lw_tbl) ∧ (Cond.laysStatic "ModuleYard" "LOWEST" "[I" ∈ lw_tbl ∧ Cond.laysStatic "ModuleYard" "HIGHEST" "[I" ∈ lw_tbl ∧ Cond.laysStatic "ModuleYard" "AT_FIRST" "[I" ∈ lw_tbl ∧ Cond.initialized "ModuleYard" ∈ lw_tbl) ∧ (Cond.laysStatic Bundle.tN "UNASSIGNED_STACK" Bundle.steD ∈ lw_tbl ∧ Cond.laysStatic Bundle.tN "SUPPRESSED_SENTINEL" Bundle.listD ∈ lw_tbl ∧ Cond.initialized Bundle.tN ∈ lw_tbl) := by decide +kernel
theorem top_s : ∀ q ∈ strL, Cond.stringRef RX7 q.1 q.2 ∈ lw_tbl := by decide +kernel
theorem top_rep {G : aG} {s : State} (hG : gB G = gB G) : rep G (h00 (gN G) (gX G)) s.heap := by
  refine ⟨fun k q hk => ?_, Nat.zero_le _, fun a j => Or.inl rfl, fun a _ => ?_, fun a ha => absurd ha (Nat.not_lt_zero a), ⟨rfl, rfl⟩, ⟨rfl, rfl⟩, ⟨rfl, rfl⟩, ⟨rfl, rfl⟩, fun a ha => ?_⟩
  · exact absurd (wsL_inv hk).1 (Nat.not_lt_zero k)
  · show (if 100000 ≤ a ∧ a < 100004 then 3 else 99) = 3 ∨ (if 100000 ≤ a ∧ a < 100004 then 3 else 99) = 99
    split
    · exact Or.inl rfl
    · exact Or.inr rfl
  · have ha : (if 100000 ≤ a ∧ a < 100004 then 3 else 99) = 3 := ha
    split at ha
    · omega
    · cases ha
set_option maxHeartbeats 4000000 in
theorem top_gl {s : State} {b L : Nat} {xs : Nat → Int32} (hts : ∀ w ∈ lw_tbl, w.before #[Value.ref b] s = true) (hX : va_X b L xs s s.heap) (hbl : b < s.heap.size) (hgv : (Jvm.Cond.and given_1 narrow_1).before #[Value.ref b] s = true) :
    ∃ (t : Nat × Nat × Nat) (D : va_G) (cc : ClassId × ClassId × ClassId), aGl (s.heap.size, s.heap, (b, L, xs), t, D, cc) s := by
  have hs := flat_of_before _ hgv
  obtain ⟨⟨w1, w3⟩, ⟨w4, w5, w6, w7⟩, ⟨w8, w9, w10⟩⟩ := top_w
  have hA : ∀ a : Nat, a < s.heap.size → ¬ (fun q : Nat => s.heap.size ≤ q) a := fun a h => Nat.not_le.mpr h
  obtain ⟨c1, k1, m1, e1, e2, e3⟩ := Cond.arrayClass_spec (hts _ w1)
  obtain ⟨m3, c3, k3, g1, -, g2, g3, g4⟩ := Cond.arrayOver_spec (hts _ w3)
  have h1 : ∀ ci : Nat, ∃ z : ClassId × (Nat → Nat), ci < 7 → u_Kn s (clC ci) (clT ci) (fN ci) z.1 z.2 := by
    intro ci
    by_cases hc : ci < 7
    · obtain ⟨a, q, h⟩ := u_known (C := clC ci) (T := clT ci) (N := fN ci) hts (fun w hw => (cl_ws0 ci hc w hw).1) (hts _ (top_in ci hc))
      exact ⟨(a, q), fun _ => h⟩
    · exact ⟨(c1, fun _ => 0), fun h => absurd h hc⟩
  obtain ⟨fD, hD⟩ := Classical.axiomOfChoice h1
  have stat : ∀ (n : String) (f : Nat → Int32), Cond.laysStatic "ModuleYard" n "[I" ∈ lw_tbl → (Cond.arrayOf (.static "ModuleYard" n "[I") .int).before #[Value.ref b] s = true → (Cond.eq (.length (.static "ModuleYard" n "[I")) (.int 5)).before #[Value.ref b] s = true → (∀ j : Nat, j < 5 → (Cond.eq (.elem (.static "ModuleYard" n "[I") (.int (Int32.ofNat j))) (.int (f j))).before #[Value.ref b] s = true) →
      ∃ t : Nat, va_Z "ModuleYard" n "[I" (.ref t) (fun q => s.heap.size ≤ q) s s.heap ∧ va_T .int t 5 (fun j => .int (f j)) (fun q => s.heap.size ≤ q) s s.heap := by
    intro n f hw ha hl he
    obtain ⟨t, ht, hT⟩ := va_Tof (N := 5) (f := fun j => .int (f j)) (by omega) ha (va_eqt hl) (fun j hj => va_eqt (he j hj)) hA
    exact ⟨t, va_Zref (hts _ hw) (hts _ w7) ht hA, hT⟩
  have five : ∀ {P : Nat → Prop}, P 0 → P 1 → P 2 → P 3 → P 4 → ∀ j : Nat, j < 5 → P j := by
    intro P p0 p1 p2 p3 p4 j hj
    rcases (show j = 0 ∨ j = 1 ∨ j = 2 ∨ j = 3 ∨ j = 4 by omega) with rfl | rfl | rfl | rfl | rfl
    · exact p0
    · exact p1
    · exact p2
    · exact p3
    · exact p4
  obtain ⟨t1, z1, y1⟩ := stat "LOWEST" fLow w4 (hs _ (by decide +kernel)) (hs _ (by decide +kernel)) (five (hs _ (by decide +kernel)) (hs _ (by decide +kernel)) (hs _ (by decide +kernel)) (hs _ (by decide +kernel)) (hs _ (by decide +kernel)))
  obtain ⟨t2, z2, y2⟩ := stat "HIGHEST" fHigh w5 (hs _ (by decide +kernel)) (hs _ (by decide +kernel)) (five (hs _ (by decide +kernel)) (hs _ (by decide +kernel)) (hs _ (by decide +kernel)) (hs _ (by decide +kernel)) (hs _ (by decide +kernel)))
  obtain ⟨t3, z3, y3⟩ := stat "AT_FIRST" fFirst w6 (hs _ (by decide +kernel)) (hs _ (by decide +kernel)) (five (hs _ (by decide +kernel)) (hs _ (by decide +kernel)) (hs _ (by decide +kernel)) (hs _ (by decide +kernel)) (hs _ (by decide +kernel)))
  refine ⟨(t1, t2, t3), (fun ci => (fD ci).1, fun ci => (fD ci).2), (c1, c1, c3), ⟨fun ci q hq => ?_, fun k q hq => ?_⟩, hX, ⟨hbl, Nat.le_refl _⟩, ⟨z1, z2, z3⟩, ⟨y1, y2, y3⟩, ⟨vx_Zqof (hts _ w8) (hts _ w10) (hs _ (by decide +kernel)) hA, vx_Zqof (hts _ w9) (hts _ w10) (hs _ (by decide +kernel)) hA⟩, va_AO.of (hts _ w3), fun q hq => ?_⟩
  · have hc : ci < 7 := (List.getElem?_eq_some_iff.mp hq).1
    rw [cl_get ci hc] at hq
    cases hq
    exact hD ci hc
  · have hc : k < 2 := (List.getElem?_eq_some_iff.mp hq).1
    rcases (show k = 0 ∨ k = 1 by omega) with rfl | rfl
    · cases hq
      exact ⟨fun n z => ⟨fun k h => (by cases h), k1, e2, m1, e3⟩, e1⟩
    · cases hq
      exact ⟨fun n z => ⟨fun k h => (by cases h), k3, g2, m3, g3⟩, k3, m3, g2, g3, g1, g4⟩
  · obtain ⟨a, _, _, _, q1, -⟩ := Cond.exactly_spec (args := #[Value.ref b]) (first := s) (o := none) (s := s) (idx := []) (t := .string RX7 q.1) (cls := "java/lang/String") (hs _ ((show ∀ q ∈ strL, Cond.exactly (.string RX7 q.1) "java/lang/String" ∈ flatC (Jvm.Cond.and given_1 narrow_1) by decide +kernel) q hq))
    exact ⟨a, vk_R.of (hts _ (top_s q hq)) q1⟩
set_option maxHeartbeats 4000000 in
theorem start_of {p : Program} {e : Env} {s : State} {m : MethodId} {below : List Frame} {meth : Method} {c : Code} (l : Launch) (hflags : l.flags = flags0) {b L : Nat} {xs : Nat → Int32} (C0 : lw_At p s m meth c b L xs) {h' : aH} (hsp : ex 115 0 (lay 14 [.ref 100000]) [] (h00 L xs) = some (.inl (some (.int 1)), h')) (hc1 : cn h' ≤ 600086) (hu1 : us h' ≤ 7301442) : W p l e room_1 s m #[Value.ref b] below meth c s.heap [] 0 0 (lw_Z below #[Value.ref b] s) (entryFrame m ([Value.ref b] : List Value).toArray 14) := by
  obtain ⟨hx, hb, hr, hml, hown, hts, hX, hbl, hlocks, hgv⟩ := id C0
  obtain ⟨t, D, cc, hg⟩ := top_gl hts hX hbl hgv
  obtain ⟨G, hG⟩ : ∃ G : aG, G = (s.heap.size, s.heap, (b, L, xs), t, D, cc) := ⟨_, rfl⟩
  rw [← hG] at hg
  have gb : gB G = b := by rw [hG]
  have gs : gS G = s.heap.size := by rw [hG]
  have gn : gN G = L := by rw [hG]
  have gx : gX G = xs := by rw [hG]
  have hfl : l.stackTraces = false := by unfold Launch.stackTraces; rw [hflags]; decide +kernel
  obtain ⟨n, hn⟩ := ex_some.mp hsp
  have hC : aCtx G 115 p l room_1 s m #[Value.ref b] meth c := ⟨hx, hb, hml, hown, fun w h1 _ => hts w h1, hg, by decide +kernel, by decide +kernel, hlocks, fun z => absurd z (by decide +kernel), hr, fun z => absurd z (by decide +kernel), hfl⟩
  have hm : ([Value.ref 100000] : List Value).map (am G) = [Value.ref b] := by
    show [Value.ref (ad G 100000)] = _
    unfold ad
    rw [if_pos rfl, gb]
  have hl := loc_lay (G := G) (vs := [.ref 100000]) (n := 14) (by decide)
  rw [hm] at hl
  rw [lg_entry_eq]
  refine frm (G := G) hfl n 115 0 _ [] _ _ _ hn p e room_1 s m _ below meth c s.heap [] 0 0 _ _ hC (by rw [← gn, ← gx]; exact top_rep rfl) va_S.rf hl (fun _ => by rw [gs]; exact Nat.le_refl _) ?_ ?_ ?_ ?_
  · show 0 + cn h' ≤ 600086 + 0
    omega
  · show 0 + us h' ≤ 7301442 + 0
    omega
  · intro pc2 len2 i2 ls2 st2 h2 H2 locs2 cells2 slots2 lss2 hd ha rr S2 L2 c2 u2
    have hcl := (act_dcle ha).1
    have b1 := cle_cn hcl
    have b2 := hcl.2.2
    have z0 : cn (h00 L xs) = 0 := rfl
    have z1 : us (h00 L xs) = 0 := rfl
    have no : ∀ {b : Bool} {r : aR} {hh : aH}, gd b (dn r hh) = dn (.inl (some (.int 1))) h' → b = true ∧ r = .inl (some (.int 1)) := by
      intro b r hh q
      cases b
      · simp [gd, dn] at q
      · simp only [gd, dn, Option.some.injEq, Sum.inr.injEq, Sum.inl.injEq, Prod.mk.injEq] at q
        exact ⟨rfl, q.1⟩
    refine va_forget (fun q hq => by have := S2.2.2 q hq; rw [← gs]; exact this) (W.widen (k := 600086) (n := 7301442) (by omega) (by omega) ?_)
    cases i2 <;> simp only [act] at ha
    case ireturn =>
      split at ha
      · rename_i a
        obtain ⟨h1, h2⟩ := no ha
        cases h2
        obtain ⟨h1, -⟩ := Bool.and_eq_true_iff.mp h1
        have h1 := Nat.eq_of_beq_eq_true h1
        subst h1
        exact W.base (lw_ret (Drawn.sameBut.refl s.drawn lw_cs) hx hb hr hlocks hd)
      · simp [dn] at ha
    case lreturn =>
      split at ha
      · obtain ⟨-, h2⟩ := no ha
        cases h2
      · simp [dn] at ha
    case dreturn =>
      split at ha
      · obtain ⟨-, h2⟩ := no ha
        cases h2
      · simp [dn] at ha
    case return_ =>
      split at ha
      · obtain ⟨-, h2⟩ := no ha
        cases h2
      · simp [dn] at ha
    case new k =>
      split at ha
      · obtain ⟨-, h2⟩ := no ha
        cases h2
      · split at ha
        · have hz := (gd_dn ha).2
          split at hz
          · simp [nx, dn] at hz
          · simp [dn] at hz
        · simp [dn] at ha
    all_goals
      exfalso
      (repeat' split at ha) <;>
      first
      | (simp [dn] at ha; done)
      | (simp [gd, nx, cl, dn] at ha; done)
      | (have hz := (gd_dn ha).2; simp [nx, cl, dn] at hz; done)
      | (have hz := (gd_dn ha).2; unfold aprm at hz; (repeat' split at hz) <;> (first | (simp [dn] at hz; done) | (have hy := (gd_dn hz).2; simp [nx, dn] at hy; done)))
  · intro pc2 e2 rest2 H2 locs2 cells2 slots2 lss2 q ce he
    cases he
