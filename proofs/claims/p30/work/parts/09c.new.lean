/-! what is made: an object, an array; the JDK's own methods that are rows of the kit -/
section StN
variable {p : Program} {l : Launch} {e : Env} {R : Room} {s : State} {m : MethodId} {args : Array Value} {below : List Frame} {meth : Method} {c : Code} {H : Heap} {locs : List Loc} {cells slots : Nat} {Q : State → Prop}
variable {G : aG} {M pc len pc' : Nat} {ls ls' : aL} {st st' rest : List Value} {h h' : aH} {lss : Array Slot}
theorem rep_ge (r : rep G h H) (hS : va_S (fA G) s.heap H locs) (hg : aGl G s) : gS G + h.1.2.2.2 ≤ H.size := by
  rcases Nat.eq_zero_or_pos h.1.2.2.2 with q | q
  · rw [q]; exact Nat.le_trans hg.2.2.1.2 hS.1
  · have := (r.1 (h.1.2.2.2 - 1) _ (wsL_get (by omega))).lt
    have : gS G + (h.1.2.2.2 - 1) < H.size := this
    omega
theorem wsL_mk {kind n u : Nat} (hn : h.1.2.2.2 ≤ 1000) : wsL G (mkH h kind n u) = wsL G h ++ [(gS G + h.1.2.2.2, ent G (mkH h kind n u) h.1.2.2.2)] := by
  apply List.ext_getElem?
  intro i
  have hlen : (mkH h kind n u).1.2.2.2 = h.1.2.2.2 + 1 := rfl
  rcases Nat.lt_trichotomy i h.1.2.2.2 with q | q | q
  · rw [List.getElem?_append_left (by rw [wsL_len]; exact q), wsL_get (by rw [hlen]; omega), wsL_get q]
    refine congrArg (fun z => some (gS G + i, z)) (ent_ne ?_ ?_ ?_ ?_ ?_) <;>
    · show up1 _ _ _ i = _
      unfold up1
      rw [if_neg (by omega)]
  · subst q
    rw [List.getElem?_append_right (by rw [wsL_len]; exact Nat.le_refl _), wsL_get (by rw [hlen]; omega), wsL_len, Nat.sub_self]
    rfl
  · rw [List.getElem?_eq_none (by rw [wsL_len, hlen]; omega), List.getElem?_eq_none (by rw [List.length_append, wsL_len, List.length_singleton]; omega)]
theorem rep_mk {kind n u : Nat} {H1 : Heap} (r : rep G h H) (hk : kind ≠ 3 ∧ kind ≠ 99) (hlt : h.1.2.2.2 < 1000) (hz : ∀ q : Nat, q < H.size → H1[q]? = H[q]?) (he : va_at (gD G) vwCl (gS G + h.1.2.2.2, ent G (mkH h kind n u) h.1.2.2.2) H1) : rep G (mkH h kind n u) H1 := by
  obtain ⟨r1, r2, rR, r3, r4, ⟨a1, a2⟩, ⟨b1, b2⟩, ⟨c1, c2⟩, ⟨d1, d2⟩, e1⟩ := r
  have up : ∀ {α : Type} (f : Nat → α) (v : α) (b : Nat), h.1.2.2.2 < b → up1 f h.1.2.2.2 v b = f b := by
    intro α f v b hb
    unfold up1
    rw [if_neg (by omega)]
  refine ⟨?_, by show h.1.2.2.2 + 1 ≤ 1000; omega, ?_, ?_, ?_, ⟨?_, ?_⟩, ⟨?_, ?_⟩, ⟨?_, ?_⟩, ⟨?_, ?_⟩, ?_⟩
  · rw [wsL_mk r2]
    refine (r1.kept fun k q hq => hz _ ((r1 k q hq).lt)).app fun k q hq => ?_
    have hz : k < 1 := (List.getElem?_eq_some_iff.mp hq).1
    rw [show k = 0 by omega] at hq
    cases hq
    exact he
  · intro a j
    show up1 h.1.2.2.1 h.1.2.2.2 (fun _ => .null) a j = .null ∨ ∃ z, up1 h.1.2.2.1 h.1.2.2.2 (fun _ => .null) a j = .ref z
    unfold up1
    split
    · exact Or.inl rfl
    · exact rR a j
  · intro a ha
    have ha : h.1.2.2.2 + 1 ≤ a := ha
    have : (mkH h kind n u).1.1 a = h.1.1 a := up h.1.1 kind a (by omega)
    rw [this]
    exact r3 a (by omega)
  · intro a ha
    have ha : a < h.1.2.2.2 + 1 := ha
    show up1 h.1.1 h.1.2.2.2 kind a ≠ 3 ∧ up1 h.1.1 h.1.2.2.2 kind a ≠ 99
    unfold up1
    by_cases q : a = h.1.2.2.2
    · rw [if_pos q]; exact hk
    · rw [if_neg q]; exact r4 a (by omega)
  · exact (up h.1.2.1 n _ (by omega)).trans a1
  · exact (up h.2.1 _ _ (by omega)).trans a2
  · exact (up h.1.2.1 n _ (by omega)).trans b1
  · exact (up h.2.1 _ _ (by omega)).trans b2
  · exact (up h.1.2.1 n _ (by omega)).trans c1
  · exact (up h.2.1 _ _ (by omega)).trans c2
  · exact (up h.1.2.1 n _ (by omega)).trans d1
  · exact (up h.2.1 _ _ (by omega)).trans d2
  · intro a ha
    have ha : up1 h.1.1 h.1.2.2.2 kind a = 3 := ha
    unfold up1 at ha
    by_cases q : a = h.1.2.2.2
    · rw [if_pos q] at ha; exact absurd ha hk.1
    · rw [if_neg q] at ha; exact e1 a ha
theorem va_S_grow {H1 : Heap} (hS : va_S (fA G) s.heap H locs) (hz : H.size ≤ H1.size) (o1 : ∀ q : Nat, q < H.size → H1[q]? = H[q]?) : va_S (fA G) s.heap H1 locs :=
  ⟨Nat.le_trans hS.1 hz, fun q h1 h2 => (o1 q (Nat.lt_of_lt_of_le h1 hS.1)).trans (hS.2.1 q h1 h2), hS.2.2⟩
theorem mk_kind {kind n u : Nat} : (mkH h kind n u).1.1 h.1.2.2.2 = kind := by
  show up1 h.1.1 h.1.2.2.2 kind h.1.2.2.2 = kind
  unfold up1
  rw [if_pos rfl]
theorem mk_len {kind n u : Nat} : (mkH h kind n u).1.2.1 h.1.2.2.2 = n := by
  show up1 h.1.2.1 h.1.2.2.2 n h.1.2.2.2 = n
  unfold up1
  rw [if_pos rfl]
theorem mk_I {kind n u : Nat} : (mkH h kind n u).2.1 h.1.2.2.2 = fun _ => 0 := by
  show up1 h.2.1 h.1.2.2.2 (fun _ => 0) h.1.2.2.2 = fun _ => 0
  unfold up1
  rw [if_pos rfl]
theorem mk_L {kind n u : Nat} : (mkH h kind n u).2.2.1 h.1.2.2.2 = fun _ => 0 := by
  show up1 h.2.2.1 h.1.2.2.2 (fun _ => 0) h.1.2.2.2 = fun _ => 0
  unfold up1
  rw [if_pos rfl]
theorem mk_R {kind n u : Nat} : (mkH h kind n u).1.2.2.1 h.1.2.2.2 = fun _ => .null := by
  show up1 h.1.2.2.1 h.1.2.2.2 (fun _ => .null) h.1.2.2.2 = fun _ => .null
  unfold up1
  rw [if_pos rfl]
theorem h_new {k kd n : Nat} (hx : p.tables.exec = Jvm.exec) (hb : c.code = mCode M) (hown : s.vm.findClass (oName (mO M)) = some m.cls) (hts : ∀ w ∈ lw_tbl, kw w = true → w.before args s = true) (hg : aGl G s) (r : rep G h H) (hS : va_S (fA G) s.heap H locs)
    (hd : decode (mCode M) pc = .ok (.new k, 3)) (hf : newT (mO M) k = some (kd, n)) (h0 : h.1.2.2.2 < 1000) (hsz : s.heap.size + cells ≤ gS G + h.1.2.2.2) (hcells : cells + 1 ≤ R.cells) (hslots : slots + n ≤ R.slots)
    (kk : ∀ H1 : Heap, rep G (mkH h kd 0 n) H1 → va_S (fA G) s.heap H1 locs → W p l e R s m args below meth c H1 locs (cells + 1) (slots + n) Q (F0 m (pc + 3) lss (am G (.ref h.1.2.2.2) :: rest))) : W p l e R s m args below meth c H locs cells slots Q (F0 m pc lss rest) := by
  refine W.sized fun hs => ?_
  have hsize : H.size = gS G + h.1.2.2.2 := Nat.le_antisymm (Nat.le_trans hs hsz) (rep_ge r hS hg)
  obtain ⟨f1, f2, f3, f4, f5, f6⟩ := new_in hf
  obtain ⟨ci, rfl⟩ : ∃ ci, kd = 4 + ci := ⟨kd - 4, by omega⟩
  rw [show 4 + ci - 4 = ci by omega] at f1 f2 f3 f6
  have hci : ci < 7 := by omega
  have hKn := hg.1.1 ci _ (cl_get ci hci)
  refine W.newcK hx hb hown (hts _ f1 rfl) (hts _ f2 rfl) (hts _ f3 rfl) rfl hd hcells hslots hKn.2.1 hsize fun H1 kC hkC e1 z1 o1 => ?_
  have e1 : H1[gS G + h.1.2.2.2]? = some (blank ((gD G).1 ci) kC) := e1
  have o1 : ∀ q : Nat, q < H.size → H1[q]? = H[q]? := fun q hq => o1 q (by rw [← hsize]; exact hq)
  have e : am G (.ref h.1.2.2.2) = .ref (gS G + h.1.2.2.2) := by
    show Value.ref (ad G h.1.2.2.2) = _
    unfold ad
    rw [if_neg (by omega), if_neg (by omega), if_neg (by omega), if_neg (by omega)]
  rw [e] at kk
  refine kk H1 (rep_mk r ⟨by omega, by omega⟩ h0 o1 ?_) (va_S_grow hS (by omega) o1)
  rw [ent_4 mk_kind]
  refine ⟨_, cl_get ci hci, (u_born (clTy ci) (fun w hw => hts w (cl_ws0 ci hci w hw).1 (cl_ws0 ci hci w hw).2) (fun w hw => hw) hKn hkC e1 (cl_ty ci hci)).to fun j hj => ?_⟩
  obtain ⟨g1, g2, g3, g4, g5, g6⟩ := cl_fl ci hci j hj
  show _ = vp_V _ j
  unfold vp_V
  rw [List.getD_eq_getElem?_getD, List.getElem?_map, List.getElem?_range hj]
  show _ = fv G (mkH h (4 + ci) 0 n) ci h.1.2.2.2 j
  unfold fv
  rw [mk_I, mk_L, mk_R]
  rcases (show fTy ci j = 0 ∨ fTy ci j = 1 ∨ fTy ci j = 2 by omega) with q | q | q
  · rw [g3 q, q]; rfl
  · rw [g4 q, q]; rfl
  · rw [q, (rf_fits (a := 0) (g5 q)).2.2]; rfl
theorem h_newarray {n : Int32} {t : ArrayType} {kd : Nat} (hx : p.tables.exec = Jvm.exec) (hb : c.code = mCode M) (hts : ∀ w ∈ lw_tbl, kw w = true → w.before args s = true) (hg : aGl G s) (r : rep G h H) (hS : va_S (fA G) s.heap H locs)
    (ht : t = .int ∧ kd = 0) (hd : decode (mCode M) pc = .ok (.newarray t, 2)) (hn0 : 0 ≤ n.toInt) (hn1 : n.toInt ≤ 100000) (h0 : h.1.2.2.2 < 1000) (hsz : s.heap.size + cells ≤ gS G + h.1.2.2.2) (hcells : cells + 1 ≤ R.cells) (hslots : slots + ix n ≤ R.slots)
    (kk : ∀ H1 : Heap, rep G (mkH h kd (ix n) (ix n)) H1 → va_S (fA G) s.heap H1 locs → W p l e R s m args below meth c H1 locs (cells + 1) (slots + ix n) Q (F0 m (pc + 2) lss (am G (.ref h.1.2.2.2) :: rest))) : W p l e R s m args below meth c H locs cells slots Q (F0 m pc lss (.int n :: rest)) := by
  refine W.sized fun hs => ?_
  have hsize : H.size = gS G + h.1.2.2.2 := Nat.le_antisymm (Nat.le_trans hs hsz) (rep_ge r hS hg)
  have hin := ix_int hn0
  have e : am G (.ref h.1.2.2.2) = .ref (gS G + h.1.2.2.2) := by
    show Value.ref (ad G h.1.2.2.2) = _
    unfold ad
    rw [if_neg (by omega), if_neg (by omega), if_neg (by omega), if_neg (by omega)]
  rw [e] at kk
  obtain ⟨rfl, rfl⟩ := ht
  · refine va_newaK hx hb (atype := .int) (hts (.arrayClass .int) (List.mem_of_getElem? (i := 141) (by decide +kernel)) rfl) rfl hd rfl (nneg_of hn0) rfl (by show ix n * 4 ≤ _; omega) hcells hslots hsize fun H1 cA e1 z1 o1 hAr hNm => ?_
    have o1 : ∀ q : Nat, q < H.size → H1[q]? = H[q]? := fun q hq => o1 q (by rw [← hsize]; exact hq)
    have hcA : cA = gI G := by
      have h2 : s.vm.findClass ("[" ++ FieldType.int.toString) = some (gI G) := (hg.1.2 0 (gI G, .int) rfl).2
      have h3 : s.vm.findClass ("[" ++ FieldType.int.toString) = some cA := hNm
      exact Option.some.inj (h3.symm.trans h2)
    refine kk H1 (rep_mk r ⟨by omega, by omega⟩ h0 o1 ?_) (va_S_grow hS (by omega) o1)
    rw [ent_0 mk_kind, mk_len, mk_I]
    show H1[_]? = some (vp_cell _ _)
    rw [e1, hcA]
    rfl
theorem h_anewarray {n : Int32} (hx : p.tables.exec = Jvm.exec) (hb : c.code = mCode M) (hown : s.vm.findClass (oName (mO M)) = some m.cls) (hts : ∀ w ∈ lw_tbl, kw w = true → w.before args s = true) (hg : aGl G s) (r : rep G h H) (hS : va_S (fA G) s.heap H locs) (hO : mO M = 2)
    (hd : decode (mCode M) pc = .ok (.anewarray 9, 3)) (hn0 : 0 ≤ n.toInt) (hn1 : n.toInt ≤ 100000) (h0 : h.1.2.2.2 < 1000) (hsz : s.heap.size + cells ≤ gS G + h.1.2.2.2) (hcells : cells + 1 ≤ R.cells) (hslots : slots + ix n ≤ R.slots)
    (kk : ∀ H1 : Heap, rep G (mkH h 2 (ix n) (ix n)) H1 → va_S (fA G) s.heap H1 locs → W p l e R s m args below meth c H1 locs (cells + 1) (slots + ix n) Q (F0 m (pc + 3) lss (am G (.ref h.1.2.2.2) :: rest))) : W p l e R s m args below meth c H locs cells slots Q (F0 m pc lss (.int n :: rest)) := by
  refine W.sized fun hs => ?_
  have hsize : H.size = gS G + h.1.2.2.2 := Nat.le_antisymm (Nat.le_trans hs hsz) (rep_ge r hS hg)
  have hin := ix_int hn0
  have e : am G (.ref h.1.2.2.2) = .ref (gS G + h.1.2.2.2) := by
    show Value.ref (ad G h.1.2.2.2) = _
    unfold ad
    rw [if_neg (by omega), if_neg (by omega), if_neg (by omega), if_neg (by omega)]
  rw [e] at kk
  rw [hO] at hown
  refine W.anew (C := RYard) hx hb hown (hts (.classLink (oName 2) 9 RYard) (List.mem_of_getElem? (i := 148) (by decide +kernel)) rfl) (va_AO.use hg.2.2.2.2.2.2.1) rfl hd rfl (nneg_of hn0) (by show ix n * 4 ≤ _; omega) hcells hslots fun cA kA comp f1 f2 f3 f4 => ?_
  generalize hH1 : H.push ({ cls := cA, slots := Array.replicate n.toNatClampNeg .null, vm := .none } : Cell) = H1
  have z1 : H1.size = H.size + 1 := by rw [← hH1, Array.size_push]
  have e1 : H1[H.size]? = some (arrV cA n.toNatClampNeg (fun _ => .null)) := by rw [← hH1, Array.getElem?_push_size, ← arrV_new]
  have o1 : ∀ q : Nat, q < H.size → H1[q]? = H[q]? := fun q hq => by rw [← hH1, Array.getElem?_push, if_neg (Nat.ne_of_lt hq)]
  have hcA : cA = gY G := by
    obtain ⟨-, -, -, -, -, h2⟩ := (hg.1.2 1 (gY G, .object RYard) rfl).2
    exact Option.some.inj (f1.symm.trans h2)
  rw [hsize]
  refine kk H1 (rep_mk r ⟨by omega, by omega⟩ h0 o1 ?_) (va_S_grow hS (by omega) o1)
  rw [ent_2 mk_kind, mk_len, mk_R]
  show H1[_]? = some (vp_cell _ _)
  rw [← hsize, e1, hcA]
  rfl
end StN
