/-! a step that looks at objects -/
def cn (h : aH) : Nat := h.1.2.2.2 + h.2.2.2.1
def us (h : aH) : Nat := h.2.2.2.2
theorem ent_0 {G : aG} {h : aH} {a : Nat} (k : h.1.1 a = 0) : ent G h a = .inl (gI G, h.1.2.1 a, .inl (h.2.1 a)) := by unfold ent; rw [k]
theorem ent_1 {G : aG} {h : aH} {a : Nat} (k : h.1.1 a = 1) : ent G h a = .inl (gJ G, h.1.2.1 a, .inr (.inl (h.2.2.1 a))) := by unfold ent; rw [k]
theorem ent_2 {G : aG} {h : aH} {a : Nat} (k : h.1.1 a = 2) : ent G h a = .inl (gY G, h.1.2.1 a, .inr (.inr (.inr (.inr (fun j => rq G (h.1.2.2.1 a j)))))) := by unfold ent; rw [k]
theorem ent_4 {G : aG} {h : aH} {a ci : Nat} (k : h.1.1 a = 4 + ci) : ent G h a = .inr (ci, (List.range (fN ci)).map (fv G h ci a)) := by unfold ent; rw [k, Nat.add_comm]
/-- the same objects, but for what one of them holds -/
theorem ent_ne {G : aG} {h h' : aH} {b : Nat} (hk : h'.1.1 b = h.1.1 b) (hl : h'.1.2.1 b = h.1.2.1 b) (hI : h'.2.1 b = h.2.1 b) (hL : h'.2.2.1 b = h.2.2.1 b) (hR : h'.1.2.2.1 b = h.1.2.2.1 b) : ent G h' b = ent G h b := by
  unfold ent
  rw [hk, hl, hI, hL, hR]
  split <;> first | rfl | skip
  congr 1
  congr 1
  refine List.map_congr_left fun j _ => ?_
  unfold fv
  rw [hI, hL, hR]
theorem rep_set {G : aG} {h h' : aH} {H H1 : Heap} (r : rep G h H) (hP : va_P (gD G) vwCl (wsL G h') H1) (hk : h'.1.1 = h.1.1) (hl : h'.1.2.1 = h.1.2.1) (hn : h'.1.2.2.2 = h.1.2.2.2) (hI : ∀ b, h.1.1 b = 3 ∨ 100000 ≤ b → h'.2.1 b = h.2.1 b) (hR : ∀ a j, h'.1.2.2.1 a j = .null ∨ ∃ z, h'.1.2.2.1 a j = .ref z) : rep G h' H1 := by
  obtain ⟨-, r2, -, r3, r4, ⟨a1, a2⟩, ⟨b1, b2⟩, ⟨c1, c2⟩, ⟨d1, d2⟩, e1⟩ := r
  refine ⟨hP, by rw [hn]; exact r2, hR, by rw [hn, hk]; exact r3, by rw [hn, hk]; exact r4, ⟨by rw [hl]; exact a1, ?_⟩, ⟨by rw [hl]; exact b1, ?_⟩, ⟨by rw [hl]; exact c1, ?_⟩, ⟨by rw [hl]; exact d1, ?_⟩, by rw [hk]; exact e1⟩
  · rw [hI _ (Or.inr (by omega))]; exact a2
  · rw [hI _ (Or.inr (by omega))]; exact b2
  · rw [hI _ (Or.inr (by omega))]; exact c2
  · rw [hI _ (Or.inr (by omega))]; exact d2
theorem inb_in {i : Int32} {n : Nat} (h : inb i n = true) : vp_in i n := by
  unfold inb at h
  obtain ⟨h1, h2⟩ := Bool.and_eq_true_iff.mp h
  exact vp_in_iff.mpr ⟨of_decide_eq_true h1, of_decide_eq_true h2⟩
theorem nneg_of {n : Int32} (h : 0 ≤ n.toInt) : ¬ n < 0 := by
  rw [Int32.lt_iff_toInt_lt, Int32.toInt_zero]
  omega
theorem ix_int {n : Int32} (h : 0 ≤ n.toInt) : (ix n : Int) = n.toInt := by
  show ((n.toInt.toNat : Nat) : Int) = _
  omega
theorem map_set {α : Type} (f g : Nat → α) (n j : Nat) (v : α) (h : ∀ i, i < n → g i = if i = j then v else f i) : ((List.range n).map f).set j v = (List.range n).map g := by
  apply List.ext_getElem?
  intro i
  rw [List.getElem?_set]
  by_cases hi : i < n
  · rw [List.getElem?_map, List.getElem?_map, List.getElem?_range hi]
    simp only [Option.map_some, List.length_map, List.length_range]
    rw [h i hi]
    by_cases e : j = i
    · subst e; simp [hi]
    · rw [if_neg e, if_neg (fun q => e q.symm)]
  · rw [List.getElem?_eq_none (by simp; omega), List.getElem?_eq_none (by simp; omega)]
    by_cases e : j = i
    · subst e; simp [hi]
    · rw [if_neg e]
theorem up2_ne {α : Type} {f : Nat → Nat → α} {a k b : Nat} {v : α} (h : b ≠ a) : up2 f a k v b = f b := by
  funext j
  unfold up2
  rw [if_neg (fun q => h q.1)]
theorem up2_eq {α : Type} {f : Nat → Nat → α} {a k j : Nat} {v : α} : up2 f a k v a j = if j = k then v else f a j := by
  unfold up2
  simp
theorem up2_R {R : Nat → Nat → Value} {a k v : Nat} (h : ∀ a j, R a j = .null ∨ ∃ z, R a j = .ref z) : ∀ b j, up2 R a k (.ref v) b j = .null ∨ ∃ z, up2 R a k (.ref v) b j = .ref z := by
  intro b j
  unfold up2
  split
  · exact Or.inr ⟨v, rfl⟩
  · exact h b j
theorem W.sized {p : Program} {l : Launch} {e : Env} {R : Room} {s : State} {m : MethodId} {args : Array Value} {below : List Frame} {meth : Method} {c : Code} {H : Heap} {locs : List Loc} {cells slots : Nat} {Q : State → Prop} {g : JFrame}
    (k : H.size ≤ s.heap.size + cells → W p l e R s m args below meth c H locs cells slots Q g) : W p l e R s m args below meth c H locs cells slots Q g :=
  fun T hT X => k (by rw [← hT]; exact X.heapSize) T hT X
section StH
variable {p : Program} {l : Launch} {e : Env} {R : Room} {s : State} {m : MethodId} {args : Array Value} {below : List Frame} {meth : Method} {c : Code} {H : Heap} {locs : List Loc} {cells slots : Nat} {Q : State → Prop}
variable {G : aG} {M pc len pc' : Nat} {ls ls' : aL} {st st' rest : List Value} {h h' : aH} {lss : Array Slot}
theorem h_getfield {k ci j t a : Nat} (hx : p.tables.exec = Jvm.exec) (hb : c.code = mCode M) (hown : s.vm.findClass (oName (mO M)) = some m.cls) (hts : ∀ w ∈ lw_tbl, kw w = true → w.before args s = true) (hg : aGl G s) (r : rep G h H)
    (hd : decode (mCode M) pc = .ok (.getfield k, 3)) (hf : fldT (mO M) k = some (ci, j, t)) (hk : h.1.1 a = 4 + ci)
    (kk : W p l e R s m args below meth c H locs cells slots Q (F0 m (pc + 3) lss (fv G h ci a j :: rest))) : W p l e R s m args below meth c H locs cells slots Q (F0 m pc lss (am G (.ref a) :: rest)) := by
  obtain ⟨f1, f2, f3, f4⟩ := fld_in hf
  have ha := rep_lt r hk (by omega) (by omega)
  rw [show am G (.ref a) = .ref (gS G + a) by show Value.ref (ad G a) = _; rw [ad_lt r ha]]
  refine va_get (C := clC ci) (T := clT ci) (N := fN ci) (ci := ci) (Ts := u_ws (clC ci) (clT ci) (fN ci)) hx hb (fun w hw => hts w (cl_ws0 ci f2 w hw).1 (cl_ws0 ci f2 w hw).2) (fun w hw => hw) hown hg.1 r.1 a (by rw [wsL_get ha, ent_4 hk]) (cl_get ci f2) j f3 (hts _ f1 rfl) (fun z hz => hz) (v := fv G h ci a j) ?_ hd kk
  rw [List.getElem?_map, List.getElem?_range f3]
  rfl
theorem h_putfield {k ci j t a : Nat} {v : Value} (hx : p.tables.exec = Jvm.exec) (hb : c.code = mCode M) (hown : s.vm.findClass (oName (mO M)) = some m.cls) (hts : ∀ w ∈ lw_tbl, kw w = true → w.before args s = true) (hg : aGl G s) (r : rep G h H) (hS : va_S (fA G) s.heap H locs)
    (hd : decode (mCode M) pc = .ok (.putfield k, 3)) (hf : fldT (mO M) k = some (ci, j, t)) (hk : h.1.1 a = 4 + ci)
    (hv : (t = 0 ∧ ∃ z, v = .int z) ∨ (t = 1 ∧ ∃ z, v = .long z) ∨ (t = 2 ∧ (∃ z, v = .ref z) ∧ meth.name = "<init>" ∧ clC ci = oName (mO M)))
    (hn : h'.1.2.2.2 = h.1.2.2.2) (hb' : ∀ b, b ≠ a → ent G h' b = ent G h b) (he : ent G h' a = .inr (ci, (List.range (fN ci)).map (fv G h' ci a))) (hfv : ∀ i, i < fN ci → fv G h' ci a i = if i = j then am G v else fv G h ci a i)
    (kk : ∀ (H1 : Heap) (locs1 : List Loc), va_P (gD G) vwCl (wsL G h') H1 → va_S (fA G) s.heap H1 locs1 → W p l e R s m args below meth c H1 locs1 cells slots Q (F0 m (pc + 3) lss rest)) : W p l e R s m args below meth c H locs cells slots Q (F0 m pc lss (am G v :: am G (.ref a) :: rest)) := by
  obtain ⟨f1, f2, f3, f4⟩ := fld_in hf
  obtain ⟨g1, g2, g3, g4, g5, g6⟩ := cl_fl ci f2 j f3
  have ha := rep_lt r hk (by omega) (by omega)
  rw [show am G (.ref a) = .ref (gS G + a) by show Value.ref (ad G a) = _; rw [ad_lt r ha]]
  have hset : (wsL G h).set a (gS G + a, .inr (ci, ((List.range (fN ci)).map (fv G h ci a)).set j (am G v))) = wsL G h' := by
    refine wsL_set ha hn hb' ?_
    rw [he, map_set (fv G h ci a) (fv G h' ci a) (fN ci) j (am G v) hfv]
  have hts' : ∀ w ∈ u_ws (clC ci) (clT ci) (fN ci), w.before args s = true := fun w hw => hts w (cl_ws0 ci f2 w hw).1 (cl_ws0 ci f2 w hw).2
  have hw : (wsL G h)[a]? = some (gS G + a, .inr (ci, (List.range (fN ci)).map (fv G h ci a))) := by rw [wsL_get ha, ent_4 hk]
  have hkk : ∀ (H1 : Heap) (locs1 : List Loc), va_P (gD G) vwCl ((wsL G h).set a (gS G + a, .inr (ci, ((List.range (fN ci)).map (fv G h ci a)).set j (am G v)))) H1 → va_D (fA G) ((wsL G h).set a (gS G + a, .inr (ci, ((List.range (fN ci)).map (fv G h ci a)).set j (am G v)))) → va_S (fA G) s.heap H1 locs1 → W p l e R s m args below meth c H1 locs1 cells slots Q (F0 m (pc + 3) lss rest) := fun H1 locs1 hP hD hS => kk H1 locs1 (by rw [← hset]; exact hP) hS
  have hl : j < ((List.range (fN ci)).map (fv G h ci a)).length := by simp; exact f3
  rcases hv with ⟨ht, z, rfl⟩ | ⟨ht, z, rfl⟩ | ⟨ht, ⟨z, rfl⟩, hin, hcl⟩
  · have ht0 : fTy ci j = 0 := f4.trans ht
    exact va_put (C := clC ci) (T := clT ci) (N := fN ci) (ci := ci) (Ts := u_ws (clC ci) (clT ci) (fN ci)) hx hb hts' (fun w hw => hw) (clTy ci) (cl_ty ci f2) (cl_nm ci f2) hown hg.1 r.1 wsL_D hS a hw (cl_get ci f2) j f3 (hts _ f1 rfl) (fun z hz => hz) (by rw [g2, ht0]; rfl) (ty := .int) (by rw [cl_ty ci f2 j f3, g3 ht0]) rfl rfl hl hd hkk
  · have ht0 : fTy ci j = 1 := f4.trans ht
    exact va_put (C := clC ci) (T := clT ci) (N := fN ci) (ci := ci) (Ts := u_ws (clC ci) (clT ci) (fN ci)) hx hb hts' (fun w hw => hw) (clTy ci) (cl_ty ci f2) (cl_nm ci f2) hown hg.1 r.1 wsL_D hS a hw (cl_get ci f2) j f3 (hts _ f1 rfl) (fun z hz => hz) (by rw [g2, ht0]; rfl) (ty := .long) (by rw [cl_ty ci f2 j f3, g4 ht0]) rfl rfl hl hd hkk
  · have ht0 : fTy ci j = 2 := f4.trans ht
    obtain ⟨n1, n2, -⟩ := rf_fits (a := ad G z) (g5 ht0)
    exact va_putF (C := clC ci) (T := clT ci) (N := fN ci) (ci := ci) (Ts := u_ws (clC ci) (clT ci) (fN ci)) hx hb hts' (fun w hw => hw) (clTy ci) (cl_ty ci f2) (cl_nm ci f2) hown hg.1 r.1 wsL_D hS a hw (cl_get ci f2) j f3 (hts _ f1 rfl) (fun z hz => hz) (by rw [g2, ht0]; rfl) hin (g1.trans hcl) (ty := clTy ci j) (cl_ty ci f2 j f3) n1 n2 hl hd hkk
theorem h_iaload {a : Nat} {i : Int32} (hx : p.tables.exec = Jvm.exec) (hb : c.code = mCode M) (hg : aGl G s) (r : rep G h H) (hS : va_S (fA G) s.heap H locs)
    (hd : decode (mCode M) pc = .ok (.iaload, 1)) (hk : rdk (h.1.1 a) = true) (hi : inb i (h.1.2.1 a) = true)
    (kk : W p l e R s m args below meth c H locs cells slots Q (F0 m (pc + 1) lss (.int (h.2.1 a (ix i)) :: rest))) : W p l e R s m args below meth c H locs cells slots Q (F0 m pc lss (.int i :: am G (.ref a) :: rest)) := by
  have hk : h.1.1 a = 0 ∨ h.1.1 a = 3 := by
    unfold rdk at hk
    rcases Bool.or_eq_true_iff.mp hk with q | q
    · exact Or.inl (Nat.eq_of_beq_eq_true q)
    · exact Or.inr (Nat.eq_of_beq_eq_true q)
  have hi := inb_in hi
  rcases hk with hk | hk
  · have ha := rep_lt r hk (by omega) (by omega)
    rw [show am G (.ref a) = .ref (gS G + a) by show Value.ref (ad G a) = _; rw [ad_lt r ha]]
    exact va_iald hx hb hg.1 r.1 a 0 (by rw [wsL_get ha, ent_0 hk]) rfl hi hd kk
  · obtain ⟨-, -, -, -, -, ⟨a1, a2⟩, ⟨b1, b2⟩, ⟨c1, c2⟩, ⟨d1, d2⟩, e1⟩ := r
    obtain ⟨-, hX, hB, -, ⟨t1, t2, t3⟩, -⟩ := hg
    rcases e1 a hk with rfl | rfl | rfl | rfl
    · rw [a1] at hi
      rw [a2] at kk
      exact va_sld hx hb hX (Nat.lt_of_lt_of_le hB.1 hB.2) (Nat.not_le.mpr hB.1) hS hi hd kk
    · rw [b1] at hi
      rw [b2] at kk
      exact va_ti hx hb t1 hS hi rfl hd kk
    · rw [c1] at hi
      rw [c2] at kk
      exact va_ti hx hb t2 hS hi rfl hd kk
    · rw [d1] at hi
      rw [d2] at kk
      exact va_ti hx hb t3 hS hi rfl hd kk
theorem h_alen {a : Nat} (hx : p.tables.exec = Jvm.exec) (hb : c.code = mCode M) (hg : aGl G s) (r : rep G h H) (hS : va_S (fA G) s.heap H locs)
    (hd : decode (mCode M) pc = .ok (.arraylength, 1)) (hk : rdk (h.1.1 a) = true)
    (kk : W p l e R s m args below meth c H locs cells slots Q (F0 m (pc + 1) lss (.int (Int32.ofNat (h.1.2.1 a)) :: rest))) : W p l e R s m args below meth c H locs cells slots Q (F0 m pc lss (am G (.ref a) :: rest)) := by
  have hk : h.1.1 a = 0 ∨ h.1.1 a = 3 := by
    unfold rdk at hk
    rcases Bool.or_eq_true_iff.mp hk with q | q
    · exact Or.inl (Nat.eq_of_beq_eq_true q)
    · exact Or.inr (Nat.eq_of_beq_eq_true q)
  rcases hk with hk | hk
  · have ha := rep_lt r hk (by omega) (by omega)
    rw [show am G (.ref a) = .ref (gS G + a) by show Value.ref (ad G a) = _; rw [ad_lt r ha]]
    exact va_alen hx hb hg.1 r.1 a 0 (by rw [wsL_get ha, ent_0 hk]) (ty := .int) rfl rfl hd kk
  · obtain ⟨-, -, -, -, -, ⟨a1, a2⟩, ⟨b1, b2⟩, ⟨c1, c2⟩, ⟨d1, d2⟩, e1⟩ := r
    obtain ⟨-, hX, hB, -, ⟨t1, t2, t3⟩, -⟩ := hg
    rcases e1 a hk with rfl | rfl | rfl | rfl
    · rw [a1] at kk
      exact va_slen hx hb hX (Nat.lt_of_lt_of_le hB.1 hB.2) (Nat.not_le.mpr hB.1) hS hd kk
    · rw [b1] at kk
      exact va_tlen hx hb t1 hS rfl hd kk
    · rw [c1] at kk
      exact va_tlen hx hb t2 hS rfl hd kk
    · rw [d1] at kk
      exact va_tlen hx hb t3 hS rfl hd kk
theorem rq_am {G : aG} {v : Value} (h2 : v = .null ∨ ∃ z, v = .ref z) : va_rf (rq G v) = am G v := by
  rcases h2 with rfl | ⟨z, rfl⟩ <;> rfl
theorem h_aaload {a : Nat} {i : Int32} (hx : p.tables.exec = Jvm.exec) (hb : c.code = mCode M) (hg : aGl G s) (r : rep G h H)
    (hd : decode (mCode M) pc = .ok (.aaload, 1)) (hk : h.1.1 a = 2) (hi : inb i (h.1.2.1 a) = true)
    (kk : W p l e R s m args below meth c H locs cells slots Q (F0 m (pc + 1) lss (am G (h.1.2.2.1 a (ix i)) :: rest))) : W p l e R s m args below meth c H locs cells slots Q (F0 m pc lss (.int i :: am G (.ref a) :: rest)) := by
  have ha := rep_lt r hk (by omega) (by omega)
  rw [show am G (.ref a) = .ref (gS G + a) by show Value.ref (ad G a) = _; rw [ad_lt r ha]]
  exact va_aldq hx hb hg.1 r.1 a 1 (by rw [wsL_get ha, ent_2 hk]) rfl (inb_in hi) hd (by rw [show va_rf (rq G (h.1.2.2.1 a i.toNatClampNeg)) = am G (h.1.2.2.1 a (ix i)) from rq_am (r.2.2.1 a _)]; exact kk)
theorem h_iastore {a : Nat} {i v : Int32} (hx : p.tables.exec = Jvm.exec) (hb : c.code = mCode M) (hg : aGl G s) (r : rep G h H) (hS : va_S (fA G) s.heap H locs)
    (hd : decode (mCode M) pc = .ok (.iastore, 1)) (hk : h.1.1 a = 0) (hi : inb i (h.1.2.1 a) = true)
    (kk : ∀ (H1 : Heap) (locs1 : List Loc), rep G (h.1, up2 h.2.1 a (ix i) v, h.2.2) H1 → va_S (fA G) s.heap H1 locs1 → W p l e R s m args below meth c H1 locs1 cells slots Q (F0 m (pc + 1) lss rest)) : W p l e R s m args below meth c H locs cells slots Q (F0 m pc lss (.int v :: .int i :: am G (.ref a) :: rest)) := by
  have ha := rep_lt r hk (by omega) (by omega)
  rw [show am G (.ref a) = .ref (gS G + a) by show Value.ref (ad G a) = _; rw [ad_lt r ha]]
  refine va_iast hx hb hg.1 r.1 wsL_D hS a 0 (by rw [wsL_get ha, ent_0 hk]) rfl (inb_in hi) hd fun H1 locs1 hP hD hS1 => kk H1 locs1 (rep_set r ?_ rfl rfl rfl (fun b q => ?_) r.2.2.1) hS1
  · rw [← wsL_set (h := h) (h' := (h.1, up2 h.2.1 a (ix i) v, h.2.2)) ha rfl (fun b q => ent_ne rfl rfl (up2_ne q) rfl rfl) (ent_0 hk)]
    have e : up2 h.2.1 a (ix i) v a = upd (h.2.1 a) i.toNatClampNeg v := by
      funext j
      exact up2_eq
    dsimp only
    rw [e]
    exact hP
  · refine up2_ne fun z => ?_
    have := r.2.1
    rcases q with q | q
    · rw [z, hk] at q; cases q
    · omega
theorem h_aastore {a v : Nat} {i : Int32} (hx : p.tables.exec = Jvm.exec) (hb : c.code = mCode M) (hg : aGl G s) (r : rep G h H) (hS : va_S (fA G) s.heap H locs)
    (hd : decode (mCode M) pc = .ok (.aastore, 1)) (hk : h.1.1 a = 2) (hi : inb i (h.1.2.1 a) = true) (hv : h.1.1 v = 9)
    (kk : ∀ (H1 : Heap) (locs1 : List Loc), rep G ((h.1.1, h.1.2.1, up2 h.1.2.2.1 a (ix i) (.ref v), h.1.2.2.2), h.2) H1 → va_S (fA G) s.heap H1 locs1 → W p l e R s m args below meth c H1 locs1 cells slots Q (F0 m (pc + 1) lss rest)) : W p l e R s m args below meth c H locs cells slots Q (F0 m pc lss (am G (.ref v) :: .int i :: am G (.ref a) :: rest)) := by
  have ha := rep_lt r hk (by omega) (by omega)
  have hvl := rep_lt r hv (by omega) (by omega)
  rw [show am G (.ref a) = .ref (gS G + a) by show Value.ref (ad G a) = _; rw [ad_lt r ha], show am G (.ref v) = .ref (gS G + v) by show Value.ref (ad G v) = _; rw [ad_lt r hvl]]
  refine va_astq hx hb hg.1 r.1 wsL_D hS a 1 v 5 (r := (RX6, TX6, 19)) (by rw [wsL_get ha, ent_2 hk]) rfl (by rw [wsL_get hvl, ent_4 (ci := 5) hv]) rfl (inb_in hi) hd fun H1 locs1 hP hD hS1 => kk H1 locs1 (rep_set r ?_ rfl rfl rfl (fun b q => rfl) (up2_R r.2.2.1)) hS1
  rw [← wsL_set (h := h) (h' := ((h.1.1, h.1.2.1, up2 h.1.2.2.1 a (ix i) (.ref v), h.1.2.2.2), h.2)) ha rfl (fun b q => ent_ne rfl rfl rfl rfl (up2_ne q)) (ent_2 hk)]
  have e : (fun j => rq G (up2 h.1.2.2.1 a (ix i) (.ref v) a j)) = va_up (fun j => rq G (h.1.2.2.1 a j)) i.toNatClampNeg (some (gS G + v)) := by
    funext j
    rw [up2_eq]
    unfold va_up
    by_cases q : j = ix i
    · rw [if_pos q, if_pos (show j = i.toNatClampNeg from q)]
      show some (ad G v) = _
      rw [ad_lt r hvl]
    · rw [if_neg q, if_neg (show ¬ j = i.toNatClampNeg from q)]
  dsimp only
  rw [e]
  exact hP
end StH
