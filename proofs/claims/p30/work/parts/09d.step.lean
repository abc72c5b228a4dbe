/-! arrays copied; the JDK's own; a step of the clean machine, whichever it is -/
section StC
variable {p : Program} {l : Launch} {e : Env} {R : Room} {s : State} {m : MethodId} {args : Array Value} {below : List Frame} {meth : Method} {c : Code} {H : Heap} {locs : List Loc} {cells slots : Nat} {Q : State → Prop}
variable {G : aG} {M pc len pc' : Nat} {ls ls' : aL} {st st' rest : List Value} {h h' : aH} {lss : Array Slot}
theorem h_copyT {t N a c1n : Nat} {f g : Nat → Int32} {ws : va_W} {tys : List (ClassId × FieldType)} {D : va_G} {cl : List vw_C} {cA : ClassId} {A : Nat → Prop} {cc : ByteArray} (hx : p.tables.exec = Jvm.exec) (hb : c.code = cc) (hml : c.maxLocals = lss.size) {own : String} {index : Nat} (hown : s.vm.findClass own = some m.cls) (hlink : (Cond.methodLink own index arraycopyName).before args s = true) (hnat : (Cond.native arraycopyName).before args s = true) (hstat : (Cond.static arraycopyName).before args s = true) (hini : (Cond.initialized "java/lang/System").before args s = true)
    (hT : va_T .int t N (fun j => .int (f j)) A s s.heap) (hS : va_S A s.heap H locs) (hK : va_K D cl tys s) (hP : va_P D cl ws H) (hD : va_D A ws) (q1 t1 : Nat) (ha1 : ws[q1]? = some (a, .inl (cA, c1n, .inl g))) (ht1 : tys[t1]? = some (cA, .int))
    {sp dp n : Int32} (h1 : 0 ≤ sp.toInt) (h2 : 0 ≤ dp.toInt) (h3 : 0 ≤ n.toInt) (h4 : ix sp + ix n ≤ N) (h5 : ix dp + ix n ≤ c1n) (hfr : 1 ≤ R.frames) (hlo : (rest.map fun v => v.category).sum + (nativeFrameWords "java/lang/System" "arraycopy" 5 + 11) ≤ R.locals) (hdg : decode cc pc = .ok (.invokestatic index, 3))
    (kk : ∀ (H1 : Heap) (locs1 : List Loc), va_P D cl (ws.set q1 (a, .inl (cA, c1n, .inl (va_cpy f g (ix sp) (ix dp) (ix n))))) H1 → va_S A s.heap H1 locs1 → W p l e R s m args below meth c H1 locs1 cells slots Q (F0 m (pc + 3) lss rest)) : W p l e R s m args below meth c H locs cells slots Q (F0 m pc lss (.int n :: .int dp :: .ref a :: .int sp :: .ref t :: rest)) := by
  intro T hTH X
  obtain ⟨scr, e1, ⟨e2, k0, e3, cm0, e4⟩, e5, e6, -, e7, e8⟩ := hT
  have hlt : t < s.heap.size := (Array.getElem?_eq_some_iff.mp e1).1
  have hc0 : H[t]? = some scr := (hS.2.1 t hlt e8).trans e1
  have hc1 : H[a]? = some (vp_cell cA (c1n, .inl g)) := hP q1 _ ha1
  obtain ⟨-, k1, hk1, cm1, hk2⟩ := (hK.2 t1 _ ht1).1 c1n (fun j => .int (g j))
  have i1 := ix_int h1
  have i2 := ix_int h2
  have i3 := ix_int h3
  have hrd : ∀ i, i < ix n → scr.slots.getD (ix sp + i) .null = .int (f (ix sp + i)) := by
    intro i hi
    rw [Array.getD_eq_getD_getElem?, e7 _ (by omega)]
    rfl
  obtain ⟨vm', X', step⟩ := X.arraycopy hx hown hlink hnat hstat hini (src := t) (dst := a) (cs := scr) (cd := vp_cell cA (c1n, .inl g)) (srcPos := sp) (destPos := dp) (n := n) (by rw [hTH]; exact hc0) (by rw [hTH]; exact hc1)
    e2 (fun _ z => by cases z) e5 (fun z => by cases z) e3 hk1 e4 hk2 (by simp [refKind]) (nneg_of h1) (nneg_of h2) (nneg_of h3) (by omega)
    (by show ¬ _ > ((arrV cA c1n (fun j => .int (g j))).slots.size : Int); rw [arrV_size]; omega)
    (fun vm₁ _ i hi => by
      have z : scr.slots.getD (sp.toNatClampNeg + i) .null = .int (f (ix sp + i)) := hrd i hi
      rw [z]
      exact ⟨rfl, trivial⟩)
    (g := F0 m pc lss (.int n :: .int dp :: .ref a :: .int sp :: .ref t :: rest)) rfl (by rw [hml]) (rest := rest) rfl (by rw [hb]; exact hdg) hfr (by show 2 * 0 + _ + _ ≤ _; omega)
  have ec : copied scr (vp_cell cA (c1n, .inl g)) sp dp n = vp_cell cA (c1n, .inl (va_cpy f g (ix sp) (ix dp) (ix n))) := va_copiedX (fun z => .int z) scr cA f g e7 h4
  rw [ec] at X' step
  have hl : a < H.size := (Array.getElem?_eq_some_iff.mp hc1).1
  generalize hH1 : H.setIfInBounds a (vp_cell cA (c1n, .inl (va_cpy f g (ix sp) (ix dp) (ix n)))) = H1
  have oq : ∀ q : Nat, q ≠ a → H1[q]? = H[q]? := fun q hq => by rw [← hH1]; simp [Array.getElem?_setIfInBounds, Ne.symm hq]
  have he : H1[a]? = some (vp_cell cA (c1n, .inl (va_cpy f g (ix sp) (ix dp) (ix n)))) := by rw [← hH1]; simp [Array.getElem?_setIfInBounds, hl]
  have hz : H1.size = H.size := by rw [← hH1]; simp
  obtain ⟨tt, a1, b1⟩ := kk H1 _ (hP.set hD ha1 he oq) ⟨by rw [hz]; exact hS.1, fun q g1 g2 => by
      rw [oq q (fun z => g2 (by rw [z]; exact hD.2 q1 _ ha1))]
      exact hS.2.1 q g1 g2, fun q hq => by
      rcases List.mem_append.mp hq with z | z
      · exact hS.2.2 q z
      · obtain ⟨z1, -, z2⟩ := List.mem_map.mp z
        rw [← z2]
        exact hD.2 q1 _ ha1⟩ _ (by rw [← hH1, ← hTH]; rfl) X'
  exact ⟨tt, step tt a1, b1⟩
theorem cpI_cpy {I : Nat → Nat → Int32} {a0 a sp dp n : Nat} : cpI I a0 a sp dp n a = va_cpy (I a0) (I a) sp dp n := by
  funext j
  unfold cpI va_cpy
  by_cases q : dp ≤ j ∧ j < dp + n
  · rw [if_pos ⟨rfl, q⟩, if_pos q]
  · rw [if_neg (fun z => q z.2), if_neg q]
theorem cpI_ne {I : Nat → Nat → Int32} {a0 a sp dp n b : Nat} (hb : b ≠ a) : cpI I a0 a sp dp n b = I b := by
  funext j
  unfold cpI
  rw [if_neg (fun z => hb z.1)]
theorem rdk_or {k : Nat} (hk : rdk k = true) : k = 0 ∨ k = 3 := by
  unfold rdk at hk
  rcases Bool.or_eq_true_iff.mp hk with q | q
  · exact Or.inl (Nat.eq_of_beq_eq_true q)
  · exact Or.inr (Nat.eq_of_beq_eq_true q)
theorem prm_in {o i q : Nat} (h : prmT o i = some q) : ((o, i), q) ∈ prmTL := by
  obtain ⟨a, ha, hp⟩ := find_in h
  rw [← key2 hp]
  exact ha
theorem prm_1 : ∀ z ∈ prmTL, z.2 = 1 → z.1 = (7, 166) := by decide +kernel
theorem prm_2 : ∀ z ∈ prmTL, z.2 = 2 → z.1 = (3, 73) := by decide +kernel
theorem prm_3 : ∀ z ∈ prmTL, z.2 = 3 → z.1 = (6, 64) := by decide +kernel
theorem prm_5 : ∀ z ∈ prmTL, z.2 = 5 → Cond.methodLink (oName z.1.1) z.1.2 Lib.objectInit ∈ lw_tbl := by decide +kernel
theorem prm_w : (Cond.methodLink RX7 166 Lib.Math.min.name ∈ lw_tbl ∧ Cond.static Lib.Math.min.name ∈ lw_tbl ∧ Cond.initialized "java/lang/Math" ∈ lw_tbl) ∧ (Cond.methodLink RX3 73 Lib.Math.max.name ∈ lw_tbl ∧ Cond.static Lib.Math.max.name ∈ lw_tbl) ∧ (Cond.methodLink RX6 64 arraycopyName ∈ lw_tbl ∧ Cond.native arraycopyName ∈ lw_tbl ∧ Cond.static arraycopyName ∈ lw_tbl ∧ Cond.initialized "java/lang/System" ∈ lw_tbl) ∧ Cond.instanceMethod Lib.objectInit ∈ lw_tbl := by decide +kernel
set_option maxRecDepth 100000 in
theorem prm_c1 : Cond.code Lib.Math.min.name Lib.Math.min.code 2 (some .int) ∈ lw_tbl := List.mem_of_getElem? (i := 578) rfl
set_option maxRecDepth 100000 in
theorem prm_c2 : Cond.code Lib.Math.max.name Lib.Math.max.code 2 (some .int) ∈ lw_tbl := List.mem_of_getElem? (i := 547) rfl
set_option maxRecDepth 100000 in
theorem prm_c3 : Cond.code Lib.objectInit ⟨#[0xb1]⟩ 1 none ∈ lw_tbl := List.mem_of_getElem? (i := 45) rfl
theorem prm_k : kw (.code Lib.Math.min.name Lib.Math.min.code 2 (some .int)) = true ∧ kw (.code Lib.Math.max.name Lib.Math.max.code 2 (some .int)) = true ∧ kw (.code Lib.objectInit ⟨#[0xb1]⟩ 1 none) = true := ⟨rfl, rfl, rfl⟩
theorem cs_am (st : List Value) : ((st.map (am G)).map fun v => v.category).sum = cs st := by
  unfold cs
  rw [List.map_map]
  congr 1
  exact List.map_congr_left fun v _ => am_cat v
theorem h_prm {q k : Nat} (hx : p.tables.exec = Jvm.exec) (hb : c.code = mCode M) (hml : c.maxLocals = lss.size) (hown : s.vm.findClass (oName (mO M)) = some m.cls) (hts : ∀ w ∈ lw_tbl, kw w = true → w.before args s = true) (hg : aGl G s) (r : rep G h H) (hS : va_S (fA G) s.heap H locs)
    (hf : prmT (mO M) k = some q) (hd : (decode (mCode M) pc = .ok (.invokestatic k, 3) ∧ 40 ≤ R.locals) ∨ (decode (mCode M) pc = .ok (.invokespecial k, 3) ∧ q = 5 ∧ 22 ≤ R.locals)) (hfr : 1 ≤ R.frames) (hcr : cells ≤ R.cells) (hsr : slots ≤ R.slots) (ha : aprm q (pc + 3) ls st h = nx pc' ls' st' h') (hl : decode (mCode M) pc = .ok (.invokestatic k, 3) → q < 5)
    (kk : ls' = ls → ∀ (H1 : Heap) (locs1 : List Loc), rep G h' H1 → va_S (fA G) s.heap H1 locs1 → h'.1 = h.1 → h'.2.2.2 = h.2.2.2 → W p l e R s m args below meth c H1 locs1 cells slots Q (F0 m pc' lss (st'.map (am G)))) : W p l e R s m args below meth c H locs cells slots Q (F0 m pc lss (st.map (am G))) := by
  have hm := prm_in hf
  obtain ⟨⟨w1, w2, w3⟩, ⟨w4, w5⟩, ⟨w6, w7, w8, w9⟩, w14⟩ := prm_w
  unfold aprm at ha
  split at ha
  · rename_i b a r2
    have eo := prm_1 _ hm rfl
    simp only [Prod.mk.injEq] at eo
    obtain ⟨h1, rfl, rfl, rfl, rfl⟩ := gd_nx ha
    have h1 := Nat.le_of_ble_eq_true h1
    rcases hd with ⟨hd, h40⟩ | ⟨-, hq, -⟩
    · rw [eo.1] at hown
      rw [eo.2] at hd
      exact va_mmin hx hb hml hown (hts _ w1 rfl) (hts _ w2 rfl) (hts _ w3 rfl) (hts _ prm_c1 prm_k.1) hfr (by rw [cs_am]; omega) hcr hsr hd (kk rfl H locs r hS rfl rfl)
    · cases hq
  · rename_i b a r2
    have eo := prm_2 _ hm rfl
    simp only [Prod.mk.injEq] at eo
    obtain ⟨h1, rfl, rfl, rfl, rfl⟩ := gd_nx ha
    have h1 := Nat.le_of_ble_eq_true h1
    rcases hd with ⟨hd, h40⟩ | ⟨-, hq, -⟩
    · rw [eo.1] at hown
      rw [eo.2] at hd
      exact va_mmax hx hb hml hown (hts _ w4 rfl) (hts _ w5 rfl) (hts _ w3 rfl) (hts _ prm_c2 prm_k.2.1) hfr (by rw [cs_am]; omega) hcr hsr hd (kk rfl H locs r hS rfl rfl)
    · cases hq
  · rename_i n dp a sp a0 r2
    have eo := prm_3 _ hm rfl
    simp only [Prod.mk.injEq] at eo
    obtain ⟨h1, ha⟩ := gd_br ha
    have h1 := Nat.le_of_ble_eq_true h1
    split at ha
    · rename_i hc
      obtain ⟨c1, c2, c3, c4, c5, c6, c7, c8⟩ := hc
      obtain ⟨rfl, rfl, rfl, rfl⟩ := nx_nx ha
      rcases hd with ⟨hd, h40⟩ | ⟨-, hq, -⟩
      · rw [eo.1] at hown
        rw [eo.2] at hd
        have hal := rep_lt r c2 (by omega) (by omega)
        have hlo : ((r2.map (am G)).map fun v => v.category).sum + (nativeFrameWords "java/lang/System" "arraycopy" 5 + 11) ≤ R.locals := by
          rw [cs_am]
          have : nativeFrameWords "java/lang/System" "arraycopy" 5 = 7 := by decide
          omega
        have hset : ∀ (H1 : Heap), va_P (gD G) vwCl ((wsL G h).set a (gS G + a, .inl (gI G, h.1.2.1 a, .inl (va_cpy (h.2.1 a0) (h.2.1 a) (ix sp) (ix dp) (ix n))))) H1 → rep G (h.1, cpI h.2.1 a0 a (ix sp) (ix dp) (ix n), h.2.2.1, h.2.2.2) H1 := by
          intro H1 hP
          refine rep_set r ?_ rfl rfl rfl (fun b q => cpI_ne fun z => ?_) r.2.2.1
          · rw [← wsL_set (h := h) (h' := (h.1, cpI h.2.1 a0 a (ix sp) (ix dp) (ix n), h.2.2.1, h.2.2.2)) hal rfl (fun b q => ent_ne rfl rfl (cpI_ne q) rfl rfl) (ent_0 c2)]
            dsimp only
            rw [cpI_cpy]
            exact hP
          · have := r.2.1
            rcases q with q | q
            · rw [z, c2] at q; cases q
            · omega
        show W p l e R s m args below meth c H locs cells slots Q (F0 m pc lss (.int n :: .int dp :: .ref (ad G a) :: .int sp :: .ref (ad G a0) :: r2.map (am G)))
        rw [ad_lt r hal]
        rcases rdk_or c1 with k0 | k0
        · have h0l := rep_lt r k0 (by omega) (by omega)
          rw [ad_lt r h0l]
          exact va_copyi hx hb hml hown (hts _ w6 rfl) (hts _ w7 rfl) (hts _ w8 rfl) (hts _ w9 rfl) hg.1 r.1 wsL_D hS a0 a 0 0 (by rw [wsL_get h0l, ent_0 k0]) (by rw [wsL_get hal, ent_0 c2]) rfl rfl rfl (nneg_of c4) (nneg_of c5) (nneg_of c6) c7 c8 (fun i _ => rfl) hfr hlo hd (fun H1 locs1 hP hD hS1 => kk rfl H1 locs1 (hset H1 hP) hS1 rfl rfl)
        · obtain ⟨-, -, -, -, -, ⟨a1, a2⟩, ⟨b1, b2⟩, ⟨c1', c2'⟩, ⟨d1, d2⟩, e1⟩ := id r
          obtain ⟨hK, hX, hB, -, ⟨t1, t2, t3⟩, -⟩ := id hg
          rcases e1 a0 k0 with rfl | rfl | rfl | rfl
          · rw [a1] at c7
            rw [a2] at hset
            exact va_copyx hx hb hml hown (hts _ w6 rfl) (hts _ w7 rfl) (hts _ w8 rfl) (hts _ w9 rfl) hK r.1 wsL_D hS hX (Nat.lt_of_lt_of_le hB.1 hB.2) (Nat.not_le.mpr hB.1) a 0 (by rw [wsL_get hal, ent_0 c2]) rfl (nneg_of c4) (nneg_of c5) (nneg_of c6) c7 c8 hfr hlo hd (fun H1 locs1 hP hD hS1 => kk rfl H1 locs1 (hset H1 hP) hS1 rfl rfl)
          · rw [b1] at c7
            rw [b2] at hset
            exact h_copyT hx hb hml hown (hts _ w6 rfl) (hts _ w7 rfl) (hts _ w8 rfl) (hts _ w9 rfl) t1 hS hK r.1 wsL_D a 0 (by rw [wsL_get hal, ent_0 c2]) rfl c4 c5 c6 c7 c8 hfr hlo hd (fun H1 locs1 hP hS1 => kk rfl H1 locs1 (hset H1 hP) hS1 rfl rfl)
          · rw [c1'] at c7
            rw [c2'] at hset
            exact h_copyT hx hb hml hown (hts _ w6 rfl) (hts _ w7 rfl) (hts _ w8 rfl) (hts _ w9 rfl) t2 hS hK r.1 wsL_D a 0 (by rw [wsL_get hal, ent_0 c2]) rfl c4 c5 c6 c7 c8 hfr hlo hd (fun H1 locs1 hP hS1 => kk rfl H1 locs1 (hset H1 hP) hS1 rfl rfl)
          · rw [d1] at c7
            rw [d2] at hset
            exact h_copyT hx hb hml hown (hts _ w6 rfl) (hts _ w7 rfl) (hts _ w8 rfl) (hts _ w9 rfl) t3 hS hK r.1 wsL_D a 0 (by rw [wsL_get hal, ent_0 c2]) rfl c4 c5 c6 c7 c8 hfr hlo hd (fun H1 locs1 hP hS1 => kk rfl H1 locs1 (hset H1 hP) hS1 rfl rfl)
      · cases hq
    · simp [nx] at ha
  · rename_i a r2
    have eo := prm_5 _ hm rfl
    obtain ⟨h1, rfl, rfl, rfl, rfl⟩ := gd_nx ha
    have h1 := Nat.le_of_ble_eq_true h1
    rcases hd with ⟨hd, -⟩ | ⟨hd, -, h22⟩
    · exact absurd (hl hd) (by omega)
    · exact W.objInit hx hb hown (hts _ eo rfl) (hts _ w14 rfl) (hts _ prm_c3 prm_k.2.2) rfl (by rw [hml]) rfl hd hfr (by rw [cs_am]; show 2 * 0 + _ + _ ≤ _; omega) (kk rfl H locs r hS rfl rfl)
  · simp [nx] at ha
end StC
