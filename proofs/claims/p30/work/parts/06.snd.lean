/-! THE CLEAN MACHINE AND THE MACHINE: what they have in common at any time -/
abbrev aG : Type := Nat × Heap × (Nat × Nat × (Nat → Int32)) × (Nat × Nat × Nat) × va_G × (ClassId × ClassId × ClassId)
abbrev gS (G : aG) : Nat := G.1
abbrev gH (G : aG) : Heap := G.2.1
abbrev gB (G : aG) : Nat := G.2.2.1.1
abbrev gN (G : aG) : Nat := G.2.2.1.2.1
abbrev gX (G : aG) : Nat → Int32 := G.2.2.1.2.2
abbrev gT1 (G : aG) : Nat := G.2.2.2.1.1
abbrev gT2 (G : aG) : Nat := G.2.2.2.1.2.1
abbrev gT3 (G : aG) : Nat := G.2.2.2.1.2.2
abbrev gD (G : aG) : va_G := G.2.2.2.2.1
abbrev gI (G : aG) : ClassId := G.2.2.2.2.2.1
abbrev gJ (G : aG) : ClassId := G.2.2.2.2.2.2.1
abbrev gY (G : aG) : ClassId := G.2.2.2.2.2.2.2
abbrev vwCl : List vw_C := [(RX0, TX0, 4), (RX1, TX1, 2), (RX2, TX2, 3), (RX3, TX3, 5), (RX5, TX5, 4), (RX6, TX6, 19), (RX7, TX7, 7)]
abbrev RYard : String := "ModuleYard$Yard"
abbrev gTy (G : aG) : List (ClassId × FieldType) := [(gI G, .int), (gY G, .object RYard)]
def fA (G : aG) : Nat → Prop := fun q => gS G ≤ q
def ad (G : aG) (a : Nat) : Nat := if a = 100000 then gB G else if a = 100001 then gT1 G else if a = 100002 then gT2 G else if a = 100003 then gT3 G else gS G + a
def am (G : aG) (v : Value) : Value := match v with | .ref a => .ref (ad G a) | _ => v
theorem am_cat {G : aG} (v : Value) : (am G v).category = v.category := by cases v <;> rfl
def fN (ci : Nat) : Nat := [4, 2, 3, 5, 4, 19, 7].getD ci 0
def fTy (ci j : Nat) : Nat := ([[2, 2, 0, 0], [2, 0], [2, 0, 0], [2, 2, 2, 0, 2], [2, 2, 0, 0], [0, 0, 0, 0, 2, 2, 2, 2, 2, 2, 2, 2, 2, 2, 2, 2, 2, 2, 2], [2, 2, 2, 2, 2, 2, 2]].getD ci []).getD j 9
def fv (G : aG) (h : aH) (ci a j : Nat) : Value := match fTy ci j with | 0 => .int (h.2.1 a j) | 1 => .long (h.2.2.1 a j) | _ => am G (h.1.2.2.1 a j)
def rq (G : aG) (v : Value) : Option Nat := match v with | .ref k => some (ad G k) | _ => none
def ent (G : aG) (h : aH) (a : Nat) : va_E := match h.1.1 a with
  | 0 => .inl (gI G, h.1.2.1 a, .inl (h.2.1 a))
  | 1 => .inl (gJ G, h.1.2.1 a, .inr (.inl (h.2.2.1 a)))
  | 2 => .inl (gY G, h.1.2.1 a, .inr (.inr (.inr (.inr (fun j => rq G (h.1.2.2.1 a j))))))
  | 3 => .inr (99, [])
  | k + 4 => .inr (k, (List.range (fN k)).map (fv G h k a))
def wsL (G : aG) (h : aH) : va_W := (List.range h.1.2.2.2).map (fun a => (gS G + a, ent G h a))
theorem wsL_len {G : aG} {h : aH} : (wsL G h).length = h.1.2.2.2 := by simp [wsL]
theorem wsL_get {G : aG} {h : aH} {a : Nat} (ha : a < h.1.2.2.2) : (wsL G h)[a]? = some (gS G + a, ent G h a) := by
  simp [wsL, List.getElem?_map, List.getElem?_range ha]
theorem wsL_inv {G : aG} {h : aH} {k : Nat} {q : Nat × va_E} (hk : (wsL G h)[k]? = some q) : k < h.1.2.2.2 ∧ q = (gS G + k, ent G h k) := by
  have hl : k < h.1.2.2.2 := by
    have := (List.getElem?_eq_some_iff.mp hk).1
    rwa [wsL_len] at this
  rw [wsL_get hl] at hk
  exact ⟨hl, (Option.some.inj hk).symm⟩
theorem wsL_set {G : aG} {h h' : aH} {a : Nat} {e : va_E} (ha : a < h.1.2.2.2) (hn : h'.1.2.2.2 = h.1.2.2.2) (hb : ∀ b, b ≠ a → ent G h' b = ent G h b) (he : ent G h' a = e) : (wsL G h).set a (gS G + a, e) = wsL G h' := by
  apply List.ext_getElem?
  intro i
  rw [List.getElem?_set]
  by_cases q : a = i
  · subst q
    rw [if_pos rfl, if_pos (by rw [wsL_len]; exact ha), wsL_get (by rw [hn]; exact ha), he]
  · rw [if_neg q]
    by_cases hi : i < h.1.2.2.2
    · rw [wsL_get hi, wsL_get (by rw [hn]; exact hi), hb i (fun e => q e.symm)]
    · rw [List.getElem?_eq_none (by rw [wsL_len]; omega), List.getElem?_eq_none (by rw [wsL_len, hn]; omega)]
theorem wsL_D {G : aG} {h : aH} : va_D (fA G) (wsL G h) := by
  refine ⟨fun i j p q hi hj he => ?_, fun k q hk => ?_⟩
  · obtain ⟨-, rfl⟩ := wsL_inv hi
    obtain ⟨-, rfl⟩ := wsL_inv hj
    have : gS G + i = gS G + j := he
    omega
  · obtain ⟨-, rfl⟩ := wsL_inv hk
    exact Nat.le_add_right _ _
def fLow (j : Nat) : Int32 := [1, 3, 0, 1, 0].getD j 0
def fHigh (j : Nat) : Int32 := [3, 9, 30, 100, 30].getD j 0
def fFirst (j : Nat) : Int32 := [2, 5, 10, 20, 5].getD j 0
def aExt (G : aG) (h : aH) : Prop := (h.1.2.1 100000 = gN G ∧ h.2.1 100000 = gX G) ∧ (h.1.2.1 100001 = 5 ∧ h.2.1 100001 = fLow) ∧ (h.1.2.1 100002 = 5 ∧ h.2.1 100002 = fHigh) ∧ (h.1.2.1 100003 = 5 ∧ h.2.1 100003 = fFirst) ∧ ∀ a, h.1.1 a = 3 → a = 100000 ∨ a = 100001 ∨ a = 100002 ∨ a = 100003
/-- the objects, as the heap holds them -/
def rep (G : aG) (h : aH) (H : Heap) : Prop := va_P (gD G) vwCl (wsL G h) H ∧ h.1.2.2.2 ≤ 1000 ∧ (∀ a j, h.1.2.2.1 a j = .null ∨ ∃ z, h.1.2.2.1 a j = .ref z) ∧ (∀ a, h.1.2.2.2 ≤ a → h.1.1 a = 3 ∨ h.1.1 a = 99) ∧ (∀ a, a < h.1.2.2.2 → h.1.1 a ≠ 3 ∧ h.1.1 a ≠ 99) ∧ aExt G h
theorem rep_lt {G : aG} {h : aH} {H : Heap} (r : rep G h H) {a k : Nat} (hk : h.1.1 a = k) (h3 : k ≠ 3) (h9 : k ≠ 99) : a < h.1.2.2.2 := by
  rcases Nat.lt_or_ge a h.1.2.2.2 with q | q
  · exact q
  · rcases r.2.2.2.1 a q with e | e
    · exact absurd (hk.symm.trans e) h3
    · exact absurd (hk.symm.trans e) h9
theorem ad_lt {G : aG} {h : aH} {H : Heap} (r : rep G h H) {a : Nat} (ha : a < h.1.2.2.2) : ad G a = gS G + a := by
  have := r.2.1
  unfold ad
  rw [if_neg (by omega), if_neg (by omega), if_neg (by omega), if_neg (by omega)]
-- the locals
def asl (G : aG) : Nat → aL → List (Nat × Value)
  | _, [] => []
  | i, none :: l => asl G (i + 1) l
  | i, some v :: l => (i, am G v) :: asl G (i + 1) l
theorem asl_mem {G : aG} : ∀ (l : aL) (i0 : Nat) (q : Nat × Value), q ∈ asl G i0 l ↔ i0 ≤ q.1 ∧ ∃ v, gl l (q.1 - i0) = some v ∧ q.2 = am G v
  | [], i0, q => by simp [asl, gl]
  | none :: l, i0, q => by
    rw [asl, asl_mem l (i0 + 1) q]
    constructor
    · rintro ⟨h1, v, h2, h3⟩
      refine ⟨by omega, v, ?_, h3⟩
      rw [show q.1 - i0 = (q.1 - (i0 + 1)) + 1 by omega]
      exact h2
    · rintro ⟨h1, v, h2, h3⟩
      by_cases e : q.1 = i0
      · rw [e, Nat.sub_self] at h2
        cases h2
      · rw [show q.1 - i0 = (q.1 - (i0 + 1)) + 1 by omega] at h2
        exact ⟨by omega, v, h2, h3⟩
  | some w :: l, i0, q => by
    rw [asl, List.mem_cons, asl_mem l (i0 + 1) q]
    constructor
    · rintro (rfl | ⟨h1, v, h2, h3⟩)
      · exact ⟨Nat.le_refl _, w, by rw [Nat.sub_self]; rfl, rfl⟩
      · refine ⟨by omega, v, ?_, h3⟩
        rw [show q.1 - i0 = (q.1 - (i0 + 1)) + 1 by omega]
        exact h2
    · rintro ⟨h1, v, h2, h3⟩
      by_cases e : q.1 = i0
      · rw [e, Nat.sub_self] at h2
        cases h2
        exact Or.inl (Prod.ext e h3)
      · rw [show q.1 - i0 = (q.1 - (i0 + 1)) + 1 by omega] at h2
        exact Or.inr ⟨by omega, v, h2, h3⟩
def loc (G : aG) (ls : aL) (lss : Array Slot) (nL : Nat) : Prop := lv_has lss nL (asl G 0 ls) ∧ ls.length = nL
theorem loc_get {G : aG} {ls : aL} {lss : Array Slot} {nL k : Nat} {v : Value} (h : loc G ls lss nL) (hg : gl ls k = some v) : lss[k]? = some (.val (am G v)) := h.1.2.2 (k, am G v) ((asl_mem ls 0 _).mpr ⟨Nat.zero_le _, v, hg, rfl⟩)
theorem sl1_s (a : Option Value) (l : aL) (n : Nat) (v : Value) : sl1 (a :: l) (n + 1) v = match sl1 l n v with | none => none | some l' => some ((match n with | 0 => kp a | _ + 1 => a) :: l') := rfl
theorem sl2_s (a b : Option Value) (l : aL) (n : Nat) (v : Value) : sl2 (a :: b :: l) (n + 1) v = match sl2 (b :: l) n v with | none => none | some l' => some ((match n with | 0 => kp a | _ + 1 => a) :: l') := rfl
theorem sl1_gl : ∀ (l : aL) (k : Nat) (v : Value) (l' : aL), sl1 l k v = some l' → l'.length = l.length ∧ k < l.length ∧ ∀ j, gl l' j = if j = k then some v else if j + 1 = k then kp (gl l j) else gl l j
  | [], k, v, l', h => by simp [sl1] at h
  | a :: l, 0, v, l', h => by
    simp only [sl1, Option.some.injEq] at h
    subst h
    refine ⟨rfl, Nat.zero_lt_succ _, fun j => ?_⟩
    cases j with
    | zero => rfl
    | succ j => rw [if_neg (by omega), if_neg (by omega)]; rfl
  | a :: l, n + 1, v, l', h => by
    rw [sl1_s] at h
    cases hs : sl1 l n v with
    | none => rw [hs] at h; cases h
    | some l1 =>
      rw [hs] at h
      obtain ⟨e1, e2, e3⟩ := sl1_gl l n v l1 hs
      simp only [Option.some.injEq] at h
      subst h
      refine ⟨by simp [e1], by simp; exact e2, fun j => ?_⟩
      cases j with
      | zero =>
        rw [if_neg (by omega)]
        cases n with
        | zero => rw [if_pos rfl]; rfl
        | succ n => rw [if_neg (by omega)]; rfl
      | succ j =>
        show gl l1 j = _
        rw [e3 j]
        by_cases a1 : j = n
        · rw [if_pos a1, if_pos (congrArg (· + 1) a1)]
        · have h1 : ¬ j + 1 = n + 1 := by omega
          by_cases a2 : j + 1 = n
          · have h2 : j + 1 + 1 = n + 1 := by omega
            simp only [if_neg a1, if_pos a2, if_neg h1, if_pos h2]; rfl
          · have h2 : ¬ j + 1 + 1 = n + 1 := by omega
            simp only [if_neg a1, if_neg a2, if_neg h1, if_neg h2]; rfl
theorem sl2_gl : ∀ (l : aL) (k : Nat) (v : Value) (l' : aL), sl2 l k v = some l' → l'.length = l.length ∧ k + 1 < l.length ∧ ∀ j, gl l' j = if j = k then some v else if j = k + 1 then none else if j + 1 = k then kp (gl l j) else gl l j
  | [], k, v, l', h => by simp [sl2] at h
  | [a], 0, v, l', h => by simp [sl2] at h
  | [a], n + 1, v, l', h => by simp [sl2] at h
  | a :: b :: l, 0, v, l', h => by
    simp only [sl2, Option.some.injEq] at h
    subst h
    refine ⟨rfl, by simp, fun j => ?_⟩
    match j with
    | 0 => rfl
    | 1 => rfl
    | j + 2 => rw [if_neg (by omega), if_neg (by omega), if_neg (by omega)]; rfl
  | a :: b :: l, n + 1, v, l', h => by
    rw [sl2_s] at h
    cases hs : sl2 (b :: l) n v with
    | none => rw [hs] at h; cases h
    | some l1 =>
      rw [hs] at h
      obtain ⟨e1, e2, e3⟩ := sl2_gl (b :: l) n v l1 hs
      simp only [Option.some.injEq] at h
      subst h
      refine ⟨by simp [e1], by simp at e2 ⊢; exact e2, fun j => ?_⟩
      cases j with
      | zero =>
        rw [if_neg (by omega), if_neg (by omega)]
        cases n with
        | zero => rw [if_pos rfl]; rfl
        | succ n => rw [if_neg (by omega)]; rfl
      | succ j =>
        show gl l1 j = _
        rw [e3 j]
        by_cases a1 : j = n
        · rw [if_pos a1, if_pos (congrArg (· + 1) a1)]
        · have h1 : ¬ j + 1 = n + 1 := by omega
          by_cases a3 : j = n + 1
          · have h3 : j + 1 = n + 1 + 1 := by omega
            simp only [if_neg a1, if_pos a3, if_neg h1, if_pos h3]
          · have h3 : ¬ j + 1 = n + 1 + 1 := by omega
            by_cases a2 : j + 1 = n
            · have h2 : j + 1 + 1 = n + 1 := by omega
              simp only [if_neg a1, if_neg a3, if_pos a2, if_neg h1, if_neg h3, if_pos h2]; rfl
            · have h2 : ¬ j + 1 + 1 = n + 1 := by omega
              simp only [if_neg a1, if_neg a3, if_neg a2, if_neg h1, if_neg h3, if_neg h2]; rfl
theorem kp_cat {o : Option Value} {v : Value} (h : kp o = some v) : o = some v ∧ ¬ v.category = 2 := by
  unfold kp at h
  split at h
  · cases h
  · cases h
  · rename_i n1 n2
    subst h
    refine ⟨rfl, ?_⟩
    cases v <;> simp [Value.category] <;> simp_all
theorem loc_st1 {G : aG} {ls ls' : aL} {lss : Array Slot} {nL k : Nat} {v : Value} (h : loc G ls lss nL) (hs : sl1 ls k v = some ls') : k < nL ∧ ∀ lss' : Array Slot, lv_has lss' nL ((k, am G v) :: (asl G 0 ls).filter (fun q => !(q.1 == k) && !(q.1 + 1 == k && q.2.category == 2))) → loc G ls' lss' nL := by
  obtain ⟨e1, e2, e3⟩ := sl1_gl ls k v ls' hs
  refine ⟨h.2 ▸ e2, fun lss' hl => ⟨⟨hl.1, hl.2.1, fun q hq => hl.2.2 q ?_⟩, e1.trans h.2⟩⟩
  obtain ⟨-, w, hw, hv⟩ := (asl_mem ls' 0 q).mp hq
  rw [Nat.sub_zero, e3] at hw
  by_cases a1 : q.1 = k
  · rw [if_pos a1] at hw
    cases hw
    exact List.mem_cons.mpr (Or.inl (Prod.ext a1 hv))
  · rw [if_neg a1] at hw
    refine List.mem_cons.mpr (Or.inr (List.mem_filter.mpr ?_))
    by_cases a2 : q.1 + 1 = k
    · rw [if_pos a2] at hw
      obtain ⟨f1, f2⟩ := kp_cat hw
      refine ⟨(asl_mem ls 0 q).mpr ⟨Nat.zero_le _, w, by rw [Nat.sub_zero]; exact f1, hv⟩, ?_⟩
      rw [hv, am_cat]
      simp [a1, f2]
    · rw [if_neg a2] at hw
      refine ⟨(asl_mem ls 0 q).mpr ⟨Nat.zero_le _, w, by rw [Nat.sub_zero]; exact hw, hv⟩, ?_⟩
      simp [a1, a2]
theorem loc_st2 {G : aG} {ls ls' : aL} {lss : Array Slot} {nL k : Nat} {v : Value} (h : loc G ls lss nL) (hs : sl2 ls k v = some ls') : k + 1 < nL ∧ ∀ lss' : Array Slot, lv_has lss' nL ((k, am G v) :: (asl G 0 ls).filter (fun q => !(q.1 == k) && (!(q.1 == k + 1) && !(q.1 + 1 == k && q.2.category == 2)))) → loc G ls' lss' nL := by
  obtain ⟨e1, e2, e3⟩ := sl2_gl ls k v ls' hs
  refine ⟨h.2 ▸ e2, fun lss' hl => ⟨⟨hl.1, hl.2.1, fun q hq => hl.2.2 q ?_⟩, e1.trans h.2⟩⟩
  obtain ⟨-, w, hw, hv⟩ := (asl_mem ls' 0 q).mp hq
  rw [Nat.sub_zero, e3] at hw
  by_cases a1 : q.1 = k
  · rw [if_pos a1] at hw
    cases hw
    exact List.mem_cons.mpr (Or.inl (Prod.ext a1 hv))
  · rw [if_neg a1] at hw
    by_cases a3 : q.1 = k + 1
    · rw [if_pos a3] at hw; cases hw
    · rw [if_neg a3] at hw
      refine List.mem_cons.mpr (Or.inr (List.mem_filter.mpr ?_))
      by_cases a2 : q.1 + 1 = k
      · rw [if_pos a2] at hw
        obtain ⟨f1, f2⟩ := kp_cat hw
        refine ⟨(asl_mem ls 0 q).mpr ⟨Nat.zero_le _, w, by rw [Nat.sub_zero]; exact f1, hv⟩, ?_⟩
        rw [hv, am_cat]
        simp [a1, a3, f2]
      · rw [if_neg a2] at hw
        refine ⟨(asl_mem ls 0 q).mpr ⟨Nat.zero_le _, w, by rw [Nat.sub_zero]; exact hw, hv⟩, ?_⟩
        simp [a1, a2, a3]
