/-! a step of the clean machine that looks at no object: the machine goes it too -/
def pureI (i : Instr) : Bool := match i with
  | .iload_n _ => true
  | .istore_n _ => true
  | .iload _ => true
  | .istore _ => true
  | .lload_n _ => true
  | .lstore_n _ => true
  | .lload _ => true
  | .lstore _ => true
  | .dload_n _ => true
  | .dstore_n _ => true
  | .dload _ => true
  | .dstore _ => true
  | .aload_n _ => true
  | .astore_n _ => true
  | .aload _ => true
  | .astore _ => true
  | .iinc _ _ => true
  | .iconst _ => true
  | .bipush _ => true
  | .sipush _ => true
  | .lconst _ => true
  | .dconst _ => true
  | .iadd => true
  | .isub => true
  | .imul => true
  | .iand => true
  | .ladd => true
  | .lsub => true
  | .lmul => true
  | .ishr => true
  | .idiv => true
  | .irem => true
  | .lshl => true
  | .i2l => true
  | .iushr => true
  | .i2d => true
  | .d2l => true
  | .dcmp _ => true
  | .lcmp => true
  | .ddiv => true
  | .dmul => true
  | .dsub => true
  | .dup => true
  | .dup2 => true
  | .pop => true
  | .goto _ => true
  | .if_icmp _ _ => true
  | .ifCond _ _ => true
  | .tableswitch _ _ _ _ => true
  | .lookupswitch _ _ => true
  | _ => false
theorem gd_nx {b : Bool} {p p' : Nat} {l l' : aL} {s s' : List Value} {h h' : aH} (q : gd b (nx p l s h) = nx p' l' s' h') : b = true ∧ p = p' ∧ l = l' ∧ s = s' ∧ h = h' := by
  cases b
  · simp [gd, nx] at q
  · simp only [gd, nx, Option.some.injEq, Sum.inl.injEq, Prod.mk.injEq] at q
    exact ⟨rfl, q.1, q.2.1, q.2.2.1, q.2.2.2⟩
theorem nx_nx {p p' : Nat} {l l' : aL} {s s' : List Value} {h h' : aH} (q : nx p l s h = nx p' l' s' h') : p = p' ∧ l = l' ∧ s = s' ∧ h = h' := by
  simp only [nx, Option.some.injEq, Sum.inl.injEq, Prod.mk.injEq] at q
  exact ⟨q.1, q.2.1, q.2.2.1, q.2.2.2⟩
theorem gd_br {b : Bool} {o : aO} {p' : Nat} {l' : aL} {s' : List Value} {h' : aH} (q : gd b o = nx p' l' s' h') : b = true ∧ o = nx p' l' s' h' := by
  cases b
  · simp [gd, nx] at q
  · exact ⟨rfl, q⟩
theorem tgo_eq {pc : Nat} {off : Int} (h : tgo pc off = true) : (pc : Int) + off = ((tgN pc off : Nat) : Int) := by
  have h := of_decide_eq_true h
  unfold tgN
  omega
theorem aNlt (a b : Int32) : (!decide (a < b)) = decide (b ≤ a) := by
  by_cases q : a < b
  · simp [q, Int32.not_le.mpr q]
  · simp [q, Int32.not_lt.mp q]
theorem aLcmp (a b : Int64) : lg_cmp a b = if a < b then -1 else if a = b then 0 else 1 := by
  unfold lg_cmp
  by_cases h1 : a < b
  · have h2 : ¬ b < a := lg_lt_not h1
    have h3 : ¬ a = b := fun e => by subst e; exact h2 h1
    simp [h1, h2, h3]
  · by_cases h3 : a = b
    · subst h3; simp [h1]
    · have h4 : b < a := by
        rw [Int64.lt_iff_toInt_lt] at h1 ⊢
        have : a.toInt ≠ b.toInt := fun e => h3 (Int64.toInt_inj.mp e)
        omega
      simp [h1, h3, h4]
section StP
variable {p : Program} {l : Launch} {e : Env} {R : Room} {s : State} {m : MethodId} {args : Array Value} {below : List Frame} {meth : Method} {c : Code} {H : Heap} {locs : List Loc} {cells slots : Nat} {Q : State → Prop}
variable {G : aG} {M pc len pc' : Nat} {i : Instr} {ls ls' : aL} {st st' : List Value} {h h' : aH} {lss : Array Slot} {nL : Nat}
set_option maxHeartbeats 4000000 in
theorem stP (hx : p.tables.exec = Jvm.exec) (hb : c.code = mCode M) (hd : decode (mCode M) pc = .ok (i, len)) (ha : act M pc len i ls st h = nx pc' ls' st' h') (hp : pureI i = true) (hl : loc G ls lss nL)
    (kk : h' = h → ∀ lss' : Array Slot, loc G ls' lss' nL → W p l e R s m args below meth c H locs cells slots Q (F0 m pc' lss' (st'.map (am G)))) : W p l e R s m args below meth c H locs cells slots Q (F0 m pc lss (st.map (am G))) := by
  cases i
  case iload_n k =>
    simp only [act] at ha
    split at ha
    · rename_i a hg
      obtain ⟨h1, rfl, rfl, rfl, rfl⟩ := gd_nx ha
      have h1 := Nat.eq_of_beq_eq_true h1
      subst h1
      exact lv_iload_n hx hb hd rfl (loc_get hl hg) (kk rfl lss hl)
    · simp [nx] at ha
  case istore_n k =>
    simp only [act] at ha
    split at ha
    · split at ha
      · rename_i l2 hs
        obtain ⟨h1, rfl, rfl, rfl, rfl⟩ := gd_nx ha
        have h1 := Nat.eq_of_beq_eq_true h1
        subst h1
        obtain ⟨hk, hst⟩ := loc_st1 hl hs
        exact lv_istore_n hx hb hd rfl hl.1 hk rfl (fun lss' hl' => kk rfl lss' (hst lss' hl'))
      · simp [nx] at ha
    · simp [nx] at ha
  case iload k =>
    simp only [act] at ha
    split at ha
    · rename_i a hg
      obtain ⟨h1, rfl, rfl, rfl, rfl⟩ := gd_nx ha
      have h1 := Nat.eq_of_beq_eq_true h1
      subst h1
      exact lv_iload hx hb hd (loc_get hl hg) (kk rfl lss hl)
    · simp [nx] at ha
  case istore k =>
    simp only [act] at ha
    split at ha
    · split at ha
      · rename_i l2 hs
        obtain ⟨h1, rfl, rfl, rfl, rfl⟩ := gd_nx ha
        have h1 := Nat.eq_of_beq_eq_true h1
        subst h1
        obtain ⟨hk, hst⟩ := loc_st1 hl hs
        exact lv_istore hx hb hd hl.1 hk rfl (fun lss' hl' => kk rfl lss' (hst lss' hl'))
      · simp [nx] at ha
    · simp [nx] at ha
  case lload_n k =>
    simp only [act] at ha
    split at ha
    · rename_i a hg
      obtain ⟨h1, rfl, rfl, rfl, rfl⟩ := gd_nx ha
      have h1 := Nat.eq_of_beq_eq_true h1
      subst h1
      exact lv_lload_n hx hb hd rfl (loc_get hl hg) (kk rfl lss hl)
    · simp [nx] at ha
  case lstore_n k =>
    simp only [act] at ha
    split at ha
    · split at ha
      · rename_i l2 hs
        obtain ⟨h1, rfl, rfl, rfl, rfl⟩ := gd_nx ha
        have h1 := Nat.eq_of_beq_eq_true h1
        subst h1
        obtain ⟨hk, hst⟩ := loc_st2 hl hs
        exact lv_lstore_n hx hb hd rfl hl.1 hk rfl (fun lss' hl' => kk rfl lss' (hst lss' hl'))
      · simp [nx] at ha
    · simp [nx] at ha
  case lload k =>
    simp only [act] at ha
    split at ha
    · rename_i a hg
      obtain ⟨h1, rfl, rfl, rfl, rfl⟩ := gd_nx ha
      have h1 := Nat.eq_of_beq_eq_true h1
      subst h1
      exact lv_lload hx hb hd (loc_get hl hg) (kk rfl lss hl)
    · simp [nx] at ha
  case lstore k =>
    simp only [act] at ha
    split at ha
    · split at ha
      · rename_i l2 hs
        obtain ⟨h1, rfl, rfl, rfl, rfl⟩ := gd_nx ha
        have h1 := Nat.eq_of_beq_eq_true h1
        subst h1
        obtain ⟨hk, hst⟩ := loc_st2 hl hs
        exact lv_lstore hx hb hd hl.1 hk rfl (fun lss' hl' => kk rfl lss' (hst lss' hl'))
      · simp [nx] at ha
    · simp [nx] at ha
  case dload_n k =>
    simp only [act] at ha
    split at ha
    · rename_i a hg
      obtain ⟨h1, rfl, rfl, rfl, rfl⟩ := gd_nx ha
      have h1 := Nat.eq_of_beq_eq_true h1
      subst h1
      exact lv_dload_n hx hb hd rfl (loc_get hl hg) (kk rfl lss hl)
    · simp [nx] at ha
  case dstore_n k =>
    simp only [act] at ha
    split at ha
    · split at ha
      · rename_i l2 hs
        obtain ⟨h1, rfl, rfl, rfl, rfl⟩ := gd_nx ha
        have h1 := Nat.eq_of_beq_eq_true h1
        subst h1
        obtain ⟨hk, hst⟩ := loc_st2 hl hs
        exact lv_dstore_n hx hb hd rfl hl.1 hk rfl (fun lss' hl' => kk rfl lss' (hst lss' hl'))
      · simp [nx] at ha
    · simp [nx] at ha
  case dload k =>
    simp only [act] at ha
    split at ha
    · rename_i a hg
      obtain ⟨h1, rfl, rfl, rfl, rfl⟩ := gd_nx ha
      have h1 := Nat.eq_of_beq_eq_true h1
      subst h1
      exact lv_dload hx hb hd (loc_get hl hg) (kk rfl lss hl)
    · simp [nx] at ha
  case dstore k =>
    simp only [act] at ha
    split at ha
    · split at ha
      · rename_i l2 hs
        obtain ⟨h1, rfl, rfl, rfl, rfl⟩ := gd_nx ha
        have h1 := Nat.eq_of_beq_eq_true h1
        subst h1
        obtain ⟨hk, hst⟩ := loc_st2 hl hs
        exact lv_dstore hx hb hd hl.1 hk rfl (fun lss' hl' => kk rfl lss' (hst lss' hl'))
      · simp [nx] at ha
    · simp [nx] at ha
  case aload_n k =>
    simp only [act] at ha
    split at ha
    · rename_i a hg
      obtain ⟨h1, rfl, rfl, rfl, rfl⟩ := gd_nx ha
      have h1 := Nat.eq_of_beq_eq_true h1
      subst h1
      exact lv_aload_n hx hb hd rfl (loc_get hl hg) (kk rfl lss hl)
    · simp [nx] at ha
  case astore_n k =>
    simp only [act] at ha
    split at ha
    · split at ha
      · rename_i l2 hs
        obtain ⟨h1, rfl, rfl, rfl, rfl⟩ := gd_nx ha
        have h1 := Nat.eq_of_beq_eq_true h1
        subst h1
        obtain ⟨hk, hst⟩ := loc_st1 hl hs
        exact lv_astore_n hx hb hd rfl hl.1 hk rfl (fun lss' hl' => kk rfl lss' (hst lss' hl'))
      · simp [nx] at ha
    · simp [nx] at ha
  case aload k =>
    simp only [act] at ha
    split at ha
    · rename_i a hg
      obtain ⟨h1, rfl, rfl, rfl, rfl⟩ := gd_nx ha
      have h1 := Nat.eq_of_beq_eq_true h1
      subst h1
      exact lv_aload hx hb hd (loc_get hl hg) (kk rfl lss hl)
    · simp [nx] at ha
  case astore k =>
    simp only [act] at ha
    split at ha
    · split at ha
      · rename_i l2 hs
        obtain ⟨h1, rfl, rfl, rfl, rfl⟩ := gd_nx ha
        have h1 := Nat.eq_of_beq_eq_true h1
        subst h1
        obtain ⟨hk, hst⟩ := loc_st1 hl hs
        exact lv_astore hx hb hd hl.1 hk rfl (fun lss' hl' => kk rfl lss' (hst lss' hl'))
      · simp [nx] at ha
    · simp [nx] at ha
  case iinc k n =>
    simp only [act] at ha
    split at ha
    · rename_i a hg
      split at ha
      · rename_i l2 hs
        obtain ⟨h1, rfl, rfl, rfl, rfl⟩ := gd_nx ha
        have h1 := Nat.eq_of_beq_eq_true h1
        subst h1
        obtain ⟨hk, hst⟩ := loc_st1 hl hs
        obtain ⟨j, hj⟩ := List.getElem?_of_mem ((asl_mem ls 0 (k, am G (.int a))).mpr ⟨Nat.zero_le _, _, hg, rfl⟩)
        exact lv_iinc hx hb hd hl.1 hj rfl hk rfl (fun lss' hl' => kk rfl lss' (hst lss' hl'))
      · simp [nx] at ha
    · simp [nx] at ha
  case iconst n =>
    simp only [act] at ha
    obtain ⟨h1, rfl, rfl, rfl, rfl⟩ := gd_nx ha
    have h1 := Nat.eq_of_beq_eq_true h1
    subst h1
    exact lv_iconst hx hb hd rfl (kk rfl lss hl)
  case bipush n =>
    simp only [act] at ha
    obtain ⟨h1, rfl, rfl, rfl, rfl⟩ := gd_nx ha
    have h1 := Nat.eq_of_beq_eq_true h1
    subst h1
    exact lv_bipush hx hb hd rfl (kk rfl lss hl)
  case sipush n =>
    simp only [act] at ha
    obtain ⟨h1, rfl, rfl, rfl, rfl⟩ := gd_nx ha
    have h1 := Nat.eq_of_beq_eq_true h1
    subst h1
    exact lv_sipush hx hb hd rfl (kk rfl lss hl)
  case lconst n =>
    simp only [act] at ha
    obtain ⟨h1, rfl, rfl, rfl, rfl⟩ := gd_nx ha
    have h1 := Nat.eq_of_beq_eq_true h1
    subst h1
    exact lv_lconst hx hb hd rfl (kk rfl lss hl)
  case dconst n =>
    simp only [act] at ha
    obtain ⟨h1, rfl, rfl, rfl, rfl⟩ := gd_nx ha
    have h1 := Nat.eq_of_beq_eq_true h1
    subst h1
    match n, hd, kk with
    | 0, hd, kk => exact lv_dconst0 hx hb hd (kk rfl lss hl)
    | 1, hd, kk => exact lv_dconst1 hx hb hd (kk rfl lss hl)
  case iadd =>
    simp only [act] at ha
    split at ha
    · obtain ⟨h1, rfl, rfl, rfl, rfl⟩ := gd_nx ha
      have h1 := Nat.eq_of_beq_eq_true h1
      subst h1
      exact lv_iadd hx hb hd (kk rfl lss hl)
    · simp [nx] at ha
  case isub =>
    simp only [act] at ha
    split at ha
    · obtain ⟨h1, rfl, rfl, rfl, rfl⟩ := gd_nx ha
      have h1 := Nat.eq_of_beq_eq_true h1
      subst h1
      exact lv_isub hx hb hd (kk rfl lss hl)
    · simp [nx] at ha
  case imul =>
    simp only [act] at ha
    split at ha
    · obtain ⟨h1, rfl, rfl, rfl, rfl⟩ := gd_nx ha
      have h1 := Nat.eq_of_beq_eq_true h1
      subst h1
      exact lv_imul hx hb hd (kk rfl lss hl)
    · simp [nx] at ha
  case iand =>
    simp only [act] at ha
    split at ha
    · obtain ⟨h1, rfl, rfl, rfl, rfl⟩ := gd_nx ha
      have h1 := Nat.eq_of_beq_eq_true h1
      subst h1
      exact lv_iand hx hb hd (kk rfl lss hl)
    · simp [nx] at ha
  case ladd =>
    simp only [act] at ha
    split at ha
    · obtain ⟨h1, rfl, rfl, rfl, rfl⟩ := gd_nx ha
      have h1 := Nat.eq_of_beq_eq_true h1
      subst h1
      exact lv_ladd hx hb hd (kk rfl lss hl)
    · simp [nx] at ha
  case lsub =>
    simp only [act] at ha
    split at ha
    · obtain ⟨h1, rfl, rfl, rfl, rfl⟩ := gd_nx ha
      have h1 := Nat.eq_of_beq_eq_true h1
      subst h1
      exact lv_lsub hx hb hd (kk rfl lss hl)
    · simp [nx] at ha
  case lmul =>
    simp only [act] at ha
    split at ha
    · obtain ⟨h1, rfl, rfl, rfl, rfl⟩ := gd_nx ha
      have h1 := Nat.eq_of_beq_eq_true h1
      subst h1
      exact lv_lmul hx hb hd (kk rfl lss hl)
    · simp [nx] at ha
  case ishr =>
    simp only [act] at ha
    split at ha
    · obtain ⟨h1, rfl, rfl, rfl, rfl⟩ := gd_nx ha
      have h1 := Nat.eq_of_beq_eq_true h1
      subst h1
      exact lv_ishr hx hb hd (kk rfl lss hl)
    · simp [nx] at ha
  case idiv =>
    simp only [act] at ha
    split at ha
    · rename_i b a r
      by_cases h0 : b = 0
      · rw [if_pos h0] at ha
        cases hlen : Nat.beq len 1 <;> rw [hlen] at ha <;> simp [gd, nx] at ha
      · rw [if_neg h0] at ha
        obtain ⟨h1, rfl, rfl, rfl, rfl⟩ := gd_nx ha
        have h1 := Nat.eq_of_beq_eq_true h1
        subst h1
        exact lv_idiv hx hb hd h0 (kk rfl lss hl)
    · simp [nx] at ha
  case irem =>
    simp only [act] at ha
    split at ha
    · rename_i b a r
      by_cases h0 : b = 0
      · rw [if_pos h0] at ha
        cases hlen : Nat.beq len 1 <;> rw [hlen] at ha <;> simp [gd, nx] at ha
      · rw [if_neg h0] at ha
        obtain ⟨h1, rfl, rfl, rfl, rfl⟩ := gd_nx ha
        have h1 := Nat.eq_of_beq_eq_true h1
        subst h1
        exact lv_irem hx hb hd h0 (kk rfl lss hl)
    · simp [nx] at ha
  case lshl =>
    simp only [act] at ha
    split at ha
    · obtain ⟨h1, rfl, rfl, rfl, rfl⟩ := gd_nx ha
      have h1 := Nat.eq_of_beq_eq_true h1
      subst h1
      exact lv_lshl hx hb hd rfl (kk rfl lss hl)
    · simp [nx] at ha
  case i2l =>
    simp only [act] at ha
    split at ha
    · obtain ⟨h1, rfl, rfl, rfl, rfl⟩ := gd_nx ha
      have h1 := Nat.eq_of_beq_eq_true h1
      subst h1
      exact lv_i2l hx hb hd rfl (kk rfl lss hl)
    · simp [nx] at ha
  case iushr =>
    simp only [act] at ha
    split at ha
    · obtain ⟨h1, rfl, rfl, rfl, rfl⟩ := gd_nx ha
      have h1 := Nat.eq_of_beq_eq_true h1
      subst h1
      exact lv_iushr hx hb hd rfl (kk rfl lss hl)
    · simp [nx] at ha
  case i2d =>
    simp only [act] at ha
    split at ha
    · obtain ⟨h1, rfl, rfl, rfl, rfl⟩ := gd_nx ha
      have h1 := Nat.eq_of_beq_eq_true h1
      subst h1
      exact lv_i2d hx hb hd (kk rfl lss hl)
    · simp [nx] at ha
  case d2l =>
    simp only [act] at ha
    split at ha
    · obtain ⟨h1, rfl, rfl, rfl, rfl⟩ := gd_nx ha
      have h1 := Nat.eq_of_beq_eq_true h1
      subst h1
      exact lv_d2l hx hb hd (kk rfl lss hl)
    · simp [nx] at ha
  case dcmp op =>
    simp only [act] at ha
    split at ha
    · obtain ⟨h1, rfl, rfl, rfl, rfl⟩ := gd_nx ha
      have h1 := Nat.eq_of_beq_eq_true h1
      subst h1
      exact lv_dcmp hx hb hd (kk rfl lss hl)
    · simp [nx] at ha
  case lcmp =>
    simp only [act] at ha
    split at ha
    · rename_i b a r
      obtain ⟨h1, rfl, rfl, rfl, rfl⟩ := gd_nx ha
      have h1 := Nat.eq_of_beq_eq_true h1
      subst h1
      refine W.lcmp hx hb hd ?_
      have e : lg_cmp a b = if a < b then -1 else if a = b then 0 else 1 := aLcmp a b
      rw [e]
      exact kk rfl lss hl
    · simp [nx] at ha
  case ddiv =>
    simp only [act] at ha
    split at ha
    · rename_i b a r
      by_cases h0 : FP.ddiv a b &&& 0x7fffffffffffffff ≤ 0x7ff0000000000000
      · rw [if_pos h0] at ha
        obtain ⟨h1, rfl, rfl, rfl, rfl⟩ := gd_nx ha
        have h1 := Nat.eq_of_beq_eq_true h1
        subst h1
        exact lv_ddiv hx hb hd h0 (kk rfl lss hl)
      · rw [if_neg h0] at ha
        cases hlen : Nat.beq len 1 <;> rw [hlen] at ha <;> simp [gd, nx] at ha
    · simp [nx] at ha
  case dmul =>
    simp only [act] at ha
    split at ha
    · rename_i b a r
      by_cases h0 : FP.dmul a b &&& 0x7fffffffffffffff ≤ 0x7ff0000000000000
      · rw [if_pos h0] at ha
        obtain ⟨h1, rfl, rfl, rfl, rfl⟩ := gd_nx ha
        have h1 := Nat.eq_of_beq_eq_true h1
        subst h1
        exact lv_dmul hx hb hd h0 (kk rfl lss hl)
      · rw [if_neg h0] at ha
        cases hlen : Nat.beq len 1 <;> rw [hlen] at ha <;> simp [gd, nx] at ha
    · simp [nx] at ha
  case dsub =>
    simp only [act] at ha
    split at ha
    · rename_i b a r
      by_cases h0 : FP.dsub a b &&& 0x7fffffffffffffff ≤ 0x7ff0000000000000
      · rw [if_pos h0] at ha
        obtain ⟨h1, rfl, rfl, rfl, rfl⟩ := gd_nx ha
        have h1 := Nat.eq_of_beq_eq_true h1
        subst h1
        exact lv_dsub hx hb hd h0 (kk rfl lss hl)
      · rw [if_neg h0] at ha
        cases hlen : Nat.beq len 1 <;> rw [hlen] at ha <;> simp [gd, nx] at ha
    · simp [nx] at ha
  case dup =>
    simp only [act] at ha
    split at ha
    · obtain ⟨h1, rfl, rfl, rfl, rfl⟩ := gd_nx ha
      have h1 := Nat.eq_of_beq_eq_true h1
      subst h1
      exact lv_dup hx hb hd rfl (kk rfl lss hl)
    · obtain ⟨h1, rfl, rfl, rfl, rfl⟩ := gd_nx ha
      have h1 := Nat.eq_of_beq_eq_true h1
      subst h1
      exact lv_dup hx hb hd rfl (kk rfl lss hl)
    · simp [nx] at ha
  case dup2 =>
    simp only [act] at ha
    split at ha
    · obtain ⟨h1, rfl, rfl, rfl, rfl⟩ := gd_nx ha
      have h1 := Nat.eq_of_beq_eq_true h1
      subst h1
      exact lv_dup2_11 hx hb hd rfl rfl (kk rfl lss hl)
    · simp [nx] at ha
  case pop =>
    simp only [act] at ha
    split at ha
    · obtain ⟨h1, rfl, rfl, rfl, rfl⟩ := gd_nx ha
      have h1 := Nat.eq_of_beq_eq_true h1
      subst h1
      exact lv_pop hx hb hd rfl (kk rfl lss hl)
    · obtain ⟨h1, rfl, rfl, rfl, rfl⟩ := gd_nx ha
      have h1 := Nat.eq_of_beq_eq_true h1
      subst h1
      exact lv_pop hx hb hd rfl (kk rfl lss hl)
    · simp [nx] at ha
  case goto off =>
    simp only [act] at ha
    obtain ⟨h1, rfl, rfl, rfl, rfl⟩ := gd_nx ha
    obtain ⟨h1, h2⟩ := Bool.and_eq_true_iff.mp h1
    have h1 := Nat.eq_of_beq_eq_true h1
    subst h1
    exact lv_goto hx hb hd (tgo_eq h2) (kk rfl lss hl)
  case if_icmp cc off =>
    simp only [act] at ha
    split at ha
    · rename_i b a r
      obtain ⟨h0, ha2⟩ := gd_br ha
      clear ha
      obtain ⟨h1, h2⟩ := Bool.and_eq_true_iff.mp h0
      have h1 := Nat.eq_of_beq_eq_true h1
      subst h1
      cases cc
      · have e : cnd .eq a b = decide (a = b) := by simp [cnd]
        rw [e] at ha2
        refine lv_icmp_eq hx hb hd (tgo_eq h2) (fun q => ?_) (fun q => ?_)
        · rw [decide_eq_true q, if_pos rfl] at ha2
          obtain ⟨rfl, rfl, rfl, rfl⟩ := nx_nx ha2
          exact kk rfl lss hl
        · rw [decide_eq_false q, if_neg (by simp)] at ha2
          obtain ⟨rfl, rfl, rfl, rfl⟩ := nx_nx ha2
          exact kk rfl lss hl
      · have e : cnd .ne a b = decide (¬ a = b) := by simp [cnd]
        rw [e] at ha2
        refine lv_icmp_ne hx hb hd (tgo_eq h2) (fun q => ?_) (fun q => ?_)
        · rw [decide_eq_true q, if_pos rfl] at ha2
          obtain ⟨rfl, rfl, rfl, rfl⟩ := nx_nx ha2
          exact kk rfl lss hl
        · rw [decide_eq_false (fun z => z q), if_neg (by simp)] at ha2
          obtain ⟨rfl, rfl, rfl, rfl⟩ := nx_nx ha2
          exact kk rfl lss hl
      · have e : cnd .lt a b = decide (a < b) := by simp [cnd]
        rw [e] at ha2
        refine lv_icmp_lt hx hb hd (tgo_eq h2) (fun q => ?_) (fun q => ?_)
        · rw [decide_eq_true q, if_pos rfl] at ha2
          obtain ⟨rfl, rfl, rfl, rfl⟩ := nx_nx ha2
          exact kk rfl lss hl
        · rw [decide_eq_false q, if_neg (by simp)] at ha2
          obtain ⟨rfl, rfl, rfl, rfl⟩ := nx_nx ha2
          exact kk rfl lss hl
      · have e : cnd .ge a b = decide (b ≤ a) := aNlt _ _
        rw [e] at ha2
        refine lv_icmp_ge hx hb hd (tgo_eq h2) (fun q => ?_) (fun q => ?_)
        · rw [decide_eq_true q, if_pos rfl] at ha2
          obtain ⟨rfl, rfl, rfl, rfl⟩ := nx_nx ha2
          exact kk rfl lss hl
        · rw [decide_eq_false q, if_neg (by simp)] at ha2
          obtain ⟨rfl, rfl, rfl, rfl⟩ := nx_nx ha2
          exact kk rfl lss hl
      · have e : cnd .gt a b = decide (b < a) := by simp [cnd]
        rw [e] at ha2
        refine lv_icmp_gt hx hb hd (tgo_eq h2) (fun q => ?_) (fun q => ?_)
        · rw [decide_eq_true q, if_pos rfl] at ha2
          obtain ⟨rfl, rfl, rfl, rfl⟩ := nx_nx ha2
          exact kk rfl lss hl
        · rw [decide_eq_false q, if_neg (by simp)] at ha2
          obtain ⟨rfl, rfl, rfl, rfl⟩ := nx_nx ha2
          exact kk rfl lss hl
      · have e : cnd .le a b = decide (a ≤ b) := aNlt _ _
        rw [e] at ha2
        refine lv_icmp_le hx hb hd (tgo_eq h2) (fun q => ?_) (fun q => ?_)
        · rw [decide_eq_true q, if_pos rfl] at ha2
          obtain ⟨rfl, rfl, rfl, rfl⟩ := nx_nx ha2
          exact kk rfl lss hl
        · rw [decide_eq_false q, if_neg (by simp)] at ha2
          obtain ⟨rfl, rfl, rfl, rfl⟩ := nx_nx ha2
          exact kk rfl lss hl
    · simp [nx] at ha
  case ifCond cc off =>
    simp only [act] at ha
    split at ha
    · rename_i a r
      obtain ⟨h0, ha2⟩ := gd_br ha
      clear ha
      obtain ⟨h1, h2⟩ := Bool.and_eq_true_iff.mp h0
      have h1 := Nat.eq_of_beq_eq_true h1
      subst h1
      cases cc
      · have e : cnd .eq a 0 = decide (a = 0) := by simp [cnd]
        rw [e] at ha2
        refine lv_if_eq hx hb hd (tgo_eq h2) (fun q => ?_) (fun q => ?_)
        · rw [decide_eq_true q, if_pos rfl] at ha2
          obtain ⟨rfl, rfl, rfl, rfl⟩ := nx_nx ha2
          exact kk rfl lss hl
        · rw [decide_eq_false q, if_neg (by simp)] at ha2
          obtain ⟨rfl, rfl, rfl, rfl⟩ := nx_nx ha2
          exact kk rfl lss hl
      · have e : cnd .ne a 0 = decide (¬ a = 0) := by simp [cnd]
        rw [e] at ha2
        refine lv_if_ne hx hb hd (tgo_eq h2) (fun q => ?_) (fun q => ?_)
        · rw [decide_eq_true q, if_pos rfl] at ha2
          obtain ⟨rfl, rfl, rfl, rfl⟩ := nx_nx ha2
          exact kk rfl lss hl
        · rw [decide_eq_false (fun z => z q), if_neg (by simp)] at ha2
          obtain ⟨rfl, rfl, rfl, rfl⟩ := nx_nx ha2
          exact kk rfl lss hl
      · have e : cnd .lt a 0 = decide (a < 0) := by simp [cnd]
        rw [e] at ha2
        refine lv_if_lt hx hb hd (tgo_eq h2) (fun q => ?_) (fun q => ?_)
        · rw [decide_eq_true q, if_pos rfl] at ha2
          obtain ⟨rfl, rfl, rfl, rfl⟩ := nx_nx ha2
          exact kk rfl lss hl
        · rw [decide_eq_false q, if_neg (by simp)] at ha2
          obtain ⟨rfl, rfl, rfl, rfl⟩ := nx_nx ha2
          exact kk rfl lss hl
      · have e : cnd .ge a 0 = decide (0 ≤ a) := aNlt _ _
        rw [e] at ha2
        refine lv_if_ge hx hb hd (tgo_eq h2) (fun q => ?_) (fun q => ?_)
        · rw [decide_eq_true q, if_pos rfl] at ha2
          obtain ⟨rfl, rfl, rfl, rfl⟩ := nx_nx ha2
          exact kk rfl lss hl
        · rw [decide_eq_false q, if_neg (by simp)] at ha2
          obtain ⟨rfl, rfl, rfl, rfl⟩ := nx_nx ha2
          exact kk rfl lss hl
      · have e : cnd .gt a 0 = decide (0 < a) := by simp [cnd]
        rw [e] at ha2
        refine lv_if_gt hx hb hd (tgo_eq h2) (fun q => ?_) (fun q => ?_)
        · rw [decide_eq_true q, if_pos rfl] at ha2
          obtain ⟨rfl, rfl, rfl, rfl⟩ := nx_nx ha2
          exact kk rfl lss hl
        · rw [decide_eq_false q, if_neg (by simp)] at ha2
          obtain ⟨rfl, rfl, rfl, rfl⟩ := nx_nx ha2
          exact kk rfl lss hl
      · have e : cnd .le a 0 = decide (a ≤ 0) := aNlt _ _
        rw [e] at ha2
        refine lv_if_le hx hb hd (tgo_eq h2) (fun q => ?_) (fun q => ?_)
        · rw [decide_eq_true q, if_pos rfl] at ha2
          obtain ⟨rfl, rfl, rfl, rfl⟩ := nx_nx ha2
          exact kk rfl lss hl
        · rw [decide_eq_false q, if_neg (by simp)] at ha2
          obtain ⟨rfl, rfl, rfl, rfl⟩ := nx_nx ha2
          exact kk rfl lss hl
    · simp [nx] at ha
  case tableswitch d lo hi offs =>
    simp only [act] at ha
    split at ha
    · rename_i a r
      obtain ⟨h1, rfl, rfl, rfl, rfl⟩ := gd_nx ha
      have h1 := of_decide_eq_true h1
      by_cases q : a.toInt < lo ∨ hi < a.toInt
      · refine lv_tableOut hx hb hd q ?_ (kk rfl lss hl)
        have e : swT pc d lo hi offs a = (pc : Int) + d := if_pos q
        rw [e] at h1 ⊢
        omega
      · have q1 : ¬ a.toInt < lo := fun z => q (Or.inl z)
        have q2 : ¬ hi < a.toInt := fun z => q (Or.inr z)
        cases ho : offs[(a.toInt - lo).toNat]? with
        | none =>
          have e : swT pc d lo hi offs a = -1 := by rw [swT, if_neg q, ho]
          rw [e] at h1
          omega
        | some off =>
          have e : swT pc d lo hi offs a = (pc : Int) + off := by rw [swT, if_neg q, ho]
          refine lv_tableIn hx hb hd q1 q2 ho ?_ (kk rfl lss hl)
          rw [e] at h1 ⊢
          omega
    · simp [nx] at ha
  case lookupswitch d ps =>
    simp only [act] at ha
    split at ha
    · rename_i a r
      obtain ⟨h1, rfl, rfl, rfl, rfl⟩ := gd_nx ha
      obtain ⟨h1, h2⟩ := Bool.and_eq_true_iff.mp h1
      have h1 := of_decide_eq_true h1
      refine lv_lookup hx hb hd h2 rfl ?_ (kk rfl lss hl)
      omega
    · simp [nx] at ha
  all_goals (cases hp)
end StP
