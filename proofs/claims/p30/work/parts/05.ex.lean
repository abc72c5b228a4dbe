/-! what the clean machine answers, as a function: equations, an instruction each -/
noncomputable def ex (M pc : Nat) (ls : aL) (st : List Value) (h : aH) : Option (aR × aH) := @dite _ (∃ r, ∃ n, exN n M pc ls st h = some r) (Classical.propDecidable _) (fun q => some q.choose) (fun _ => none)
theorem ex_some {M pc : Nat} {ls : aL} {st : List Value} {h : aH} {r : aR × aH} : ex M pc ls st h = some r ↔ ∃ n, exN n M pc ls st h = some r := by
  unfold ex
  constructor
  · intro q
    split at q
    · rename_i p
      obtain ⟨n, hn⟩ := p.choose_spec
      cases q
      exact ⟨n, hn⟩
    · cases q
  · rintro ⟨n, hn⟩
    have p : ∃ r, ∃ n, exN n M pc ls st h = some r := ⟨r, n, hn⟩
    rw [dif_pos p]
    obtain ⟨k, hk⟩ := p.choose_spec
    have h1 := exN_mono hn (Nat.le_max_left n k)
    have h2 := exN_mono hk (Nat.le_max_right n k)
    rw [h1] at h2
    exact h2.symm
theorem ex_ext {M pc M2 pc2 : Nat} {ls ls2 : aL} {st st2 : List Value} {h h2 : aH} (q : ∀ r, (∃ n, exN n M pc ls st h = some r) ↔ ∃ n, exN n M2 pc2 ls2 st2 h2 = some r) : ex M pc ls st h = ex M2 pc2 ls2 st2 h2 := by
  apply Option.ext
  intro r
  exact ex_some.trans ((q r).trans ex_some.symm)
/-- what follows a call -/
noncomputable def aK (M pc : Nat) (ls : aL) (pc' : Nat) (rest : List Value) (o : Option (aR × aH)) : Option (aR × aH) := match o with
  | none => none
  | some (.inl v, h') => ex M pc' ls (v.toList ++ rest) h'
  | some (.inr e, h') => match hdl M pc e with
    | some (k, t) => match skp ls k with
      | some l' => ex M t l' [] h'
      | none => none
    | none => match mHh M with
      | [] => some (.inr e, h')
      | _ => none
section Eq
variable {M pc len : Nat} {i : Instr} {ls : aL} {st : List Value} {h : aH}
theorem ex_nx {pc' : Nat} {ls' : aL} {st' : List Value} {h' : aH} (hd : decode (mCode M) pc = .ok (i, len)) (ha : act M pc len i ls st h = nx pc' ls' st' h') : ex M pc ls st h = ex M pc' ls' st' h' := by
  refine ex_ext fun r => ⟨?_, ?_⟩
  · rintro ⟨n, hn⟩
    cases n with
    | zero => simp [exN] at hn
    | succ n => rw [exN, hd] at hn; dsimp only at hn; rw [ha] at hn; exact ⟨n, hn⟩
  · rintro ⟨n, hn⟩
    refine ⟨n + 1, ?_⟩
    rw [exN, hd]; dsimp only; rw [ha]; exact hn
theorem ex_dn {r : aR} {h' : aH} (hd : decode (mCode M) pc = .ok (i, len)) (ha : act M pc len i ls st h = dn r h') : ex M pc ls st h = some (r, h') := by
  refine ex_some.mpr ⟨1, ?_⟩
  rw [exN, hd]; dsimp only; rw [ha]; rfl
theorem ex_no (hd : decode (mCode M) pc = .ok (i, len)) (ha : act M pc len i ls st h = none) : ex M pc ls st h = none := by
  cases q : ex M pc ls st h with
  | none => rfl
  | some r =>
    obtain ⟨n, hn⟩ := ex_some.mp q
    cases n with
    | zero => simp [exN] at hn
    | succ n => rw [exN, hd] at hn; dsimp only at hn; rw [ha] at hn; cases hn
theorem ex_cl {M' pc' : Nat} {cs' : aL} {rest : List Value} (hd : decode (mCode M) pc = .ok (i, len)) (ha : act M pc len i ls st h = cl M' cs' pc' rest) : ex M pc ls st h = aK M pc ls pc' rest (ex M' 0 cs' [] h) := by
  apply Option.ext
  intro r
  rw [ex_some]
  constructor
  · rintro ⟨n, hn⟩
    cases n with
    | zero => simp [exN] at hn
    | succ n =>
      rw [exN, hd] at hn; dsimp only at hn; rw [ha] at hn; dsimp only [cl] at hn
      split at hn
      · cases hn
      · rename_i v h' hc
        rw [ex_some.mpr ⟨n, hc⟩]
        exact ex_some.mpr ⟨n, hn⟩
      · rename_i e h' hc
        rw [ex_some.mpr ⟨n, hc⟩]
        dsimp only [aK]
        split at hn
        · rename_i k t hh
          rw [hh]
          dsimp only
          cases hk : skp ls k with
          | none => rw [hk] at hn; cases hn
          | some l2 => rw [hk] at hn; exact ex_some.mpr ⟨n, hn⟩
        · rename_i hh
          rw [hh]
          dsimp only
          cases hm : mHh M with
          | nil => rw [hm] at hn; exact hn
          | cons a b => rw [hm] at hn; cases hn
  · intro q
    cases hc : ex M' 0 cs' [] h with
    | none => rw [hc] at q; cases q
    | some z =>
      obtain ⟨n, hn⟩ := ex_some.mp hc
      rw [hc] at q
      obtain ⟨v | e, h'⟩ := z
      · obtain ⟨k, hk⟩ := ex_some.mp (show ex M pc' ls (v.toList ++ rest) h' = some r from q)
        refine ⟨max n k + 1, ?_⟩
        rw [exN, hd]; dsimp only; rw [ha]; dsimp only [cl]
        rw [exN_mono hn (Nat.le_max_left n k)]
        exact exN_mono hk (Nat.le_max_right n k)
      · dsimp only [aK] at q
        cases hh : hdl M pc e with
        | none =>
          rw [hh] at q
          refine ⟨n + 1, ?_⟩
          rw [exN, hd]; dsimp only; rw [ha]; dsimp only [cl]
          rw [hn]; dsimp only; rw [hh]; dsimp only at q ⊢
          cases hm : mHh M with
          | nil => rw [hm] at q; exact q
          | cons a b => rw [hm] at q; cases q
        | some kt =>
          obtain ⟨k1, t⟩ := kt
          rw [hh] at q
          dsimp only at q
          cases hk1 : skp ls k1 with
          | none => rw [hk1] at q; cases q
          | some l2 =>
            rw [hk1] at q
            obtain ⟨k, hk⟩ := ex_some.mp (show ex M t l2 [] h' = some r from q)
            refine ⟨max n k + 1, ?_⟩
            rw [exN, hd]; dsimp only; rw [ha]; dsimp only [cl]
            rw [exN_mono hn (Nat.le_max_left n k)]; dsimp only; rw [hh]; dsimp only; rw [hk1]
            exact exN_mono hk (Nat.le_max_right n k)
theorem ex_if {c : Prop} [Decidable c] {p1 p2 : Nat} {l1 l2 : aL} {s1 s2 : List Value} {h1 h2 : aH} (hd : decode (mCode M) pc = .ok (i, len)) (ha : act M pc len i ls st h = if c then nx p1 l1 s1 h1 else nx p2 l2 s2 h2) : ex M pc ls st h = if c then ex M p1 l1 s1 h1 else ex M p2 l2 s2 h2 := by
  by_cases q : c
  · rw [if_pos q] at ha ⊢; exact ex_nx hd ha
  · rw [if_neg q] at ha ⊢; exact ex_nx hd ha
theorem ex_ck {c : Prop} [Decidable c] {p1 : Nat} {l1 : aL} {s1 : List Value} {h1 : aH} (hd : decode (mCode M) pc = .ok (i, len)) (ha : act M pc len i ls st h = if c then nx p1 l1 s1 h1 else none) : ex M pc ls st h = if c then ex M p1 l1 s1 h1 else none := by
  by_cases q : c
  · rw [if_pos q] at ha ⊢; exact ex_nx hd ha
  · rw [if_neg q] at ha ⊢; exact ex_no hd ha
theorem ex_kc {c : Prop} [Decidable c] {p1 : Nat} {l1 : aL} {s1 : List Value} {h1 : aH} (hd : decode (mCode M) pc = .ok (i, len)) (ha : act M pc len i ls st h = if c then none else nx p1 l1 s1 h1) : ex M pc ls st h = if c then none else ex M p1 l1 s1 h1 := by
  by_cases q : c
  · rw [if_pos q] at ha ⊢; exact ex_no hd ha
  · rw [if_neg q] at ha ⊢; exact ex_nx hd ha
theorem ex_cc {c : Prop} [Decidable c] {M' pc' : Nat} {cs' : aL} {rest : List Value} (hd : decode (mCode M) pc = .ok (i, len)) (ha : act M pc len i ls st h = if c then cl M' cs' pc' rest else none) : ex M pc ls st h = if c then aK M pc ls pc' rest (ex M' 0 cs' [] h) else none := by
  by_cases q : c
  · rw [if_pos q] at ha ⊢; exact ex_cl hd ha
  · rw [if_neg q] at ha ⊢; exact ex_no hd ha
theorem ex_rc {c : Bool} {r : aR} {h' : aH} (hd : decode (mCode M) pc = .ok (i, len)) (ha : act M pc len i ls st h = gd c (dn r h')) : ex M pc ls st h = if c = true then some (r, h') else none := by
  cases c
  · exact ex_no hd ha
  · exact ex_dn hd ha
end Eq
def cpI (I : Nat → Nat → Int32) (a0 a sp dp n : Nat) : Nat → Nat → Int32 := fun b j => if b = a ∧ dp ≤ j ∧ j < dp + n then I a0 (sp + (j - dp)) else I b j
section Eq2
variable {M pc len tgt : Nat} {ls : aL} {st : List Value} {h : aH} {a b : Int32} {off : Int}
theorem ex_br {i : Instr} {c : Bool} {p : Prop} [Decidable p] (hd : decode (mCode M) pc = .ok (i, 3)) {s0 : List Value} (ha : act M pc 3 i ls s0 h = gd (Nat.beq 3 3 && tgo pc off) (if c = true then nx (tgN pc off) ls st h else nx (pc + 3) ls st h)) (ht : tgo pc off = true) (he : tgN pc off = tgt) (hc : c = decide p) : ex M pc ls s0 h = if p then ex M tgt ls st h else ex M (pc + 3) ls st h := by
  rw [ht, he] at ha
  by_cases q : p
  · rw [if_pos q]
    rw [hc, decide_eq_true q] at ha
    exact ex_nx hd ha
  · rw [if_neg q]
    rw [hc, decide_eq_false q] at ha
    exact ex_nx hd ha
theorem ex_bn {i : Instr} {c : Bool} {p : Prop} [Decidable p] (hd : decode (mCode M) pc = .ok (i, 3)) {s0 : List Value} (ha : act M pc 3 i ls s0 h = gd (Nat.beq 3 3 && tgo pc off) (if c = true then nx (tgN pc off) ls st h else nx (pc + 3) ls st h)) (ht : tgo pc off = true) (he : tgN pc off = tgt) (hc : c = !decide p) : ex M pc ls s0 h = if p then ex M (pc + 3) ls st h else ex M tgt ls st h := by
  rw [ht, he] at ha
  by_cases q : p
  · rw [if_pos q]
    rw [hc, decide_eq_true q] at ha
    exact ex_nx hd ha
  · rw [if_neg q]
    rw [hc, decide_eq_false q] at ha
    exact ex_nx hd ha
theorem ex_ic_eq (hd : decode (mCode M) pc = .ok (.if_icmp .eq off, 3)) (ht : tgo pc off = true) (he : tgN pc off = tgt) : ex M pc ls (.int b :: .int a :: st) h = if a = b then ex M tgt ls st h else ex M (pc + 3) ls st h := ex_br (c := cnd .eq a b) hd rfl ht he rfl
theorem ex_ic_ne (hd : decode (mCode M) pc = .ok (.if_icmp .ne off, 3)) (ht : tgo pc off = true) (he : tgN pc off = tgt) : ex M pc ls (.int b :: .int a :: st) h = if a = b then ex M (pc + 3) ls st h else ex M tgt ls st h := ex_bn (c := cnd .ne a b) hd rfl ht he rfl
theorem ex_ic_lt (hd : decode (mCode M) pc = .ok (.if_icmp .lt off, 3)) (ht : tgo pc off = true) (he : tgN pc off = tgt) : ex M pc ls (.int b :: .int a :: st) h = if a < b then ex M tgt ls st h else ex M (pc + 3) ls st h := ex_br (c := cnd .lt a b) hd rfl ht he rfl
theorem ex_ic_ge (hd : decode (mCode M) pc = .ok (.if_icmp .ge off, 3)) (ht : tgo pc off = true) (he : tgN pc off = tgt) : ex M pc ls (.int b :: .int a :: st) h = if a < b then ex M (pc + 3) ls st h else ex M tgt ls st h := ex_bn (c := cnd .ge a b) hd rfl ht he rfl
theorem ex_ic_gt (hd : decode (mCode M) pc = .ok (.if_icmp .gt off, 3)) (ht : tgo pc off = true) (he : tgN pc off = tgt) : ex M pc ls (.int b :: .int a :: st) h = if b < a then ex M tgt ls st h else ex M (pc + 3) ls st h := ex_br (c := cnd .gt a b) hd rfl ht he rfl
theorem ex_ic_le (hd : decode (mCode M) pc = .ok (.if_icmp .le off, 3)) (ht : tgo pc off = true) (he : tgN pc off = tgt) : ex M pc ls (.int b :: .int a :: st) h = if b < a then ex M (pc + 3) ls st h else ex M tgt ls st h := ex_bn (c := cnd .le a b) hd rfl ht he rfl
theorem ex_if_eq (hd : decode (mCode M) pc = .ok (.ifCond .eq off, 3)) (ht : tgo pc off = true) (he : tgN pc off = tgt) : ex M pc ls (.int a :: st) h = if a = 0 then ex M tgt ls st h else ex M (pc + 3) ls st h := ex_br (c := cnd .eq a 0) hd rfl ht he rfl
theorem ex_if_ne (hd : decode (mCode M) pc = .ok (.ifCond .ne off, 3)) (ht : tgo pc off = true) (he : tgN pc off = tgt) : ex M pc ls (.int a :: st) h = if a = 0 then ex M (pc + 3) ls st h else ex M tgt ls st h := ex_bn (c := cnd .ne a 0) hd rfl ht he rfl
theorem ex_if_lt (hd : decode (mCode M) pc = .ok (.ifCond .lt off, 3)) (ht : tgo pc off = true) (he : tgN pc off = tgt) : ex M pc ls (.int a :: st) h = if a < 0 then ex M tgt ls st h else ex M (pc + 3) ls st h := ex_br (c := cnd .lt a 0) hd rfl ht he rfl
theorem ex_if_ge (hd : decode (mCode M) pc = .ok (.ifCond .ge off, 3)) (ht : tgo pc off = true) (he : tgN pc off = tgt) : ex M pc ls (.int a :: st) h = if a < 0 then ex M (pc + 3) ls st h else ex M tgt ls st h := ex_bn (c := cnd .ge a 0) hd rfl ht he rfl
theorem ex_if_gt (hd : decode (mCode M) pc = .ok (.ifCond .gt off, 3)) (ht : tgo pc off = true) (he : tgN pc off = tgt) : ex M pc ls (.int a :: st) h = if 0 < a then ex M tgt ls st h else ex M (pc + 3) ls st h := ex_br (c := cnd .gt a 0) hd rfl ht he rfl
theorem ex_if_le (hd : decode (mCode M) pc = .ok (.ifCond .le off, 3)) (ht : tgo pc off = true) (he : tgN pc off = tgt) : ex M pc ls (.int a :: st) h = if 0 < a then ex M (pc + 3) ls st h else ex M tgt ls st h := ex_bn (c := cnd .le a 0) hd rfl ht he rfl
theorem ex_tsd {d lo hi : Int} {offs : Array Int} (hd : decode (mCode M) pc = .ok (.tableswitch d lo hi offs, len)) (ha : a.toInt < lo ∨ hi < a.toInt) (he : ((pc : Int) + d).toNat = tgt) (hp : 0 ≤ (pc : Int) + d) : ex M pc ls (.int a :: st) h = ex M tgt ls st h := by
  refine ex_nx hd ?_
  have e : swT pc d lo hi offs a = (pc : Int) + d := by rw [swT, if_pos ha]
  show gd (decide (0 ≤ swT pc d lo hi offs a)) (nx (swT pc d lo hi offs a).toNat ls st h) = _
  rw [e, he, decide_eq_true hp]
  rfl
theorem ex_zr (hd : decode (mCode M) pc = .ok (.ireturn, 1)) (hr : mRet M = some .boolean) : ex M pc ls [.int a] h = if a = 0 ∨ a = 1 then some (.inl (some (.int a)), h) else none := by
  have e : act M pc 1 .ireturn ls [.int a] h = gd (decide (a = 0) || decide (a = 1)) (dn (.inl (some (.int a))) h) := by
    show gd (Nat.beq 1 1 && nrw M a) _ = _
    rw [show nrw M a = (decide (a = 0) || decide (a = 1)) by rw [nrw, hr]]
    rfl
  rw [ex_rc hd e]
  simp
theorem act_f4 {α : Type} {k : Nat} {A B : α} (ha : k = 4) : (if k = 4 then A else B) = A := if_pos ha
theorem act_f8 {α : Type} {k : Nat} {A B C : α} (ha : k = 8) : (if k = 4 then A else if k = 8 then B else C) = B := by subst ha; rfl
end Eq2
theorem gl_0 {a : Option Value} {l : aL} : gl (a :: l) 0 = a := rfl
theorem kp_none : kp none = none := rfl
theorem kp_int {v : Int32} : kp (some (.int v)) = some (.int v) := rfl
theorem kp_ref {v : Nat} : kp (some (.ref v)) = some (.ref v) := rfl
theorem kp_long {v : Int64} : kp (some (.long v)) = none := rfl
theorem kp_double {v : UInt64} : kp (some (.double v)) = none := rfl
theorem aK_v {M pc pc' : Nat} {ls : aL} {rest : List Value} {v : Value} {h : aH} : aK M pc ls pc' rest (some (.inl (some v), h)) = ex M pc' ls (v :: rest) h := rfl
theorem aK_0 {M pc pc' : Nat} {ls : aL} {rest : List Value} {h : aH} : aK M pc ls pc' rest (some (.inl none, h)) = ex M pc' ls rest h := rfl
theorem aK_ite {M pc pc' : Nat} {ls : aL} {rest : List Value} {c : Prop} [Decidable c] {x y : Option (aR × aH)} : aK M pc ls pc' rest (if c then x else y) = if c then aK M pc ls pc' rest x else aK M pc ls pc' rest y := by split <;> rfl
theorem hdl_no {M : Nat} (h : hdlL.all (fun q => !Nat.beq q.1.1 M) = true) (pc e : Nat) : hdl M pc e = none := by
  unfold hdl
  rw [List.find?_eq_none.mpr]
  · rfl
  · intro q hq
    have := List.all_eq_true.mp h q hq
    cases hb : Nat.beq q.1.1 M
    · simp
    · rw [hb] at this; cases this
theorem aK_t {M : Nat} (hM : (hdlL.all (fun q => !Nat.beq q.1.1 M) && mHh M == []) = true) (pc pc' : Nat) (ls : aL) (rest : List Value) (e : Nat) (h : aH) : aK M pc ls pc' rest (some (.inr e, h)) = some (.inr e, h) := by
  obtain ⟨h1, h2⟩ := Bool.and_eq_true_iff.mp hM
  have h2 : mHh M = [] := by simpa using h2
  unfold aK
  dsimp only
  rw [hdl_no h1]
  dsimp only
  rw [h2]
