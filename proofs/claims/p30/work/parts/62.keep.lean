/-! what holds of a yard is kept by the calls -/
def SOK (S : aSt) : Prop := (WF S.1.1 S.1.2 ∧ S.1.1 0 0 ≤ 1000) ∧ S.2.1.length ≤ 6 ∧ (∀ s ∈ S.2.1, WF s.1 s.2 ∧ s.1 0 0 ≤ 1000) ∧ S.2.2.length ≤ 60 ∧ ∀ x ∈ S.2.2, 33 ≤ x ∧ x ≤ 126
theorem SOK_push {S : aSt} (h : SOK S) : (push S.2.1 S.1).length ≤ 6 ∧ ∀ s ∈ push S.2.1 S.1, WF s.1 s.2 ∧ s.1 0 0 ≤ 1000 := by
  refine ⟨(push_len h.2.1).2, fun s hs => ?_⟩
  unfold push at hs
  rcases List.mem_append.mp hs with z | z
  · split at z
    · exact h.2.2.1 s (List.drop_subset _ _ z)
    · exact h.2.2.1 s z
  · rw [List.mem_singleton.mp z]
    exact h.1
theorem SOK_new {S : aSt} {R : aY} {q : List Nat} (h : SOK S) (hw : WF R q) (ht : R 0 0 ≤ 1000) : SOK ((R, q), push S.2.1 S.1, S.2.2) := ⟨⟨hw, ht⟩, (SOK_push h).1, (SOK_push h).2, h.2.2.2⟩
theorem WF_book {R : aY} {q : List Nat} {h d : Nat} (hw : WF R q) (hh : h < 6) (h4 : R 4 h < R 3 h) (hd2 : d ≤ 999) (ha : 1 ≤ R 4 h → R 8 (6 * h + R 4 h - 1) ≤ d) : WF (bkR R (6 * h + R 4 h) d) (q ++ [6 * h + R 4 h]) := by
  obtain ⟨p, hp⟩ : ∃ p, p = 6 * h + R 4 h := ⟨_, rfl⟩
  have hlen := WF_len hw
  obtain ⟨⟨a1, a2, a3⟩, wh, wp, ws, wd, ⟨q1, q2, q3, q4, q5⟩⟩ := hw
  have hh1 := wh h hh
  have hp6 : p / 6 = h := by omega
  have hpm : p % 6 = R 4 h := by omega
  rw [← hp] at ha ⊢
  have hR : ∀ k j, k ≠ 8 → k ≠ 4 → bkR R p d k j = R k j := fun k j h1 h2 => by
    unfold bkR
    rw [up2_o (by omega), up2_o (by omega)]
  have h44 : ∀ j, bkR R p d 4 j = if j = h then R 4 h + 1 else R 4 j := fun j => by
    unfold bkR
    rw [hp6]
    by_cases z : j = h
    · rw [if_pos z, up2_e ⟨rfl, z⟩]
    · rw [if_neg z, up2_o (by omega), up2_o (by omega)]
  have h88 : ∀ j, bkR R p d 8 j = if j = p then d else R 8 j := fun j => by
    unfold bkR
    rw [up2_o (by omega)]
    by_cases z : j = p
    · rw [if_pos z, up2_e ⟨rfl, z⟩]
    · rw [if_neg z, up2_o (by omega)]
  have hpq : p ∉ q := fun z => by
    have := ((q2 p).mp z).2.2
    rw [hp6] at this
    omega
  have hcnt : (q ++ [p]).length + sumN (bkR R p d 5) 0 6 = sumN (bkR R p d 4) 0 6 := by
    rw [sumN_congr (f := bkR R p d 5) (g := R 5) (fun i _ => hR _ _ (by omega) (by omega)), ← sumN_up (f := R 4) (g := bkR R p d 4) (a := 0) (v := 1) (n := 6) h hh (by rw [h44, if_pos (by omega)]; congr 1; congr 1; omega) (fun i _ hi => by rw [h44, if_neg (by omega)])]
    simp
    omega
  have wh2 : WFh (bkR R p d) := fun i hi => by
    obtain ⟨b1, b2, b3, b4⟩ := wh i hi
    rw [hR 5 _ (by omega) (by omega), hR 3 _ (by omega) (by omega), hR 0 _ (by omega) (by omega), h44]
    split
    · rename_i e
      subst e
      exact ⟨by omega, by omega, b3, b4⟩
    · exact ⟨b1, b2, b3, b4⟩
  refine ⟨⟨?_, fun i hi => ?_, ?_⟩, wh2, fun x hx => ?_, fun x hx t ht => ?_, fun x hx => ?_, ?_, fun x => ?_, hcnt, ?_, fun t ht => ?_⟩
  · rw [hR 0 _ (by omega) (by omega), hR 0 _ (by omega) (by omega)]; exact a1
  · rw [hR 1 _ (by omega) (by omega)]; exact a2 i hi
  · rw [hR 2 _ (by omega) (by omega), hR 2 _ (by omega) (by omega), hR 2 _ (by omega) (by omega), hR 2 _ (by omega) (by omega), hR 2 _ (by omega) (by omega)]; exact a3
  · rw [hR 6 _ (by omega) (by omega), hR 7 _ (by omega) (by omega), hR 9 _ (by omega) (by omega), hR 10 _ (by omega) (by omega), hR 11 _ (by omega) (by omega), hR 3 _ (by omega) (by omega)]; exact wp x hx
  · rw [hR 12 _ (by omega) (by omega), hR 13 _ (by omega) (by omega), hR 3 _ (by omega) (by omega)]; exact ws x hx t ht
  · obtain ⟨b1, b2, b3⟩ := wd x hx
    rw [hR 5 _ (by omega) (by omega), hR 0 _ (by omega) (by omega), h44, h88]
    by_cases z : x = p
    · subst z
      rw [if_pos hp6, if_pos rfl]
      refine ⟨fun w => by omega, fun w => ⟨by omega, fun w1 => ?_⟩, fun w => by rw [hp6] at w; omega⟩
      rw [h88, if_neg (by omega)]
      exact ha (by omega)
    · rw [if_neg z]
      by_cases e : x / 6 = h
      · rw [if_pos e]
        rw [e] at b1 b2 b3
        refine ⟨fun w => b1 (by omega), fun w => ?_, fun w => b3 (by rw [e] at w; exact w)⟩
        have := b2 (by omega)
        refine ⟨this.1, fun w1 => ?_⟩
        rw [h88, if_neg (by omega)]
        exact this.2 w1
      · rw [if_neg e]
        refine ⟨b1, fun w => ?_, b3⟩
        have := b2 w
        refine ⟨this.1, fun w1 => ?_⟩
        rw [h88, if_neg (by omega)]
        exact this.2 w1
  · rw [List.nodup_append]
    exact ⟨q1, by simp, fun a ha b hb => by
      rw [List.mem_singleton.mp hb]
      exact fun z => hpq (z ▸ ha)⟩
  · rw [List.mem_append, List.mem_singleton, q2, hR 5 _ (by omega) (by omega), h44]
    by_cases z : x = p
    · subst z
      rw [if_pos hp6, hp6]
      exact ⟨fun _ => by omega, fun _ => Or.inr rfl⟩
    · by_cases e : x / 6 = h
      · rw [if_pos e, e]
        exact ⟨fun w => w.elim (fun w => by omega) (fun w => absurd w z), fun w => Or.inl (by omega)⟩
      · rw [if_neg e]
        exact ⟨fun w => w.elim id (fun w => absurd w z), Or.inl⟩
  · rw [List.pairwise_append]
    refine ⟨q4, by simp, fun a ha b hb e => ?_⟩
    rw [List.mem_singleton.mp hb] at e ⊢
    have := (q2 a).mp ha
    rw [e, hp6] at this
    omega
  · rw [hR 0 _ (by omega) (by omega)]
    have e1 : cg (bkR R p d) (q ++ [p]) t = cg R q t + (if d < t then 0 else 1) := by
      have : ∀ l : List Nat, p ∉ l → cg (bkR R p d) (l ++ [p]) t = cg R l t + (if d < t then 0 else 1) := by
        intro l
        induction l with
        | nil =>
          intro _
          show (if bkR R p d 8 p < t then 0 else 1) + 0 = 0 + _
          rw [h88, if_pos rfl]
          omega
        | cons a l ih =>
          intro hn
          show (if bkR R p d 8 a < t then 0 else 1) + cg (bkR R p d) (l ++ [p]) t = (if R 8 a < t then 0 else 1) + cg R l t + _
          rw [ih (fun z => hn (List.mem_cons_of_mem _ z)), h88, if_neg (fun z : a = p => hn (z ▸ List.mem_cons_self))]
          omega
      exact this q hpq
    rw [e1] at ht ⊢
    by_cases z : d < t
    · rw [if_pos z] at ht ⊢
      exact q5 t ht
    · rw [if_neg z]
      have := sumL_bd (f := fun x => if R 8 x < t then 0 else 1) (b := 1) q (fun x _ => by split <;> omega)
      have l2 : q.length + 1 ≤ 36 := by
        have h2 := sumN_bd (f := bkR R p d 4) (a := 0) (b := 6) (n := 6) (fun i hi => by
          have := wh2 (0 + i) (by omega)
          omega)
        rw [← hcnt] at h2
        simp at h2
        omega
      have : cg R q t ≤ q.length := by unfold cg; omega
      omega
theorem nbeq {x p : Nat} : (!Nat.beq x p) = true ↔ x ≠ p := by
  cases h : Nat.beq x p
  · exact ⟨fun _ => Nat.ne_of_beq_eq_false h, fun _ => rfl⟩
  · exact ⟨fun w => by simp at w, fun w => absurd (Nat.eq_of_beq_eq_true h) w⟩
theorem flt_len {p : Nat} : ∀ (q : List Nat), q.Nodup → p ∈ q → (q.filter (fun x => !Nat.beq x p)).length + 1 = q.length
  | [], _, h => by simp at h
  | a :: q, hn, h => by
    obtain ⟨n1, n2⟩ := List.nodup_cons.mp hn
    by_cases e : a = p
    · subst e
      rw [List.filter_cons_of_neg (p := fun x => !Nat.beq x a) (fun w => nbeq.mp w rfl)]
      have : q.filter (fun x => !Nat.beq x a) = q := List.filter_eq_self.mpr (fun x hx => by
        have : x ≠ a := fun z => n1 (z ▸ hx)
        exact nbeq.mpr this)
      rw [this]
      rfl
    · rw [List.filter_cons_of_pos (p := fun x => !Nat.beq x p) (nbeq.mpr e), List.length_cons, List.length_cons, flt_len q n2 ((List.mem_cons.mp h).resolve_left (fun z => e z.symm))]
theorem WF_unb {R : aY} {q : List Nat} {h : Nat} (hw : WF R q) (hh : h < 6) (h4 : R 5 h < R 4 h) : WF (ubR R (6 * h + (R 4 h - 1))) (q.filter (fun x => !Nat.beq x (6 * h + (R 4 h - 1)))) := by
  obtain ⟨p, hp⟩ : ∃ p, p = 6 * h + (R 4 h - 1) := ⟨_, rfl⟩
  obtain ⟨⟨a1, a2, a3⟩, wh, wp, ws, wd, ⟨q1, q2, q3, q4, q5⟩⟩ := hw
  have hh1 := wh h hh
  have hp6 : p / 6 = h := by omega
  have hpm : p % 6 = R 4 h - 1 := by omega
  rw [← hp]
  have hR : ∀ k j, k ≠ 8 → k ≠ 4 → ubR R p k j = R k j := fun k j h1 h2 => by
    unfold ubR
    rw [up2_o (by omega), up2_o (by omega)]
  have h44 : ∀ j, ubR R p 4 j = if j = h then R 4 h - 1 else R 4 j := fun j => by
    unfold ubR
    rw [hp6, up2_o (by omega)]
    by_cases z : j = h
    · rw [if_pos z, up2_e ⟨rfl, z⟩]
    · rw [if_neg z, up2_o (by omega)]
  have h88 : ∀ j, ubR R p 8 j = if j = p then 4294967295 else R 8 j := fun j => by
    unfold ubR
    by_cases z : j = p
    · rw [if_pos z, up2_e ⟨rfl, z⟩]
    · rw [if_neg z, up2_o (by omega), up2_o (by omega)]
  have hpq : p ∈ q := (q2 p).mpr ⟨by omega, by rw [hp6]; omega, by rw [hp6]; omega⟩
  have hmem : ∀ x, x ∈ q.filter (fun x => !Nat.beq x p) ↔ x ∈ q ∧ x ≠ p := fun x => by
    rw [List.mem_filter, nbeq]
  refine ⟨⟨?_, fun i hi => ?_, ?_⟩, fun i hi => ?_, fun x hx => ?_, fun x hx t ht => ?_, fun x hx => ?_, q1.filter _, fun x => ?_, ?_, q4.filter _, fun t ht => ?_⟩
  · rw [hR 0 _ (by omega) (by omega), hR 0 _ (by omega) (by omega)]; exact a1
  · rw [hR 1 _ (by omega) (by omega)]; exact a2 i hi
  · rw [hR 2 _ (by omega) (by omega), hR 2 _ (by omega) (by omega), hR 2 _ (by omega) (by omega), hR 2 _ (by omega) (by omega), hR 2 _ (by omega) (by omega)]; exact a3
  · obtain ⟨b1, b2, b3, b4⟩ := wh i hi
    rw [hR 5 _ (by omega) (by omega), hR 3 _ (by omega) (by omega), hR 0 _ (by omega) (by omega), h44]
    split
    · rename_i e
      subst e
      exact ⟨by omega, by omega, b3, b4⟩
    · exact ⟨b1, b2, b3, b4⟩
  · rw [hR 6 _ (by omega) (by omega), hR 7 _ (by omega) (by omega), hR 9 _ (by omega) (by omega), hR 10 _ (by omega) (by omega), hR 11 _ (by omega) (by omega), hR 3 _ (by omega) (by omega)]; exact wp x hx
  · rw [hR 12 _ (by omega) (by omega), hR 13 _ (by omega) (by omega), hR 3 _ (by omega) (by omega)]; exact ws x hx t ht
  · obtain ⟨b1, b2, b3⟩ := wd x hx
    rw [hR 5 _ (by omega) (by omega), hR 0 _ (by omega) (by omega), h44, h88]
    by_cases z : x = p
    · subst z
      rw [if_pos hp6, if_pos rfl]
      exact ⟨fun _ => rfl, fun w => by omega, fun w => by rw [hp6] at w; omega⟩
    · rw [if_neg z]
      by_cases e : x / 6 = h
      · rw [if_pos e]
        rw [e] at b1 b2 b3
        refine ⟨fun w => b1 (by omega), fun w => ?_, fun w => b3 (by rw [e] at w; exact w)⟩
        have := b2 (by omega)
        refine ⟨this.1, fun w1 => ?_⟩
        rw [h88, if_neg (by omega)]
        exact this.2 w1
      · rw [if_neg e]
        refine ⟨b1, fun w => ?_, b3⟩
        have := b2 w
        refine ⟨this.1, fun w1 => ?_⟩
        rw [h88, if_neg (by omega)]
        exact this.2 w1
  · rw [hmem, q2, hR 5 _ (by omega) (by omega), h44]
    by_cases z : x = p
    · subst z
      rw [if_pos hp6, hp6]
      exact ⟨fun w => absurd rfl w.2, fun w => by omega⟩
    · by_cases e : x / 6 = h
      · rw [if_pos e, e]
        exact ⟨fun w => by omega, fun w => ⟨by omega, z⟩⟩
      · rw [if_neg e]
        exact ⟨And.left, fun w => ⟨w, z⟩⟩
  · have hl := flt_len q q1 hpq
    have := sumN_up (f := ubR R p 4) (g := R 4) (a := 0) (v := 1) (n := 6) h hh (by rw [h44, if_pos (by omega), Nat.zero_add]; omega) (fun i _ hi => by rw [h44, if_neg (by omega)])
    rw [sumN_congr (f := ubR R p 5) (g := R 5) (fun i _ => hR _ _ (by omega) (by omega))]
    omega
  · rw [hR 0 _ (by omega) (by omega)]
    have e1 : cg (ubR R p) (q.filter (fun x => !Nat.beq x p)) t = cg R (q.filter (fun x => !Nat.beq x p)) t := sumL_congr _ (fun x hx => by rw [h88, if_neg ((hmem x).mp hx).2])
    have e2 := cg_sub (R := R) (R' := R) (t := t) (List.filter_sublist (l := q) (p := fun x => !Nat.beq x p)) (fun _ => rfl)
    rw [e1] at ht ⊢
    have := q5 t (by omega)
    omega
/-- money alone has changed -/
theorem WF_mon {R R' : aY} {q : List Nat} (hw : WF R q) (ho : ∀ k i, k ≠ 9 → k ≠ 10 → k ≠ 12 → k ≠ 13 → k ≠ 14 → R' k i = R k i) (h9 : ∀ p, p < 36 → R 3 (p / 6) ≤ p % 6 → R' 9 p = 0 ∧ R' 10 p = 0) (hs : ∀ p, p < 36 → ∀ t, t < 4 → R' 12 (p * 4 + t) ≤ 9999 ∧ R' 13 (p * 4 + t) ≤ 99 ∧ (R 3 (p / 6) ≤ p % 6 → R' 12 (p * 4 + t) = 0 ∧ R' 13 (p * 4 + t) = 0)) : WF R' q := by
  obtain ⟨⟨a1, a2, a3⟩, wh, wp, ws, wd, ⟨q1, q2, q3, q4, q5⟩⟩ := hw
  have o : ∀ k i, k < 9 → R' k i = R k i := fun k i hk => ho k i (by omega) (by omega) (by omega) (by omega) (by omega)
  refine ⟨⟨?_, fun i hi => ?_, ?_⟩, fun i hi => ?_, fun x hx => ?_, fun x hx t ht => ?_, fun x hx => ?_, q1, fun x => ?_, ?_, q4, fun t ht => ?_⟩
  · rw [o 0 _ (by omega), o 0 _ (by omega)]; exact a1
  · rw [o 1 _ (by omega)]; exact a2 i hi
  · rw [o 2 _ (by omega), o 2 _ (by omega), o 2 _ (by omega), o 2 _ (by omega), o 2 _ (by omega)]; exact a3
  · rw [o 5 _ (by omega), o 4 _ (by omega), o 3 _ (by omega), o 0 _ (by omega)]; exact wh i hi
  · obtain ⟨b1, b2, b3⟩ := wp x hx
    rw [o 6 _ (by omega), o 7 _ (by omega), o 3 _ (by omega), ho 11 _ (by omega) (by omega) (by omega) (by omega) (by omega)]
    exact ⟨b1, b2, fun w => ⟨(b3 w).1, (b3 w).2.1, (h9 x hx w).1, (h9 x hx w).2, (b3 w).2.2.2.2⟩⟩
  · rw [o 3 _ (by omega)]
    exact hs x hx t ht
  · rw [o 4 _ (by omega), o 8 _ (by omega), o 8 _ (by omega), o 5 _ (by omega), o 0 _ (by omega)]; exact wd x hx
  · rw [o 5 _ (by omega), o 4 _ (by omega)]; exact q2 x
  · rw [sumN_congr (f := R' 5) (g := R 5) (fun i _ => o 5 _ (by omega)), sumN_congr (f := R' 4) (g := R 4) (fun i _ => o 4 _ (by omega))]; exact q3
  · have e : cg R' q t = cg R q t := sumL_congr _ (fun x _ => by rw [o 8 _ (by omega)])
    rw [e] at ht ⊢
    rw [o 0 _ (by omega)]
    exact q5 t ht
theorem WF_tal {R : aY} {q : List Nat} {t k v : Nat} (hw : WF R q) : WF (aTal R t k v) q := by
  have o : ∀ k' i, k' ≠ 14 → aTal R t k v k' i = R k' i := fun k' i h => up2_o (fun z => h z.1)
  refine WF_mon hw (fun k i _ _ _ _ h => o k i h) (fun p hp h3 => ?_) (fun p hp t ht => ?_)
  · rw [o 9 _ (by omega), o 10 _ (by omega)]
    have := (hw.2.2.1 p hp).2.2 h3
    exact ⟨this.2.2.1, this.2.2.2.1⟩
  · rw [o 12 _ (by omega), o 13 _ (by omega)]
    exact hw.2.2.2.1 p hp t ht
theorem WF_12 {R : aY} {q : List Nat} {p t v : Nat} (hw : WF R q) (hp3 : p % 6 < R 3 (p / 6)) (ht : t < 4) (hv : v ≤ 9999) : WF (up2 R 12 (p * 4 + t) v) q := by
  refine WF_mon hw (fun k i _ _ h _ _ => up2_o (fun z => h z.1)) (fun x hx h3 => ?_) (fun x hx u hu => ?_)
  · rw [up2_o (by omega), up2_o (by omega)]
    have := (hw.2.2.1 x hx).2.2 h3
    exact ⟨this.2.2.1, this.2.2.2.1⟩
  · have hs := hw.2.2.2.1 x hx u hu
    rw [up2_o (k := p * 4 + t) (b := 13) (by omega)]
    by_cases e : x * 4 + u = p * 4 + t
    · rw [up2_e ⟨rfl, e⟩]
      refine ⟨hv, hs.2.1, fun h3 => ?_⟩
      rw [show x = p by omega] at h3
      omega
    · rw [up2_o (fun z => e z.2)]
      exact hs
theorem WF_13 {R : aY} {q : List Nat} {p t v : Nat} (hw : WF R q) (hp3 : p % 6 < R 3 (p / 6)) (ht : t < 4) (hv : v ≤ 99) : WF (up2 R 13 (p * 4 + t) v) q := by
  refine WF_mon hw (fun k i _ _ _ h _ => up2_o (fun z => h z.1)) (fun x hx h3 => ?_) (fun x hx u hu => ?_)
  · rw [up2_o (by omega), up2_o (by omega)]
    have := (hw.2.2.1 x hx).2.2 h3
    exact ⟨this.2.2.1, this.2.2.2.1⟩
  · have hs := hw.2.2.2.1 x hx u hu
    rw [up2_o (k := p * 4 + t) (b := 12) (by omega)]
    by_cases e : x * 4 + u = p * 4 + t
    · rw [up2_e ⟨rfl, e⟩]
      refine ⟨hs.1, hv, fun h3 => ?_⟩
      rw [show x = p by omega] at h3
      omega
    · rw [up2_o (fun z => e z.2)]
      exact hs
theorem WF_910 {R : aY} {q : List Nat} {p k v : Nat} (hw : WF R q) (hk : k = 9 ∨ k = 10) (hp3 : p % 6 < R 3 (p / 6)) : WF (up2 R k p v) q := by
  refine WF_mon hw (fun k' i h1 h2 _ _ _ => up2_o (by omega)) (fun x hx h3 => ?_) (fun x hx u hu => ?_)
  · have hne : x ≠ p := fun e => by rw [e] at h3; omega
    rw [up2_o (by omega), up2_o (by omega)]
    have := (hw.2.2.1 x hx).2.2 h3
    exact ⟨this.2.2.1, this.2.2.2.1⟩
  · rw [up2_o (by omega), up2_o (by omega)]
    exact hw.2.2.2.1 x hx u hu
theorem WF_mov {R : aY} {q : List Nat} {p to fr v : Nat} (hw : WF R q) (hp : p < 36) (hp3 : p % 6 < R 3 (p / 6)) (hf : fr < 4) : WF (aMov R p to fr v) q := by
  unfold aMov
  refine WF_tal (WF_tal (WF_910 (WF_12 hw hp3 hf ?_) (Or.inr rfl) ?_))
  · have := (hw.2.2.2.1 p hp fr hf).1
    omega
  · rw [up2_o (by omega)]
    exact hp3
theorem WF_payF {q : List Nat} {p : Nat} : ∀ (n t s : Nat) (R : aY), t + n = 4 → WF R q → p % 6 < R 3 (p / 6) → WF (aPyF p n t s R).2 q ∧ (∀ k i, k ≠ 12 → (aPyF p n t s R).2 k i = R k i)
  | 0, t, s, R, _, hw, _ => ⟨hw, fun _ _ _ => rfl⟩
  | n + 1, t, s, R, ht, hw, h3 => by
    unfold aPyF
    split
    · obtain ⟨a, b⟩ := WF_payF (q := q) (p := p) n (t + 1) (s + R 12 (p * 4 + t)) (up2 R 12 (p * 4 + t) 0) (by omega) (WF_12 hw h3 (by omega) (by omega)) (by rw [up2_o (by omega)]; exact h3)
      exact ⟨a, fun k i hk => by rw [b k i hk, up2_o (by omega)]⟩
    · exact WF_payF n (t + 1) s R (by omega) hw h3
theorem WF_pay {R : aY} {q : List Nat} {p : Nat} (hw : WF R q) (h3 : p % 6 < R 3 (p / 6)) : WF (aPay R p).2 q ∧ (aPay R p).2 0 0 = R 0 0 := by
  obtain ⟨a, b⟩ := WF_payF (q := q) (p := p) 4 0 0 R rfl hw h3
  refine ⟨WF_910 a (Or.inl rfl) (by rw [b 3 _ (by omega)]; exact h3), ?_⟩
  show up2 (aPyF p 4 0 0 R).2 9 p ((aPyF p 4 0 0 R).2 9 p + (aPyF p 4 0 0 R).1) 0 0 = R 0 0
  rw [up2_o (by omega), b 0 _ (by omega)]
theorem SOK_book {S : aSt} {h d : Nat} (hS : SOK S) : SOK (oBook S h d).2.2 := by
  unfold oBook
  split
  · exact hS
  · split
    · exact hS
    · split
      · rename_i h1 h2 h3
        have h0 := hS.1.1.1.1.1
        refine SOK_new hS (WF_book hS.1.1 (by omega) h3.1 (by omega) (fun w => ?_)) ?_
        · have := (aOpen_iff.mp h3.2).1
          have hh := hS.1.1.2.1 h (by omega)
          rcases this with z | z
          · omega
          · exact z
        · unfold bkR
          rw [up2_o (by omega), up2_o (by omega)]
          exact hS.1.2
      · exact hS
theorem SOK_unb {S : aSt} {h : Nat} (hS : SOK S) : SOK (oUnb S h).2.2 := by
  unfold oUnb
  split
  · exact hS
  · split
    · exact hS
    · rename_i h1 h2
      have h0 := hS.1.1.1.1.1
      refine SOK_new hS (WF_unb hS.1.1 (by omega) (by omega)) ?_
      unfold ubR
      rw [up2_o (by omega), up2_o (by omega)]
      exact hS.1.2
theorem SOK_set {S : aSt} {s v : Nat} (hS : SOK S) : SOK (oSet S s v).2.2 := by
  unfold oSet
  split
  · exact hS
  · split
    · exact hS
    · rename_i h1 h2
      obtain ⟨⟨R, q⟩, sv, tx⟩ := S
      obtain ⟨⟨a1, a2, a3⟩, wh, wp, ws, wd, ⟨q1, q2, q3, q4, q5⟩⟩ := hS.1.1
      have o : ∀ k i, k ≠ 2 → up2 R 2 s v k i = R k i := fun k i hk => up2_o (by omega)
      refine SOK_new hS ⟨⟨?_, fun i hi => ?_, ?_⟩, fun i hi => ?_, fun x hx => ?_, fun x hx t ht => ?_, fun x hx => ?_, q1, fun x => ?_, ?_, q4, fun t ht => ?_⟩ ?_
      · rw [o 0 _ (by omega), o 0 _ (by omega)]; exact a1
      · rw [o 1 _ (by omega)]; exact a2 i hi
      · dsimp only at a3 h2 ⊢
        unfold stLo stHi at h2
        rcases (show s = 0 ∨ s = 1 ∨ s = 2 ∨ s = 3 ∨ s = 4 by omega) with rfl | rfl | rfl | rfl | rfl
        all_goals
          simp [up2] at h2 ⊢
          omega
      · rw [o 5 _ (by omega), o 4 _ (by omega), o 3 _ (by omega), o 0 _ (by omega)]; exact wh i hi
      · rw [o 6 _ (by omega), o 7 _ (by omega), o 3 _ (by omega), o 9 _ (by omega), o 10 _ (by omega), o 11 _ (by omega)]; exact wp x hx
      · rw [o 12 _ (by omega), o 13 _ (by omega), o 3 _ (by omega)]; exact ws x hx t ht
      · rw [o 4 _ (by omega), o 8 _ (by omega), o 8 _ (by omega), o 5 _ (by omega), o 0 _ (by omega)]; exact wd x hx
      · rw [o 5 _ (by omega), o 4 _ (by omega)]; exact q2 x
      · rw [sumN_congr (f := up2 R 2 s v 5) (g := R 5) (fun i _ => o 5 _ (by omega)), sumN_congr (f := up2 R 2 s v 4) (g := R 4) (fun i _ => o 4 _ (by omega))]; exact q3
      · have e : cg (up2 R 2 s v) q t = cg R q t := sumL_congr _ (fun x _ => by rw [o 8 _ (by omega)])
        have ht2 : 1 ≤ cg (up2 R 2 s v) q t := ht
        show cg (up2 R 2 s v) q t + t ≤ 37 + max 999 (up2 R 2 s v 0 0)
        rw [e] at ht2 ⊢
        rw [o 0 _ (by omega)]
        exact q5 t ht2
      · rw [o 0 0 (by omega)]
        exact hS.1.2
theorem SOK_pass {S : aSt} {n : Nat} (hS : SOK S) : SOK (oPass S n).2.2 := by
  unfold oPass
  split
  · exact hS
  · split
    · exact hS
    · rename_i h1 h2
      obtain ⟨w1, w2⟩ := WF_Pn n S.1 hS.1.1 (by omega)
      exact SOK_new (R := (aPn n S.1).1) (q := (aPn n S.1).2) hS w1 (by rw [w2]; omega)
theorem SOK_ins {S : aSt} {h k t n : Nat} (hS : SOK S) : SOK (oIns S h k t n).2.2 := by
  unfold oIns
  split
  · exact hS
  · split
    · exact hS
    · split
      · exact hS
      · rename_i h1 h2 h3
        have h0 := hS.1.1.1.1.1
        have hc : (h < S.1.1 0 1 ∧ k < S.1.1 3 h) ∧ t < 4 := Decidable.not_not.mp h1
        have hh := hS.1.1.2.1 h (by omega)
        refine SOK_new hS (WF_tal (WF_13 hS.1.1 (by rw [show (6 * h + k) / 6 = h by omega]; omega) hc.2 (by omega))) ?_
        unfold inR aTal
        rw [up2_o (by omega), up2_o (by omega)]
        exact hS.1.2
theorem SOK_fix {S : aSt} {h k t b : Nat} (hS : SOK S) : SOK (oFix S h k t b).2.2 := by
  unfold oFix
  split
  · exact hS
  · split
    · exact hS
    · rename_i h1 h2
      have h0 := hS.1.1.1.1.1
      have hc : ((h < S.1.1 0 1 ∧ k < S.1.1 3 h) ∧ t < 4) ∧ b < 4 := Decidable.not_not.mp h1
      have hh := hS.1.1.2.1 h (by omega)
      have hp3 : (6 * h + k) % 6 < S.1.1 3 ((6 * h + k) / 6) := by rw [show (6 * h + k) / 6 = h by omega]; omega
      have hs := (hS.1.1.2.2.2.1 (6 * h + k) (by omega) t hc.1.2).2.1
      have w1 := WF_13 (v := S.1.1 13 ((6 * h + k) * 4 + t) - 1) hS.1.1 hp3 hc.1.2 (by omega)
      refine SOK_new hS ?_ ?_
      · unfold fxR
        split
        · exact w1
        · exact WF_tal (WF_mov w1 (by omega) (by rw [up2_o (by omega)]; exact hp3) hc.1.2)
      · unfold fxR
        split
        · rw [up2_o (by omega)]
          exact hS.1.2
        · unfold aMov aTal
          rw [up2_o (by omega), up2_o (by omega), up2_o (by omega), up2_o (by omega), up2_o (by omega), up2_o (by omega)]
          exact hS.1.2
theorem SOK_clm {S : aSt} {h k f a v : Nat} (hS : SOK S) : SOK (oClm S h k f a v).2.2 := by
  unfold oClm
  split
  · exact hS
  · split
    · exact hS
    · split
      · exact hS
      · rename_i h1 h2 h3
        have h0 := hS.1.1.1.1.1
        have hc : ((h < S.1.1 0 1 ∧ k < S.1.1 3 h) ∧ f < 4) ∧ a < 4 := Decidable.not_not.mp h1
        have hh := hS.1.1.2.1 h (by omega)
        refine SOK_new hS (WF_mov hS.1.1 (by omega) (by rw [show (6 * h + k) / 6 = h by omega]; omega) hc.2) ?_
        unfold aMov aTal
        rw [up2_o (by omega), up2_o (by omega), up2_o (by omega), up2_o (by omega)]
        exact hS.1.2
theorem SOK_rel {S : aSt} {h k : Nat} (hS : SOK S) : SOK (oRel S h k).2.2 := by
  unfold oRel
  split
  · exact hS
  · split
    · exact hS
    · rename_i h1 h2
      have h0 := hS.1.1.1.1.1
      have hc : h < S.1.1 0 1 ∧ k < S.1.1 3 h := Decidable.not_not.mp h1
      have hh := hS.1.1.2.1 h (by omega)
      obtain ⟨w1, w2⟩ := WF_pay (p := 6 * h + k) hS.1.1 (by rw [show (6 * h + k) / 6 = h by omega]; omega)
      exact SOK_new (R := (aPay S.1.1 (6 * h + k)).2) hS w1 (by rw [w2]; exact hS.1.2)
