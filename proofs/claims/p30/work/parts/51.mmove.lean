/-! the reference moves all as the function says -/
def WFz (R : aY) : Prop := WFa R ∧ WFh R ∧ (∀ p, p < 36 → R 6 p ≤ 3 ∧ R 7 p ≤ 9999) ∧ WFs R ∧ (∀ m, m < 36 → zOn R m < 1400) ∧ R 0 0 ≤ 1300
theorem WF_z {R : aY} {q : List Nat} (h : WF R q) (ht : R 0 0 ≤ 1300) : WFz R := ⟨h.1, h.2.1, fun p hp => ⟨(h.2.2.1 p hp).1, (h.2.2.1 p hp).2.1⟩, h.2.2.2.1, fun m hm => WF_zOn h hm, ht⟩
theorem WFz_mv {R : aY} {p d : Nat} (h : WFz R) (hd : d < 1400) : WFz (aMv R p d) := by
  obtain ⟨⟨w1, w2, w3⟩, wh, wp, ws, hz, ht⟩ := h
  have o : ∀ a j, a ≠ 8 → a ≠ 11 → aMv R p d a j = R a j := fun a j h1 h2 => aMv_o h1 h2
  refine ⟨⟨?_, fun i hi => ?_, ?_⟩, fun i hi => ?_, fun i hi => ?_, fun i hi t ht => ?_, fun m hm => ?_, ?_⟩
  · rw [o 0 _ (by omega) (by omega), o 0 _ (by omega) (by omega)]; exact w1
  · rw [o 1 _ (by omega) (by omega)]; exact w2 i hi
  · rw [o 2 _ (by omega) (by omega), o 2 _ (by omega) (by omega), o 2 _ (by omega) (by omega), o 2 _ (by omega) (by omega), o 2 _ (by omega) (by omega)]; exact w3
  · rw [o 3 _ (by omega) (by omega), o 4 _ (by omega) (by omega), o 5 _ (by omega) (by omega), o 0 _ (by omega) (by omega)]; exact wh i hi
  · rw [o 6 _ (by omega) (by omega), o 7 _ (by omega) (by omega)]; exact wp i hi
  · rw [o 12 _ (by omega) (by omega), o 13 _ (by omega) (by omega), o 3 _ (by omega) (by omega)]; exact ws i hi t ht
  · have := hz m hm
    unfold zOn at this ⊢
    rw [o 4 _ (by omega) (by omega), aMv_8]
    split
    · omega
    · rename_i h1
      rw [if_neg h1] at this
      split
      · exact hd
      · exact this
  · rw [o 0 _ (by omega) (by omega)]; exact ht
theorem sumL_sumN {f : Nat → Nat} {n : Nat} : ∀ (l : List Nat), l.Nodup → (∀ x ∈ l, x < n) → sumL f l = sumN (fun m => if m ∈ l then f m else 0) 0 n
  | [], _, _ => by
    have := sumN_bd (f := fun m => if m ∈ ([] : List Nat) then f m else 0) (a := 0) (b := 0) (n := n) (fun i _ => by simp)
    unfold sumL
    omega
  | p :: l, hn, hx => by
    obtain ⟨n1, n2⟩ := List.nodup_cons.mp hn
    have ih := sumL_sumN (f := f) l n2 (fun x h => hx x (List.mem_cons_of_mem _ h))
    unfold sumL
    rw [ih, Nat.add_comm]
    refine sumN_up (v := f p) p (hx p List.mem_cons_self) ?_ (fun i hi hne => ?_)
    · rw [Nat.zero_add, if_neg n1, if_pos List.mem_cons_self, Nat.zero_add]
    · rw [Nat.zero_add]
      by_cases z : i ∈ l
      · rw [if_pos z, if_pos (List.mem_cons_of_mem _ z)]
      · rw [if_neg z, if_neg (fun w => (List.mem_cons.mp w).elim hne z)]
section Mm
variable {Z : aZ} {N : Nat → Nat → Nat} {L : Nat → Nat → Int64} {c : Nat × Nat}
end Mm
