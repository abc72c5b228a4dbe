/-! the law's case of the digest, given that the bits of the held share agree -/
def BitsOK (R : aY) : Prop := ∃ B, (∀ h, ex 92 0 [some (.double (hel R)), none, none, none, none, none, none, none] [] h = some (.inl (some (.long B)), h)) ∧ ∀ h, ex 188 0 [some (.double (hel R)), none] [] h = some (.inl (some (.long B)), h)
theorem lc_digest {Z : aZ} {N : Nat → Nat → Nat} {L : Nat → Nat → Int64} {c : Nat × Nat} {S : aSt} {g i Ls : Nat} {a5 a6 a7 a8 : Option Value} (H : LH Z N S g i Ls) (hb : ∀ R q, WF R q → HS R → BitsOK R) : NX Z N c i g (ex 211 1689 [some (.ref 100000), some (.ref 0), some (.ref 144), some (.ref 152), some (.int (nI (6 * i))), a5, a6, a7, a8] [] (Z, iN N, L, c)) := by
  obtain ⟨hC, hM, ⟨z1, z2⟩, ⟨y0, y1⟩, ⟨k2, k3⟩, k4, hI, hO, hS, hK, hg⟩ := H
  obtain ⟨B, b1, b2⟩ := hb S.1.1 S.1.2 hS.1.1 hK.1
  have z0 := hC.1.1
  have z4 := hM.1.1
  obtain ⟨N1, w1, w2, w3⟩ := q_digest (L := L) (c := c) hC hI hS b1
  obtain ⟨N2, L2, r1, r3, r4⟩ := s_mDigest (L := L) (c := c) hM (MO_cg hO (fun a h _ => w3 a h)) hS b2
  simp (disch := omega) only [r_L_law_1689, r_L_law_1690, r_L_law_1693, r_L_law_1694, r_L_law_1697, r_L_law_1698, r_L_law_1701, r_L_law_1702, up2_o, up2_e, iN_ap, iN_up, i_ix, i_inb, i_lt, i_lt0, i_0lt, i_eq, i_ne0, i_00, i_11, i_01, i_10, i_b, i_rem2, n_rem, i_add, i_mul, i_sub, i_div, i_max, i_min, rdk_0, rdk_3, kp_none, kp_int, kp_ref, kp_long, kp_double, aK_v, aK_0, aK_ite, if_true, if_false, and_self, and_true, true_and, or_false, false_or, not_true_eq_false, not_false_eq_true, ite_self, ↓reduceIte, z0, z4, w1, r1, i64_lt, eq_self]
  exact NX_mk w2 w3 r3 r4 hS hK (Or.inl rfl) hg
theorem digestOK (hb : ∀ R q, WF R q → HS R → BitsOK R) : DigestOK := fun Z N L c S g i Ls a5 a6 a7 a8 H => lc_digest H hb
