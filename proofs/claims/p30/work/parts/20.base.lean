/-! numbers: what the objects hold, as natural numbers -/
def iN (N : Nat → Nat → Nat) : Nat → Nat → Int32 := fun a i => nI (N a i)
theorem iN_ap {N : Nat → Nat → Nat} {a i : Nat} : iN N a i = nI (N a i) := rfl
theorem iN_up {N : Nat → Nat → Nat} {a i v : Nat} : up2 (iN N) a i (nI v) = iN (up2 N a i v) := by
  funext b j
  unfold iN up2
  split <;> rfl
theorem i_ix {j : Nat} (h : j < 2147483648) : ix (nI j) = j := nI_clamp h
theorem i_inb {j n : Nat} (h : j < n) (hn : n ≤ 2147483648) : inb (nI j) n = true := by
  have e := nI_toInt (n := j) (by omega)
  unfold inb
  rw [e]
  simp
  omega
theorem i_lt {a b : Nat} (ha : a < 2147483648) (hb : b < 2147483648) : (nI a < nI b) = (a < b) := propext (nI_ltI ha hb)
theorem i_lt0 {a : Nat} (ha : a < 2147483648) : (nI a < 0) = False := eq_false (nI_pos ha)
theorem i_0lt {a : Nat} (ha : a < 2147483648) : (0 < nI a) = (0 < a) := by rw [← nI_0]; exact propext (nI_ltI (by omega) ha)
theorem i_eq {a b : Nat} (ha : a < 2147483648) (hb : b < 2147483648) : (nI a = nI b) = (a = b) := propext (nI_eq ha hb)
theorem i_eq0 {a : Nat} (ha : a < 2147483648) : (nI a = 0) = (a = 0) := by rw [← nI_0]; exact propext (nI_eq ha (by omega))
theorem i_add {a b : Nat} : nI a + nI b = nI (a + b) := nI_add a b
theorem i_mul {a b : Nat} : nI a * nI b = nI (a * b) := pk_mul a b
theorem i_sub {a b : Nat} (h : b ≤ a) : nI a - nI b = nI (a - b) := pk_sub h
theorem i_div {a d : Nat} (ha : a < 2147483648) (h0 : 0 < d) (hd : d < 2147483648) : nI a / nI d = nI (a / d) := pk_div ha h0 hd
theorem i_rem {a d : Nat} (ha : a < 2147483648) (h0 : 0 < d) (hd : d < 2147483648) : nI a - nI a / nI d * nI d = nI (a % d) := pk_rem ha h0 hd
theorem i_ne0 {a : Nat} (h0 : 0 < a) (ha : a < 2147483648) : (nI a = 0) = False := eq_false (nI_ne0 h0 ha)
theorem i_rem2 {a d : Nat} : nI a - nI (a / d * d) = nI (a % d) := by
  rw [pk_sub (Nat.div_mul_le_self a d)]
  congr 1
  have := Nat.div_add_mod a d
  rw [Nat.mul_comm] at this
  omega
theorem n_rem {a d : Nat} : a - a / d * d = a % d := by
  have := Nat.div_add_mod a d
  rw [Nat.mul_comm] at this
  omega
theorem i_00 : (nI 0 = 0) = True := eq_true nI_0
theorem i_11 : (nI 1 = 1) = True := eq_true (by decide)
theorem i_01 : (nI 0 = 1) = False := eq_false (by decide)
theorem i_10 : (nI 1 = 0) = False := eq_false (by decide)
theorem i_b {b : Nat} (h : b ≤ 1) : (nI b = 0 ∨ nI b = 1) = True := by
  rcases (show b = 0 ∨ b = 1 by omega) with rfl | rfl
  · exact eq_true (Or.inl nI_0)
  · exact eq_true (Or.inr (by decide))
theorem i_max {a b : Nat} (ha : a < 2147483648) (hb : b < 2147483648) : (if nI a < nI b then nI b else nI a) = nI (max a b) := by
  simp only [i_lt ha hb]
  split
  · rw [Nat.max_eq_right (by omega)]
  · rw [Nat.max_eq_left (by omega)]
theorem i_min {a b : Nat} (ha : a < 2147483648) (hb : b < 2147483648) : (if nI b < nI a then nI b else nI a) = nI (min a b) := by
  simp only [i_lt hb ha]
  split
  · rw [Nat.min_eq_right (by omega)]
  · rw [Nat.min_eq_left (by omega)]
theorem rdk_0 : rdk 0 = true := rfl
theorem rdk_3 : rdk 3 = true := rfl
theorem up2_o {α : Type} {f : Nat → Nat → α} {a k b j : Nat} {v : α} (h : ¬ (b = a ∧ j = k)) : up2 f a k v b j = f b j := if_neg h
theorem up2_e {α : Type} {f : Nat → Nat → α} {a k b j : Nat} {v : α} (h : b = a ∧ j = k) : up2 f a k v b j = v := if_pos h
theorem nM1 : (-1 : Int32) = nI 4294967295 := by decide
def sumN (f : Nat → Nat) (a : Nat) : Nat → Nat
  | 0 => 0
  | n + 1 => sumN f a n + f (a + n)
/-- a yard's objects: itself, and its fifteen rows behind it -/
def yLen (k : Nat) : Nat := [4, 60, 5, 6, 6, 6, 36, 36, 36, 36, 36, 36, 144, 144, 16, 36].getD k 0
def YAt (Z : aZ) (y : Nat) : Prop := Z.1 y = 9 ∧ ∀ k, 1 ≤ k → k ≤ 15 → Z.1 (y + k) = 0 ∧ Z.2.1 (y + k) = yLen k ∧ Z.2.2.1 y (3 + k) = .ref (y + k)
theorem yK {Z : aZ} {y : Nat} (h : YAt Z y) (k : Nat) (hk : (Nat.ble 1 k && Nat.ble k 15) = true) : Z.1 (y + k) = 0 := by
  obtain ⟨a, b⟩ := Bool.and_eq_true_iff.mp hk
  exact (h.2 k (Nat.le_of_ble_eq_true a) (Nat.le_of_ble_eq_true b)).1
theorem yL {Z : aZ} {y : Nat} (h : YAt Z y) (k : Nat) (hk : (Nat.ble 1 k && Nat.ble k 15) = true) : Z.2.1 (y + k) = yLen k := by
  obtain ⟨a, b⟩ := Bool.and_eq_true_iff.mp hk
  exact (h.2 k (Nat.le_of_ble_eq_true a) (Nat.le_of_ble_eq_true b)).2.1
theorem yR {Z : aZ} {y : Nat} (h : YAt Z y) (k : Nat) (hk : (Nat.ble 1 k && Nat.ble k 15) = true) : Z.2.2.1 y (3 + k) = .ref (y + k) := by
  obtain ⟨a, b⟩ := Bool.and_eq_true_iff.mp hk
  exact (h.2 k (Nat.le_of_ble_eq_true a) (Nat.le_of_ble_eq_true b)).2.2
/-- a yard's rows as one function; its queue as a list -/
def reg (N : Nat → Nat → Nat) (y : Nat) : Nat → Nat → Nat := fun k i => if k < 16 then N (y + k) i else 0
theorem reg_up {N : Nat → Nat → Nat} {y k i v : Nat} (hk : k < 16) : reg (up2 N (y + k) i v) y = up2 (reg N y) k i v := by
  funext b j
  show (if b < 16 then up2 N (y + k) i v (y + b) j else 0) = if b = k ∧ j = i then v else (if b < 16 then N (y + b) j else 0)
  unfold up2
  by_cases h : b < 16
  · rw [if_pos h]
    by_cases e : b = k ∧ j = i
    · rw [if_pos e, if_pos ⟨by rw [e.1], e.2⟩]
    · rw [if_neg e, if_neg (fun z => e ⟨by omega, z.2⟩), if_pos h]
  · rw [if_neg h, if_neg (fun z => h (by omega)), if_neg h]
theorem reg_at {N : Nat → Nat → Nat} {y k i : Nat} (hk : k < 16) : reg N y k i = N (y + k) i := if_pos hk
def QH (N : Nat → Nat → Nat) (y : Nat) (q : List Nat) : Prop := N y 3 = q.length ∧ ∀ i (h : i < q.length), N (y + 15) i = q[i]
