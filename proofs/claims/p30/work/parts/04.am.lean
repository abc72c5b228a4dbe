/-! THE CLEAN MACHINE: a run of the bytecode over objects by number (kinds, lengths, references; ints; longs; what was made). 'none': it does not say what happens. -/
abbrev aZ : Type := (Nat → Nat) × (Nat → Nat) × (Nat → Nat → Value) × Nat
abbrev aH : Type := aZ × (Nat → Nat → Int32) × (Nat → Nat → Int64) × (Nat × Nat)
abbrev aL : Type := List (Option Value)
abbrev aR : Type := Option Value ⊕ Nat
abbrev aS : Type := Nat × aL × List Value × aH
abbrev aO : Type := Option (aS ⊕ ((aR × aH) ⊕ (Nat × aL × Nat × List Value)))
def nx (pc : Nat) (ls : aL) (st : List Value) (h : aH) : aO := some (.inl (pc, ls, st, h))
def dn (r : aR) (h : aH) : aO := some (.inr (.inl (r, h)))
def cl (M : Nat) (cs : aL) (pc : Nat) (rest : List Value) : aO := some (.inr (.inr (M, cs, pc, rest)))
def gd (b : Bool) (a : aO) : aO := match b with | true => a | false => none
def gl : aL → Nat → Option Value
  | [], _ => none
  | a :: _, 0 => a
  | _ :: l, n + 1 => gl l n
def kp (a : Option Value) : Option Value := match a with | some (.long _) => none | some (.double _) => none | _ => a
/-- a value of one slot is stored -/
def sl1 : aL → Nat → Value → Option aL
  | [], _, _ => none
  | _ :: l, 0, v => some (some v :: l)
  | a :: l, n + 1, v => match sl1 l n v with | none => none | some l' => some ((match n with | 0 => kp a | _ + 1 => a) :: l')
/-- a value of two slots is stored -/
def sl2 : aL → Nat → Value → Option aL
  | [], _, _ => none
  | [_], 0, _ => none
  | _ :: _ :: l, 0, v => some (some v :: none :: l)
  | a :: l, n + 1, v => match sl2 l n v with | none => none | some l' => some ((match n with | 0 => kp a | _ + 1 => a) :: l')
/-- an exception's reference is stored, of which nothing is said -/
def skp (l : aL) (k : Nat) : Option aL := match sl1 l k .null with | some l' => some (l'.set k none) | none => none
def cs (st : List Value) : Nat := (st.map fun v => v.category).sum
def spr : List Value → aL
  | [] => []
  | .long n :: l => some (.long n) :: none :: spr l
  | .double n :: l => some (.double n) :: none :: spr l
  | v :: l => some v :: spr l
def lay (m : Nat) (vs : List Value) : aL := spr vs ++ List.replicate (m - (spr vs).length) none
def inb (i : Int32) (n : Nat) : Bool := decide (0 ≤ i.toInt) && decide (i.toInt < n)
def ix (i : Int32) : Nat := i.toNatClampNeg
def up2 {α : Type} (f : Nat → Nat → α) (a k : Nat) (v : α) : Nat → Nat → α := fun b j => if b = a ∧ j = k then v else f b j
def up1 {α : Type} (f : Nat → α) (a : Nat) (v : α) : Nat → α := fun b => if b = a then v else f b
def rdk (k : Nat) : Bool := Nat.beq k 0 || Nat.beq k 3
def cnd (c : Jvm.ClassFile.Cond) (a b : Int32) : Bool := match c with
  | .eq => decide (a = b)
  | .ne => !decide (a = b)
  | .lt => decide (a < b)
  | .ge => !decide (a < b)
  | .gt => decide (b < a)
  | .le => !decide (b < a)
def tgo (pc : Nat) (off : Int) : Bool := decide (0 ≤ (pc : Int) + off)
def tgN (pc : Nat) (off : Int) : Nat := ((pc : Int) + off).toNat
def okc (M M' : Nat) : Bool := Nat.ble (mFr M' + 1) (mFr M) && Nat.ble (19 + mMax M' + mLo M') (mLo M)
def swT (pc : Nat) (d lo hi : Int) (offs : Array Int) (a : Int32) : Int := if a.toInt < lo ∨ hi < a.toInt then (pc : Int) + d else match offs[(a.toInt - lo).toNat]? with | some o => (pc : Int) + o | none => -1
def mkH (h : aH) (kind len : Nat) (u : Nat) : aH := ((up1 h.1.1 h.1.2.2.2 kind, up1 h.1.2.1 h.1.2.2.2 len, up1 h.1.2.2.1 h.1.2.2.2 (fun _ => .null), h.1.2.2.2 + 1), up1 h.2.1 h.1.2.2.2 (fun _ => 0), up1 h.2.2.1 h.1.2.2.2 (fun _ => 0), (h.2.2.2.1, h.2.2.2.2 + u))
def bmp (h : aH) : aH := (h.1, h.2.1, h.2.2.1, (h.2.2.2.1 + 1, h.2.2.2.2 + 6))
def nrw (M : Nat) (a : Int32) : Bool := match mRet M with | some .int => true | some .boolean => decide (a = 0) || decide (a = 1) | _ => false
def rkC (M : Nat) (t : FieldType) : Bool := decide (mRet M = some t)
def isV (v : Value) : Bool := match v with | .int _ => true | .long _ => true | .double _ => true | .ref _ => true | _ => false
def aprm (k pc : Nat) (ls : aL) (st : List Value) (h : aH) : aO := match k, st with
  | 1, .int b :: .int a :: r => gd (Nat.ble (cs r) 8) (nx pc ls (.int (if b < a then b else a) :: r) h)
  | 2, .int b :: .int a :: r => gd (Nat.ble (cs r) 8) (nx pc ls (.int (if a < b then b else a) :: r) h)
  | 3, .int n :: .int dp :: .ref a :: .int sp :: .ref a0 :: r =>
    gd (Nat.ble (cs r) 8) (if rdk (h.1.1 a0) = true ∧ h.1.1 a = 0 ∧ ¬ a0 = a ∧ 0 ≤ sp.toInt ∧ 0 ≤ dp.toInt ∧ 0 ≤ n.toInt ∧ ix sp + ix n ≤ h.1.2.1 a0 ∧ ix dp + ix n ≤ h.1.2.1 a then
      nx pc ls r (h.1, (fun b j => if b = a ∧ ix dp ≤ j ∧ j < ix dp + ix n then h.2.1 a0 (ix sp + (j - ix dp)) else h.2.1 b j), h.2.2.1, h.2.2.2) else none)
  | 5, .ref a :: r => gd (Nat.ble (cs r) 8) (nx pc ls r h)
  | _, _ => none
def act (M pc len : Nat) (i : Instr) (ls : aL) (st : List Value) (h : aH) : aO := match i with
  | .aload_n k => match gl ls k.val with | some (.ref a) => gd (Nat.beq len 1) (nx (pc + 1) ls (.ref a :: st) h) | _ => none
  | .aload k => match gl ls k with | some (.ref a) => gd (Nat.beq len 2) (nx (pc + 2) ls (.ref a :: st) h) | _ => none
  | .iload_n k => match gl ls k.val with | some (.int a) => gd (Nat.beq len 1) (nx (pc + 1) ls (.int a :: st) h) | _ => none
  | .iload k => match gl ls k with | some (.int a) => gd (Nat.beq len 2) (nx (pc + 2) ls (.int a :: st) h) | _ => none
  | .lload_n k => match gl ls k.val with | some (.long a) => gd (Nat.beq len 1) (nx (pc + 1) ls (.long a :: st) h) | _ => none
  | .lload k => match gl ls k with | some (.long a) => gd (Nat.beq len 2) (nx (pc + 2) ls (.long a :: st) h) | _ => none
  | .dload_n k => match gl ls k.val with | some (.double a) => gd (Nat.beq len 1) (nx (pc + 1) ls (.double a :: st) h) | _ => none
  | .dload k => match gl ls k with | some (.double a) => gd (Nat.beq len 2) (nx (pc + 2) ls (.double a :: st) h) | _ => none
  | .astore_n k => match st with | .ref a :: r => (match sl1 ls k.val (.ref a) with | some l => gd (Nat.beq len 1) (nx (pc + 1) l r h) | none => none) | _ => none
  | .astore k => match st with | .ref a :: r => (match sl1 ls k (.ref a) with | some l => gd (Nat.beq len 2) (nx (pc + 2) l r h) | none => none) | _ => none
  | .istore_n k => match st with | .int a :: r => (match sl1 ls k.val (.int a) with | some l => gd (Nat.beq len 1) (nx (pc + 1) l r h) | none => none) | _ => none
  | .istore k => match st with | .int a :: r => (match sl1 ls k (.int a) with | some l => gd (Nat.beq len 2) (nx (pc + 2) l r h) | none => none) | _ => none
  | .lstore_n k => match st with | .long a :: r => (match sl2 ls k.val (.long a) with | some l => gd (Nat.beq len 1) (nx (pc + 1) l r h) | none => none) | _ => none
  | .lstore k => match st with | .long a :: r => (match sl2 ls k (.long a) with | some l => gd (Nat.beq len 2) (nx (pc + 2) l r h) | none => none) | _ => none
  | .dstore_n k => match st with | .double a :: r => (match sl2 ls k.val (.double a) with | some l => gd (Nat.beq len 1) (nx (pc + 1) l r h) | none => none) | _ => none
  | .dstore k => match st with | .double a :: r => (match sl2 ls k (.double a) with | some l => gd (Nat.beq len 2) (nx (pc + 2) l r h) | none => none) | _ => none
  | .iinc k n => match gl ls k with | some (.int a) => (match sl1 ls k (.int (a + Int32.ofInt n)) with | some l => gd (Nat.beq len 3) (nx (pc + 3) l st h) | none => none) | _ => none
  | .iconst n => gd (Nat.beq len 1) (nx (pc + 1) ls (.int (Int32.ofInt n) :: st) h)
  | .bipush n => gd (Nat.beq len 2) (nx (pc + 2) ls (.int (Int8.ofInt n).toInt32 :: st) h)
  | .sipush n => gd (Nat.beq len 3) (nx (pc + 3) ls (.int (Int16.ofInt n).toInt32 :: st) h)
  | .lconst n => gd (Nat.beq len 1) (nx (pc + 1) ls (.long (Int64.ofNat n.val) :: st) h)
  | .dconst n => gd (Nat.beq len 1) (nx (pc + 1) ls (.double (match n.val with | 0 => FP.dconst0 | _ => FP.dconst1) :: st) h)
  | .ldc k => match cstT (mO M) k with | some (.int a) => gd (Nat.beq len 2) (nx (pc + 2) ls (.int a :: st) h) | _ => none
  | .iadd => match st with | .int b :: .int a :: r => gd (Nat.beq len 1) (nx (pc + 1) ls (.int (a + b) :: r) h) | _ => none
  | .isub => match st with | .int b :: .int a :: r => gd (Nat.beq len 1) (nx (pc + 1) ls (.int (a - b) :: r) h) | _ => none
  | .imul => match st with | .int b :: .int a :: r => gd (Nat.beq len 1) (nx (pc + 1) ls (.int (a * b) :: r) h) | _ => none
  | .iand => match st with | .int b :: .int a :: r => gd (Nat.beq len 1) (nx (pc + 1) ls (.int (a &&& b) :: r) h) | _ => none
  | .ishr => match st with | .int b :: .int a :: r => gd (Nat.beq len 1) (nx (pc + 1) ls (.int (a >>> (b &&& 31)) :: r) h) | _ => none
  | .iushr => match st with | .int b :: .int a :: r => gd (Nat.beq len 1) (nx (pc + 1) ls (.int ((a.toUInt32 >>> (b.toUInt32 &&& Int32.toUInt32 31)).toInt32) :: r) h) | _ => none
  | .idiv => match st with | .int b :: .int a :: r => gd (Nat.beq len 1) (if b = 0 then none else nx (pc + 1) ls (.int (a / b) :: r) h) | _ => none
  | .irem => match st with | .int b :: .int a :: r => gd (Nat.beq len 1) (if b = 0 then none else nx (pc + 1) ls (.int (a - a / b * b) :: r) h) | _ => none
  | .ladd => match st with | .long b :: .long a :: r => gd (Nat.beq len 1) (nx (pc + 1) ls (.long (a + b) :: r) h) | _ => none
  | .lsub => match st with | .long b :: .long a :: r => gd (Nat.beq len 1) (nx (pc + 1) ls (.long (a - b) :: r) h) | _ => none
  | .lmul => match st with | .long b :: .long a :: r => gd (Nat.beq len 1) (nx (pc + 1) ls (.long (a * b) :: r) h) | _ => none
  | .lshl => match st with | .int b :: .long a :: r => gd (Nat.beq len 1) (nx (pc + 1) ls (.long (a <<< (b.toInt64 &&& 63)) :: r) h) | _ => none
  | .i2l => match st with | .int a :: r => gd (Nat.beq len 1) (nx (pc + 1) ls (.long a.toInt64 :: r) h) | _ => none
  | .i2d => match st with | .int a :: r => gd (Nat.beq len 1) (nx (pc + 1) ls (.double (FP.i2d a) :: r) h) | _ => none
  | .d2l => match st with | .double a :: r => gd (Nat.beq len 1) (nx (pc + 1) ls (.long (FP.d2l a) :: r) h) | _ => none
  | .ddiv => match st with | .double b :: .double a :: r => gd (Nat.beq len 1) (if FP.ddiv a b &&& 0x7fffffffffffffff ≤ 0x7ff0000000000000 then nx (pc + 1) ls (.double (FP.ddiv a b) :: r) h else none) | _ => none
  | .dmul => match st with | .double b :: .double a :: r => gd (Nat.beq len 1) (if FP.dmul a b &&& 0x7fffffffffffffff ≤ 0x7ff0000000000000 then nx (pc + 1) ls (.double (FP.dmul a b) :: r) h else none) | _ => none
  | .dsub => match st with | .double b :: .double a :: r => gd (Nat.beq len 1) (if FP.dsub a b &&& 0x7fffffffffffffff ≤ 0x7ff0000000000000 then nx (pc + 1) ls (.double (FP.dsub a b) :: r) h else none) | _ => none
  | .dcmp op => match st with | .double b :: .double a :: r => gd (Nat.beq len 1) (nx (pc + 1) ls (.int (Op.cmpValue (FP.dcmp a b) op) :: r) h) | _ => none
  | .lcmp => match st with | .long b :: .long a :: r => gd (Nat.beq len 1) (nx (pc + 1) ls (.int (if a < b then -1 else if a = b then 0 else 1) :: r) h) | _ => none
  | .dup => match st with | .ref a :: r => gd (Nat.beq len 1) (nx (pc + 1) ls (.ref a :: .ref a :: r) h) | .int a :: r => gd (Nat.beq len 1) (nx (pc + 1) ls (.int a :: .int a :: r) h) | _ => none
  | .dup2 => match st with | .int b :: .ref a :: r => gd (Nat.beq len 1) (nx (pc + 1) ls (.int b :: .ref a :: .int b :: .ref a :: r) h) | _ => none
  | .pop => match st with | .int _ :: r => gd (Nat.beq len 1) (nx (pc + 1) ls r h) | .ref _ :: r => gd (Nat.beq len 1) (nx (pc + 1) ls r h) | _ => none
  | .if_icmp c off => match st with | .int b :: .int a :: r => gd (Nat.beq len 3 && tgo pc off) (if cnd c a b = true then nx (tgN pc off) ls r h else nx (pc + 3) ls r h) | _ => none
  | .ifCond c off => match st with | .int a :: r => gd (Nat.beq len 3 && tgo pc off) (if cnd c a 0 = true then nx (tgN pc off) ls r h else nx (pc + 3) ls r h) | _ => none
  | .goto off => gd (Nat.beq len 3 && tgo pc off) (nx (tgN pc off) ls st h)
  | .tableswitch d lo hi offs => match st with | .int a :: r => gd (decide (0 ≤ swT pc d lo hi offs a)) (nx (swT pc d lo hi offs a).toNat ls r h) | _ => none
  | .lookupswitch d ps => match st with | .int a :: r => gd (decide (0 ≤ (pc : Int) + Op.lookupswitch.offset ps.toList d a.toInt) && (ps.toList.zip (ps.toList.drop 1)).all (fun (a, next) => a.1 < next.1)) (nx ((pc : Int) + Op.lookupswitch.offset ps.toList d a.toInt).toNat ls r h) | _ => none
  | .getfield k => match st, fldT (mO M) k with
    | .ref a :: r, some (ci, j, 0) => gd (Nat.beq len 3) (if h.1.1 a = 4 + ci then nx (pc + 3) ls (.int (h.2.1 a j) :: r) h else none)
    | .ref a :: r, some (ci, j, 1) => gd (Nat.beq len 3) (if h.1.1 a = 4 + ci then nx (pc + 3) ls (.long (h.2.2.1 a j) :: r) h else none)
    | .ref a :: r, some (ci, j, 2) => gd (Nat.beq len 3) (if h.1.1 a = 4 + ci then nx (pc + 3) ls (h.1.2.2.1 a j :: r) h else none)
    | _, _ => none
  | .putfield k => match st, fldT (mO M) k with
    | .int v :: .ref a :: r, some (ci, j, 0) => gd (Nat.beq len 3) (if h.1.1 a = 4 + ci then nx (pc + 3) ls r (h.1, up2 h.2.1 a j v, h.2.2) else none)
    | .long v :: .ref a :: r, some (ci, j, 1) => gd (Nat.beq len 3) (if h.1.1 a = 4 + ci then nx (pc + 3) ls r (h.1, h.2.1, up2 h.2.2.1 a j v, h.2.2.2) else none)
    | .ref v :: .ref a :: r, some (ci, j, 2) => gd (Nat.beq len 3 && decide ((mY M).name = "<init>") && Nat.beq (oKd (mO M)) (4 + ci)) (if h.1.1 a = 4 + ci ∧ v < h.1.2.2.2 then nx (pc + 3) ls r ((h.1.1, h.1.2.1, up2 h.1.2.2.1 a j (.ref v), h.1.2.2.2), h.2) else none)
    | _, _ => none
  | .getstatic k => match staT (mO M) k with | some a => gd (Nat.beq len 3) (nx (pc + 3) ls (.ref a :: st) h) | none => none
  | .arraylength => match st with | .ref a :: r => gd (Nat.beq len 1) (if rdk (h.1.1 a) = true then nx (pc + 1) ls (.int (Int32.ofNat (h.1.2.1 a)) :: r) h else none) | _ => none
  | .iaload => match st with | .int i :: .ref a :: r => gd (Nat.beq len 1) (if rdk (h.1.1 a) = true ∧ inb i (h.1.2.1 a) = true then nx (pc + 1) ls (.int (h.2.1 a (ix i)) :: r) h else none) | _ => none
  | .aaload => match st with | .int i :: .ref a :: r => gd (Nat.beq len 1) (if h.1.1 a = 2 ∧ inb i (h.1.2.1 a) = true then nx (pc + 1) ls (h.1.2.2.1 a (ix i) :: r) h else none) | _ => none
  | .iastore => match st with | .int v :: .int i :: .ref a :: r => gd (Nat.beq len 1) (if h.1.1 a = 0 ∧ inb i (h.1.2.1 a) = true then nx (pc + 1) ls r (h.1, up2 h.2.1 a (ix i) v, h.2.2) else none) | _ => none
  | .aastore => match st with | .ref v :: .int i :: .ref a :: r => gd (Nat.beq len 1) (if h.1.1 a = 2 ∧ inb i (h.1.2.1 a) = true ∧ h.1.1 v = 9 then nx (pc + 1) ls r ((h.1.1, h.1.2.1, up2 h.1.2.2.1 a (ix i) (.ref v), h.1.2.2.2), h.2) else none) | _ => none
  | .newarray t => match st, t with
    | .int n :: r, .int => gd (Nat.beq len 2) (if 0 ≤ n.toInt ∧ n.toInt ≤ 100000 ∧ h.2.2.2.1 = 0 ∧ h.1.2.2.2 < 1000 then nx (pc + 2) ls (.ref h.1.2.2.2 :: r) (mkH h 0 (ix n) (ix n)) else none)
    | _, _ => none
  | .anewarray k => match st with
    | .int n :: r => gd (Nat.beq len 3 && Nat.beq (mO M) 2 && Nat.beq k 9) (if 0 ≤ n.toInt ∧ n.toInt ≤ 100000 ∧ h.2.2.2.1 = 0 ∧ h.1.2.2.2 < 1000 then nx (pc + 3) ls (.ref h.1.2.2.2 :: r) (mkH h 2 (ix n) (ix n)) else none)
    | _ => none
  | .new k => match thrT M pc with
    | some e => gd (Nat.beq len 3 && Nat.ble 6 (mFr M) && Nat.ble 103 (mLo M) && Nat.ble (cs st) 8) (dn (.inr e) (bmp h))
    | none => match newT (mO M) k with
      | some (kd, n) => gd (Nat.beq len 3) (if h.2.2.2.1 = 0 ∧ h.1.2.2.2 < 1000 then nx (pc + 3) ls (.ref h.1.2.2.2 :: st) (mkH h kd 0 n) else none)
      | none => none
  | .invokestatic k => match calS (mO M) k with
    | some (M', n) => gd (Nat.beq len 3 && okc M M' && Nat.beq (st.take n).length n && Nat.ble (cs (st.drop n)) 8 && Nat.ble (spr (st.take n).reverse).length (mMax M')) (cl M' (lay (mMax M') (st.take n).reverse) (pc + 3) (st.drop n))
    | none => match prmT (mO M) k with | some q => gd (Nat.beq len 3 && Nat.ble 40 (mLo M) && Nat.blt q 5) (aprm q (pc + 3) ls st h) | none => none
  | .invokevirtual k => match calV (mO M) k with
    | some (M', n) => (match st.drop n with
      | .ref a :: rest => gd (Nat.beq len 3 && okc M M' && Nat.beq (st.take n).length n && Nat.ble (cs rest) 8 && Nat.ble (spr (.ref a :: (st.take n).reverse)).length (mMax M')) (if h.1.1 a = oKd (mO M') then cl M' (lay (mMax M') (.ref a :: (st.take n).reverse)) (pc + 3) rest else none)
      | _ => none)
    | none => none
  | .invokespecial k => match calI (mO M) k with
    | some (M', n) => (match st.drop n with
      | .ref a :: rest => gd (Nat.beq len 3 && okc M M' && Nat.beq (st.take n).length n && Nat.ble (cs rest) 8 && Nat.ble (spr (.ref a :: (st.take n).reverse)).length (mMax M')) (if h.1.1 a = oKd (mO M') then cl M' (lay (mMax M') (.ref a :: (st.take n).reverse)) (pc + 3) rest else none)
      | _ => none)
    | none => match prmT (mO M) k with | some q => gd (Nat.beq len 3 && Nat.beq q 5 && Nat.ble 22 (mLo M)) (aprm q (pc + 3) ls st h) | none => none
  | .invokeinterface k _ => match calF (mO M) k with
    | some (M0, M1, n) => (match st.drop n with
      | .ref a :: rest => gd (Nat.beq len 5 && okc M M0 && okc M M1 && Nat.beq (st.take n).length n && Nat.ble (cs rest) 8 && Nat.ble (spr (.ref a :: (st.take n).reverse)).length (mMax M0) && Nat.ble (spr (.ref a :: (st.take n).reverse)).length (mMax M1)) (if h.1.1 a = 4 then cl M0 (lay (mMax M0) (.ref a :: (st.take n).reverse)) (pc + 5) rest else if h.1.1 a = 8 then cl M1 (lay (mMax M1) (.ref a :: (st.take n).reverse)) (pc + 5) rest else none)
      | _ => none)
    | none => none
  | .ireturn => match st with | [.int a] => gd (Nat.beq len 1 && nrw M a) (dn (.inl (some (.int a))) h) | _ => none
  | .lreturn => match st with | [.long a] => gd (Nat.beq len 1 && rkC M .long) (dn (.inl (some (.long a))) h) | _ => none
  | .dreturn => match st with | [.double a] => gd (Nat.beq len 1 && rkC M .double) (dn (.inl (some (.double a))) h) | _ => none
  | .return_ => match st with | [] => gd (Nat.beq len 1 && decide (mRet M = none)) (dn (.inl none) h) | _ => none
  | _ => none
def exN : Nat → Nat → Nat → aL → List Value → aH → Option (aR × aH)
  | 0, _, _, _, _, _ => none
  | n + 1, M, pc, ls, st, h => match decode (mCode M) pc with
    | .error _ => none
    | .ok (i, len) => match act M pc len i ls st h with
      | none => none
      | some (.inl (pc', ls', st', h')) => exN n M pc' ls' st' h'
      | some (.inr (.inl rh)) => some rh
      | some (.inr (.inr (M', cs', pc', rest))) => match exN n M' 0 cs' [] h with
        | none => none
        | some (.inl v, h') => exN n M pc' ls (v.toList ++ rest) h'
        | some (.inr e, h') => match hdl M pc e with
          | some (k, t) => match skp ls k with
            | some l' => exN n M t l' [] h'
            | none => none
          | none => match mHh M with
            | [] => some (.inr e, h')
            | _ => none
theorem exN_succ : ∀ (n M pc : Nat) (ls : aL) (st : List Value) (h : aH) (r : aR × aH), exN n M pc ls st h = some r → exN (n + 1) M pc ls st h = some r
  | 0, _, _, _, _, _, _, q => by simp [exN] at q
  | n + 1, M, pc, ls, st, h, r, q => by
    rw [exN] at q ⊢
    split at q
    · cases q
    · rename_i i len hd
      split at q
      · cases q
      · exact exN_succ n _ _ _ _ _ _ q
      · exact q
      · split at q
        · cases q
        · rename_i v h' hc
          rw [exN_succ n _ _ _ _ _ _ hc]
          exact exN_succ n _ _ _ _ _ _ q
        · rename_i e h' hc
          rw [exN_succ n _ _ _ _ _ _ hc]
          dsimp only
          split at q
          · split at q
            · exact exN_succ n _ _ _ _ _ _ q
            · cases q
          · split at q
            · exact q
            · cases q
theorem exN_mono {n k M pc : Nat} {ls : aL} {st : List Value} {h : aH} {r : aR × aH} (q : exN n M pc ls st h = some r) (hk : n ≤ k) : exN k M pc ls st h = some r := by
  induction hk with
  | refl => exact q
  | step _ ih => exact exN_succ _ _ _ _ _ _ _ ih
