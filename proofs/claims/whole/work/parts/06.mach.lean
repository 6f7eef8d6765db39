/-! AN ABSTRACT MACHINE over a heap of plain functions: what a method's bytecode does, as equations -/
/-- size, slots, shapes (100 + class, 0 | kind of array, length), ints, longs, references, String constants' addresses, texts by address -/
abbrev AH : Type := Nat × Nat × (Nat → Option (Nat × Nat)) × (Nat → Nat → Int32) × (Nat → Nat → Int64) × (Nat → Nat → Option Nat) × (Nat → Nat) × (Nat → Option (List Int32))
abbrev LL : Type := List (Option Value)
abbrev RR : Type := Option Value × AH
def hN (h : AH) : Nat := h.1
def hU (h : AH) : Nat := h.2.1
def hS (h : AH) : Nat → Option (Nat × Nat) := h.2.2.1
def hI (h : AH) : Nat → Nat → Int32 := h.2.2.2.1
def hL (h : AH) : Nat → Nat → Int64 := h.2.2.2.2.1
def hR (h : AH) : Nat → Nat → Option Nat := h.2.2.2.2.2.1
def hK (h : AH) : Nat → Nat := h.2.2.2.2.2.2.1
def hX (h : AH) : Nat → Option (List Int32) := h.2.2.2.2.2.2.2
def up2 {α : Type} (f : Nat → Nat → α) (a k : Nat) (v : α) : Nat → Nat → α := fun b j => if b = a ∧ j = k then v else f b j
def stI (h : AH) (a k : Nat) (v : Int32) : AH := (hN h, hU h, hS h, up2 (hI h) a k v, hL h, hR h, hK h, hX h)
def stL (h : AH) (a k : Nat) (v : Int64) : AH := (hN h, hU h, hS h, hI h, up2 (hL h) a k v, hR h, hK h, hX h)
def stR (h : AH) (a k : Nat) (v : Option Nat) : AH := (hN h, hU h, hS h, hI h, hL h, up2 (hR h) a k v, hK h, hX h)
/-- a new cell -/
def newC (h : AH) (sh : Nat × Nat) (u : Nat) : AH := (hN h + 1, hU h + u, fun b => if b = hN h then some sh else hS h b, fun b j => if b = hN h then 0 else hI h b j, fun b j => if b = hN h then 0 else hL h b j, fun b j => if b = hN h then none else hR h b j, hK h, hX h)
/-- a new array of n new arrays of k -/
def newM (h : AH) (t t' n k : Nat) : AH := (hN h + 1 + n, hU h + n + n * k, fun b => if b = hN h then some (t, n) else if hN h < b ∧ b < hN h + 1 + n then some (t', k) else hS h b, fun b j => if hN h ≤ b ∧ b < hN h + 1 + n then 0 else hI h b j, fun b j => if hN h ≤ b ∧ b < hN h + 1 + n then 0 else hL h b j, fun b j => if b = hN h then (if j < n then some (hN h + 1 + j) else none) else if hN h < b ∧ b < hN h + 1 + n then none else hR h b j, hK h, hX h)
/-- a stretch of an array put into another -/
def cpI (h : AH) (a sp b dp n : Nat) : AH := (hN h, hU h, hS h, fun c j => if c = b then va_cpy (hI h a) (hI h b) sp dp n j else hI h c j, hL h, hR h, hK h, hX h)
def cpL (h : AH) (a sp b dp n : Nat) : AH := (hN h, hU h, hS h, hI h, fun c j => if c = b then va_cpy (hL h a) (hL h b) sp dp n j else hL h c j, hR h, hK h, hX h)
/-- the length of an array of kind t, 0 where there is none -/
def alen (h : AH) (a t : Nat) : Nat := match hS h a with
  | some (t', n) => if t' = t then n else 0
  | none => 0
def knd (h : AH) (a : Nat) : Nat := match hS h a with
  | some q => q.1
  | none => 9
def inb (i : Int32) (n : Nat) : Bool := decide (¬ (i < 0 ∨ n ≤ i.toNatClampNeg))
/-- continue; call a method and continue behind it; return -/
abbrev Act : Type := Option ((Nat × LL × List Value × AH) ⊕ ((Nat × List Value × LL × Nat × List Value) ⊕ RR))
def nx (ix : Nat) (L : LL) (st : List Value) (h : AH) : Act := some (.inl (ix, L, st, h))
def pI (st : List Value) (k : Int32 → List Value → Act) : Act := match st with
  | .int a :: r => k a r
  | _ => none
def pJ (st : List Value) (k : Int64 → List Value → Act) : Act := match st with
  | .long a :: r => k a r
  | _ => none
def pR (st : List Value) (k : Nat → List Value → Act) : Act := match st with
  | .ref a :: r => k a r
  | _ => none
def pV (st : List Value) (k : Value → List Value → Act) : Act := match st with
  | v :: r => if v.category = 1 then k v r else none
  | _ => none
def g2 {α : Type} (o : Option α) (k : α → Act) : Act := match o with
  | some v => k v
  | none => none
def gd (c : Prop) [Decidable c] (k : Act) : Act := if c then k else none
def ldV (L : LL) (i : Nat) : Option Value := match L[i]? with
  | some (some v) => some v
  | _ => none
def asI (v : Value) : Option Int32 := match v with
  | .int x => some x
  | _ => none
def asJ (v : Value) : Option Int64 := match v with
  | .long x => some x
  | _ => none
def asR (v : Value) : Option Nat := match v with
  | .ref x => some x
  | _ => none
/-- a long that ends where a new local begins is gone -/
def clL (y : Nat) (L : LL) (i : Nat) : LL := match i with
  | 0 => L
  | j + 1 => if c2 y j = true then (match L[j]? with
    | some (some v) => if v.category = 2 then L.set j none else L
    | _ => L) else L
def st1 (y : Nat) (L : LL) (i : Nat) (v : Value) : LL := (clL y L i).set i (some v)
def st2 (y : Nat) (L : LL) (i : Nat) (v : Value) : LL := ((clL y L i).set i (some v)).set (i + 1) none
def lay1 (v : Value) : LL := if v.category = 2 then [some v, none] else [some v]
def enL (mx : Nat) (as : List Value) : LL := as.flatMap lay1 ++ List.replicate (mx - (as.flatMap lay1).length) none
def enOK (z : Nat) (L : LL) (i : Nat) : Bool := match L with
  | [] => true
  | some v :: l => (!(v.category == 2) || c2 z i) && enOK z l (i + 1)
  | none :: l => enOK z l (i + 1)
def callA (z ix np : Nat) (as : List Value) (rest : List Value) : Act :=
  gd (as.length = np ∧ rest.length ≤ 4 ∧ (as.flatMap lay1).length ≤ (md z).2.2.2.2.1 ∧ enOK z (enL (md z).2.2.2.2.1 as) 0 = true) (some (.inr (.inl (z, as, enL (md z).2.2.2.2.1 as, ix, rest))))
def swT (ts : List Nat) (k : Int) (x : Int32) (d : Nat) : Nat := match ts with
  | [] => d
  | t :: l => if x = Int32.ofInt k then t else swT l (k + 1) x d
def swL (ks : List (Int × Int)) (ts : List Nat) (x : Int32) (d : Nat) : Nat := match ks, ts with
  | k :: kl, t :: l => if x = Int32.ofInt k.1 then t else swL kl l x d
  | _, _ => d
def icc (c : Jvm.ClassFile.Cond) (x y : Int32) : Bool := match c with
  | .eq => decide (x = y)
  | .ne => decide (¬ x = y)
  | .lt => decide (x < y)
  | .ge => decide (y ≤ x)
  | .gt => decide (y < x)
  | .le => decide (x ≤ y)
def lenA (h : AH) (a : Nat) : Option Nat := match hS h a with
  | some (t, n) => if t ≤ 8 then some n else none
  | none => none
/-- arraycopy's parts -/
def acp (st : List Value) (k : Nat → Int32 → Nat → Int32 → Int32 → List Value → Act) : Act := match st with
  | .int n :: .int dp :: .ref b :: .int sp :: .ref a :: r => k a sp b dp n r
  | _ => none
def pos3 (sp dp n : Int32) : Bool := decide (¬ sp < 0) && decide (¬ dp < 0) && decide (¬ n < 0)
/-- Math.min -/
def mnI (x y : Int32) : Int32 := if y < x then y else x
def invA (y ix a b : Nat) (ts : List Nat) (i : Instr) (L : LL) (st : List Value) (h : AH) : Act :=
  match i, ts with
  | .invokestatic _, [0] => gd ((md a).2.2.2.2.2.2.1 = true ∧ b ≤ st.length) (callA a (ix + 1) b (st.take b).reverse (st.drop b))
  | .invokestatic _, [4] => acp st fun s0 sp d0 dp n r => gd (pos3 sp dp n = true ∧ r.length ≤ 4)
      (if knd h s0 = 0 ∧ knd h d0 = 0 then gd (sp.toNatClampNeg + n.toNatClampNeg ≤ alen h s0 0 ∧ dp.toNatClampNeg + n.toNatClampNeg ≤ alen h d0 0) (nx (ix + 1) L r (cpI h s0 sp.toNatClampNeg d0 dp.toNatClampNeg n.toNatClampNeg))
       else gd (knd h s0 = 1 ∧ knd h d0 = 1 ∧ sp.toNatClampNeg + n.toNatClampNeg ≤ alen h s0 1 ∧ dp.toNatClampNeg + n.toNatClampNeg ≤ alen h d0 1) (nx (ix + 1) L r (cpL h s0 sp.toNatClampNeg d0 dp.toNatClampNeg n.toNatClampNeg)))
  | .invokestatic _, [5] => pI st fun y r => pI r fun x r => gd (r.length ≤ 4) (nx (ix + 1) L (.int (mnI x y) :: r) h)
  | .invokevirtual _, [0] => gd ((md a).2.2.2.2.2.2.1 = false ∧ b ≤ st.length) (pR (st.drop b) fun o r => gd (hS h o = some (100 + ciOf (md a).1, 0)) (callA a (ix + 1) (b + 1) (.ref o :: (st.take b).reverse) r))
  | .invokevirtual _, [2] => pR st fun o r => gd (r.length ≤ 4) (g2 (hX h o) fun t => nx (ix + 1) L (.int (nI t.length) :: r) h)
  | .invokevirtual _, [3] => pI st fun j r => pR r fun o r => gd (r.length ≤ 4) (g2 (hX h o) fun t => gd (inb j t.length = true) (nx (ix + 1) L (.int (t.getD j.toNatClampNeg 0) :: r) h))
  | .invokespecial _, [0] => gd ((md a).2.1 = "<init>" ∧ b ≤ st.length) (pR (st.drop b) fun o r => callA a (ix + 1) (b + 1) (.ref o :: (st.take b).reverse) r)
  | .invokespecial _, [1] => pR st fun _ r => gd (r.length ≤ 4) (nx (ix + 1) L r h)
  | _, _ => none
def retA (y : Nat) (i : Instr) (st : List Value) (h : AH) : Act :=
  match i, (md y).2.2.2.2.2.1, st with
  | .ireturn, some .int, [.int v] => some (.inr (.inr (some (.int v), h)))
  | .ireturn, some .boolean, [.int v] => gd (v = 0 ∨ v = 1) (some (.inr (.inr (some (.int v), h))))
  | .lreturn, some .long, [.long v] => some (.inr (.inr (some (.long v), h)))
  | .areturn, some (.object _), [.ref v] => some (.inr (.inr (some (.ref v), h)))
  | .return_, none, [] => some (.inr (.inr (none, h)))
  | _, _, _ => none
def fldA (ix a b : Nat) (i : Instr) (L : LL) (st : List Value) (h : AH) : Act :=
  match i, fk a b with
  | .getfield _, 0 => pR st fun o r => gd (hS h o = some (100 + a, 0)) (nx (ix + 1) L (.int (hI h o b) :: r) h)
  | .getfield _, 1 => pR st fun o r => gd (hS h o = some (100 + a, 0)) (nx (ix + 1) L (.int (hI h o b) :: r) h)
  | .getfield _, 2 => pR st fun o r => gd (hS h o = some (100 + a, 0)) (nx (ix + 1) L (va_rf (hR h o b) :: r) h)
  | .putfield _, 0 => pI st fun v r => pR r fun o r => gd (hS h o = some (100 + a, 0)) (nx (ix + 1) L r (stI h o b v))
  | .putfield _, 1 => pI st fun v r => pR r fun o r => gd (hS h o = some (100 + a, 0) ∧ (v = 0 ∨ v = 1)) (nx (ix + 1) L r (stI h o b v))
  | .putfield _, 2 => pR st fun v r => pR r fun o r => gd (hS h o = some (100 + a, 0)) (nx (ix + 1) L r (stR h o b (some v)))
  | _, _ => none
def arrA (ix : Nat) (i : Instr) (L : LL) (st : List Value) (h : AH) : Act :=
  match i with
  | .iaload => pI st fun j r => pR r fun o r => gd (inb j (alen h o 0) = true ∨ inb j (alen h o 8) = true) (nx (ix + 1) L (.int (hI h o j.toNatClampNeg) :: r) h)
  | .laload => pI st fun j r => pR r fun o r => gd (inb j (alen h o 1) = true) (nx (ix + 1) L (.long (hL h o j.toNatClampNeg) :: r) h)
  | .saload => pI st fun j r => pR r fun o r => gd (inb j (alen h o 2) = true) (nx (ix + 1) L (.int (hI h o j.toNatClampNeg) :: r) h)
  | .baload => pI st fun j r => pR r fun o r => gd (inb j (alen h o 3) = true) (nx (ix + 1) L (.int (hI h o j.toNatClampNeg) :: r) h)
  | .aaload => pI st fun j r => pR r fun o r => gd (inb j (alen h o 4) = true ∨ inb j (alen h o 5) = true ∨ inb j (alen h o 6) = true ∨ inb j (alen h o 7) = true) (nx (ix + 1) L (va_rf (hR h o j.toNatClampNeg) :: r) h)
  | .iastore => pI st fun v r => pI r fun j r => pR r fun o r => gd (inb j (alen h o 0) = true) (nx (ix + 1) L r (stI h o j.toNatClampNeg v))
  | .lastore => pJ st fun v r => pI r fun j r => pR r fun o r => gd (inb j (alen h o 1) = true) (nx (ix + 1) L r (stL h o j.toNatClampNeg v))
  | .sastore => pI st fun v r => pI r fun j r => pR r fun o r => gd (inb j (alen h o 2) = true) (nx (ix + 1) L r (stI h o j.toNatClampNeg (vp_nar .short v)))
  | .bastore => pI st fun v r => pI r fun j r => pR r fun o r => gd (inb j (alen h o 3) = true) (nx (ix + 1) L r (stI h o j.toNatClampNeg (vp_nar .boolean v)))
  | .aastore => pR st fun v r => pI r fun j r => pR r fun o r => gd (inb j (alen h o 5) = true ∧ hS h v = some (101, 0)) (nx (ix + 1) L r (stR h o j.toNatClampNeg (some v)))
  | .arraylength => pR st fun o r => g2 (lenA h o) fun n => nx (ix + 1) L (.int (nI n) :: r) h
  | _ => none
def newA (ix a b : Nat) (i : Instr) (L : LL) (st : List Value) (h : AH) : Act :=
  match i with
  | .new _ => nx (ix + 1) L (.ref (hN h) :: st) (newC h (100 + a, 0) b)
  | .newarray _ => pI st fun n r => gd (¬ n < 0 ∧ n.toNatClampNeg ≤ 67108864) (nx (ix + 1) L (.ref (hN h) :: r) (newC h (a, n.toNatClampNeg) n.toNatClampNeg))
  | .anewarray _ => pI st fun n r => gd (¬ n < 0 ∧ n.toNatClampNeg ≤ 67108864) (nx (ix + 1) L (.ref (hN h) :: r) (newC h (5, n.toNatClampNeg) n.toNatClampNeg))
  | .multianewarray _ _ => pI st fun k r => pI r fun n r => gd (¬ n < 0 ∧ ¬ k < 0 ∧ n.toNatClampNeg ≤ 67108864 ∧ k.toNatClampNeg ≤ 67108864) (nx (ix + 1) L (.ref (hN h) :: r) (newM h a b n.toNatClampNeg k.toNatClampNeg))
  | _ => none
def locA (y ix : Nat) (i : Instr) (L : LL) (st : List Value) (h : AH) : Act :=
  match i with
  | .iload j => g2 ((ldV L j).bind asI) fun v => nx (ix + 1) L (.int v :: st) h
  | .iload_n j => g2 ((ldV L j).bind asI) fun v => nx (ix + 1) L (.int v :: st) h
  | .lload j => g2 ((ldV L j).bind asJ) fun v => nx (ix + 1) L (.long v :: st) h
  | .lload_n j => g2 ((ldV L j).bind asJ) fun v => nx (ix + 1) L (.long v :: st) h
  | .aload j => g2 ((ldV L j).bind asR) fun v => nx (ix + 1) L (.ref v :: st) h
  | .aload_n j => g2 ((ldV L j).bind asR) fun v => nx (ix + 1) L (.ref v :: st) h
  | .istore j => pI st fun v r => gd (j < L.length) (nx (ix + 1) (st1 y L j (.int v)) r h)
  | .istore_n j => pI st fun v r => gd (j < L.length) (nx (ix + 1) (st1 y L j (.int v)) r h)
  | .astore j => pR st fun v r => gd (j < L.length) (nx (ix + 1) (st1 y L j (.ref v)) r h)
  | .astore_n j => pR st fun v r => gd (j < L.length) (nx (ix + 1) (st1 y L j (.ref v)) r h)
  | .lstore j => pJ st fun v r => gd (j + 1 < L.length ∧ c2 y j = true) (nx (ix + 1) (st2 y L j (.long v)) r h)
  | .lstore_n j => pJ st fun v r => gd (j + 1 < L.length ∧ c2 y j = true) (nx (ix + 1) (st2 y L j (.long v)) r h)
  | .iinc j n => g2 ((ldV L j).bind asI) fun v => gd (j < L.length) (nx (ix + 1) (st1 y L j (.int (v + Int32.ofInt n))) st h)
  | _ => none
def binA (ix : Nat) (i : Instr) (L : LL) (st : List Value) (h : AH) : Act :=
  match i with
  | .iadd => pI st fun y r => pI r fun x r => nx (ix + 1) L (.int (x + y) :: r) h
  | .isub => pI st fun y r => pI r fun x r => nx (ix + 1) L (.int (x - y) :: r) h
  | .imul => pI st fun y r => pI r fun x r => nx (ix + 1) L (.int (x * y) :: r) h
  | .idiv => pI st fun y r => pI r fun x r => gd (¬ y = 0) (nx (ix + 1) L (.int (x / y) :: r) h)
  | .irem => pI st fun y r => pI r fun x r => gd (¬ y = 0) (nx (ix + 1) L (.int (x - x / y * y) :: r) h)
  | .iand => pI st fun y r => pI r fun x r => nx (ix + 1) L (.int (x &&& y) :: r) h
  | .ior => pI st fun y r => pI r fun x r => nx (ix + 1) L (.int (x ||| y) :: r) h
  | .ixor => pI st fun y r => pI r fun x r => nx (ix + 1) L (.int (x ^^^ y) :: r) h
  | .ishl => pI st fun y r => pI r fun x r => nx (ix + 1) L (.int (x <<< (y &&& 31)) :: r) h
  | .ishr => pI st fun y r => pI r fun x r => nx (ix + 1) L (.int (x >>> (y &&& 31)) :: r) h
  | .iushr => pI st fun y r => pI r fun x r => nx (ix + 1) L (.int ((x.toUInt32 >>> (y.toUInt32 &&& Int32.toUInt32 31)).toInt32) :: r) h
  | .ineg => pI st fun x r => nx (ix + 1) L (.int (-x) :: r) h
  | .i2l => pI st fun x r => nx (ix + 1) L (.long x.toInt64 :: r) h
  | .l2i => pJ st fun x r => nx (ix + 1) L (.int x.toInt32 :: r) h
  | .i2b => pI st fun x r => nx (ix + 1) L (.int x.toInt8.toInt32 :: r) h
  | .i2s => pI st fun x r => nx (ix + 1) L (.int x.toInt16.toInt32 :: r) h
  | .land => pJ st fun y r => pJ r fun x r => nx (ix + 1) L (.long (x &&& y) :: r) h
  | .lor => pJ st fun y r => pJ r fun x r => nx (ix + 1) L (.long (x ||| y) :: r) h
  | .lmul => pJ st fun y r => pJ r fun x r => nx (ix + 1) L (.long (x * y) :: r) h
  | .ldiv => pJ st fun y r => pJ r fun x r => gd (¬ y = 0) (nx (ix + 1) L (.long (x / y) :: r) h)
  | .lrem => pJ st fun y r => pJ r fun x r => gd (¬ y = 0) (nx (ix + 1) L (.long (x - x / y * y) :: r) h)
  | .lshl => pI st fun y r => pJ r fun x r => nx (ix + 1) L (.long (x <<< (y.toInt64 &&& 63)) :: r) h
  | .lshr => pI st fun y r => pJ r fun x r => nx (ix + 1) L (.long (x >>> (y.toInt64 &&& 63)) :: r) h
  | .lcmp => pJ st fun y r => pJ r fun x r => nx (ix + 1) L (.int (lg_cmp x y) :: r) h
  | _ => none
def stkA (ix a b : Nat) (i : Instr) (L : LL) (st : List Value) (h : AH) : Act :=
  match i with
  | .iconst n => nx (ix + 1) L (.int (Int32.ofInt n) :: st) h
  | .bipush n => nx (ix + 1) L (.int (Int8.ofInt n).toInt32 :: st) h
  | .sipush n => nx (ix + 1) L (.int (Int16.ofInt n).toInt32 :: st) h
  | .lconst n => nx (ix + 1) L (.long (Int64.ofNat (n : Nat)) :: st) h
  | .ldc _ => if a = 0 then nx (ix + 1) L (.int (Int32.ofNat b) :: st) h else nx (ix + 1) L (.ref (hK h b) :: st) h
  | .ldc_w _ => nx (ix + 1) L (.int (Int32.ofNat b) :: st) h
  | .ldc2_w _ => nx (ix + 1) L (.long (Int64.ofNat b) :: st) h
  | .dup => pV st fun v r => nx (ix + 1) L (v :: v :: r) h
  | .pop => pV st fun _ r => nx (ix + 1) L r h
  | .dup_x1 => pV st fun v r => pV r fun w r => nx (ix + 1) L (v :: w :: v :: r) h
  | .dup2 => pV st fun v r => pV r fun w r => nx (ix + 1) L (v :: w :: v :: w :: r) h
  | _ => none
def jmpA (ix a : Nat) (ts : List Nat) (i : Instr) (L : LL) (st : List Value) (h : AH) : Act :=
  match i with
  | .goto _ => nx a L st h
  | .ifCond c _ => pI st fun x r => nx (if icc c x 0 = true then a else ix + 1) L r h
  | .if_icmp c _ => pI st fun y r => pI r fun x r => nx (if icc c x y = true then a else ix + 1) L r h
  | .ifnonnull _ => (match st with
    | .ref _ :: r => nx a L r h
    | .null :: r => nx (ix + 1) L r h
    | _ => none)
  | .tableswitch _ lo _ _ => pI st fun x r => nx (swT (ts.drop 1) lo x (ts.getD 0 0)) L r h
  | .lookupswitch _ ps => pI st fun x r => nx (swL ps.toList (ts.drop 1) x (ts.getD 0 0)) L r h
  | _ => none
/-- which of these speaks of an instruction -/
def kindOf (i : Instr) : Nat := match i with
  | .invokestatic _ | .invokevirtual _ | .invokespecial _ => 1
  | .ireturn | .lreturn | .areturn | .return_ => 2
  | .getfield _ | .putfield _ => 3
  | .iaload | .laload | .saload | .baload | .aaload | .iastore | .lastore | .sastore | .bastore | .aastore | .arraylength => 4
  | .new _ | .newarray _ | .anewarray _ | .multianewarray _ _ => 5
  | .iload _ | .iload_n _ | .lload _ | .lload_n _ | .aload _ | .aload_n _ | .istore _ | .istore_n _ | .astore _ | .astore_n _ | .lstore _ | .lstore_n _ | .iinc _ _ => 6
  | .iconst _ | .bipush _ | .sipush _ | .lconst _ | .ldc _ | .ldc_w _ | .ldc2_w _ | .dup | .pop | .dup_x1 | .dup2 => 7
  | .goto _ | .ifCond _ _ | .if_icmp _ _ | .ifnonnull _ | .tableswitch _ _ _ _ | .lookupswitch _ _ => 8
  | _ => 9
def opA (y ix : Nat) (q : AI) (L : LL) (st : List Value) (h : AH) : Act :=
  match kindOf q.2.1 with
  | 1 => invA y ix q.2.2.1 q.2.2.2.1 q.2.2.2.2.2 q.2.1 L st h
  | 2 => retA y q.2.1 st h
  | 3 => fldA ix q.2.2.1 q.2.2.2.1 q.2.1 L st h
  | 4 => arrA ix q.2.1 L st h
  | 5 => newA ix q.2.2.1 q.2.2.2.1 q.2.1 L st h
  | 6 => locA y ix q.2.1 L st h
  | 7 => stkA ix q.2.2.1 q.2.2.2.1 q.2.1 L st h
  | 8 => jmpA ix q.2.2.1 q.2.2.2.2.2 q.2.1 L st h
  | _ => binA ix q.2.1 L st h
def stepA (y ix : Nat) (L : LL) (st : List Value) (h : AH) : Act := match prog y ix with
  | some q => opA y ix q L st h
  | none => none
abbrev RecT : Type := Nat → Nat → Nat → LL → List Value → AH → Option RR
def stepE (rec : RecT) (d y ix : Nat) (L : LL) (st : List Value) (h : AH) : Option RR :=
  match stepA y ix L st h with
  | none => none
  | some (.inl q) => rec d y q.1 q.2.1 q.2.2.1 q.2.2.2
  | some (.inr (.inl q)) => (match d with
    | 0 => none
    | d' + 1 => (rec d' q.1 0 q.2.2.1 [] h).bind fun r => rec d y q.2.2.2.1 L (r.1.toList ++ q.2.2.2.2) r.2)
  | some (.inr (.inr r)) => some r
def run (n : Nat) : RecT := match n with
  | 0 => fun _ _ _ _ _ _ => none
  | n + 1 => stepE (run n)
theorem stepE_mono {f g : RecT} (hfg : ∀ d y ix L st h r, f d y ix L st h = some r → g d y ix L st h = some r) {d y ix : Nat} {L : LL} {st : List Value} {h : AH} {r : RR} (hr : stepE f d y ix L st h = some r) : stepE g d y ix L st h = some r := by
  unfold stepE at hr ⊢
  split at hr
  · cases hr
  · exact hfg _ _ _ _ _ _ _ hr
  · split at hr
    · cases hr
    · rename_i d' 
      obtain ⟨r1, h1, h2⟩ := Option.bind_eq_some_iff.mp hr
      exact Option.bind_eq_some_iff.mpr ⟨r1, hfg _ _ _ _ _ _ _ h1, hfg _ _ _ _ _ _ _ h2⟩
  · exact hr
theorem run_succ {n : Nat} : ∀ {d y ix : Nat} {L : LL} {st : List Value} {h : AH} {r : RR}, run n d y ix L st h = some r → run (n + 1) d y ix L st h = some r := by
  induction n with
  | zero => intro d y ix L st h r hr; cases hr
  | succ n ih => intro d y ix L st h r hr; exact stepE_mono (fun _ _ _ _ _ _ _ => ih) hr
theorem run_le {n m : Nat} (hnm : n ≤ m) {d y ix : Nat} {L : LL} {st : List Value} {h : AH} {r : RR} (hr : run n d y ix L st h = some r) : run m d y ix L st h = some r := by
  induction hnm with
  | refl => exact hr
  | step _ ih => exact run_succ ih
/-- what a method comes to from a place on, however long it takes -/
noncomputable def E : RecT := fun d y ix L st h => @dite _ (∃ n, (run n d y ix L st h).isSome = true) (Classical.propDecidable _) (fun q => run (Classical.choose q) d y ix L st h) (fun _ => none)
theorem E_iff {d y ix : Nat} {L : LL} {st : List Value} {h : AH} {r : RR} : E d y ix L st h = some r ↔ ∃ n, run n d y ix L st h = some r := by
  unfold E
  by_cases q : ∃ n, (run n d y ix L st h).isSome = true
  · rw [dif_pos q]
    constructor
    · intro hr; exact ⟨_, hr⟩
    · intro ⟨n, hn⟩
      have hc := Classical.choose_spec q
      obtain ⟨r', hr'⟩ := Option.isSome_iff_exists.mp hc
      have h1 := run_le (Nat.le_max_left n (Classical.choose q)) hn
      have h2 := run_le (Nat.le_max_right n (Classical.choose q)) hr'
      rw [h1] at h2
      rw [hr', ← h2]
  · rw [dif_neg q]
    constructor
    · intro hr; cases hr
    · intro ⟨n, hn⟩
      exact absurd ⟨n, by rw [hn]; rfl⟩ q
theorem E_step (d y ix : Nat) (L : LL) (st : List Value) (h : AH) : E d y ix L st h = stepE E d y ix L st h := by
  apply Option.ext
  intro r
  rw [E_iff]
  constructor
  · intro ⟨n, hn⟩
    cases n with
    | zero => cases hn
    | succ n => exact stepE_mono (fun _ _ _ _ _ _ _ q => E_iff.mpr ⟨n, q⟩) hn
  · intro hr
    unfold stepE at hr
    split at hr
    · cases hr
    · rename_i q hq
      obtain ⟨n, hn⟩ := E_iff.mp hr
      exact ⟨n + 1, by show stepE (run n) d y ix L st h = some r; unfold stepE; rw [hq]; exact hn⟩
    · rename_i q hq
      split at hr
      · cases hr
      · rename_i d'
        obtain ⟨r1, h1, h2⟩ := Option.bind_eq_some_iff.mp hr
        obtain ⟨n1, hn1⟩ := E_iff.mp h1
        obtain ⟨n2, hn2⟩ := E_iff.mp h2
        refine ⟨max n1 n2 + 1, ?_⟩
        show stepE (run (max n1 n2)) (d' + 1) y ix L st h = some r
        unfold stepE
        rw [hq]
        exact Option.bind_eq_some_iff.mpr ⟨r1, run_le (Nat.le_max_left _ _) hn1, run_le (Nat.le_max_right _ _) hn2⟩
    · rename_i q hq
      cases hr
      exact ⟨1, by show stepE (run 0) d y ix L st h = some _; unfold stepE; rw [hq]⟩
theorem E_nx {d y ix ix' : Nat} {L L' : LL} {st st' : List Value} {h h' : AH} (hq : stepA y ix L st h = nx ix' L' st' h') : E d y ix L st h = E d y ix' L' st' h' := by
  rw [E_step]; unfold stepE; rw [hq]; rfl
theorem E_none {d y ix : Nat} {L : LL} {st : List Value} {h : AH} (hq : stepA y ix L st h = none) : E d y ix L st h = none := by
  rw [E_step]; unfold stepE; rw [hq]
theorem E_ret {d y ix : Nat} {L : LL} {st : List Value} {h : AH} {r : RR} (hq : stepA y ix L st h = some (.inr (.inr r))) : E d y ix L st h = some r := by
  rw [E_step]; unfold stepE; rw [hq]
theorem E_call {d y ix z ix' : Nat} {L L0 : LL} {st as rest : List Value} {h : AH} (hq : stepA y ix L st h = some (.inr (.inl (z, as, L0, ix', rest)))) : E (d + 1) y ix L st h = (E d z 0 L0 [] h).bind fun r => E (d + 1) y ix' L (r.1.toList ++ rest) r.2 := by
  rw [E_step]; unfold stepE; rw [hq]
theorem E_gd {d y ix ix' : Nat} {L L' : LL} {st st' : List Value} {h h' : AH} {c : Prop} [Decidable c] (hq : stepA y ix L st h = gd c (nx ix' L' st' h')) : E d y ix L st h = if c then E d y ix' L' st' h' else none := by
  by_cases hc : c
  · rw [if_pos hc]; refine E_nx (hq.trans ?_); unfold gd; rw [if_pos hc]
  · rw [if_neg hc]; refine E_none (hq.trans ?_); unfold gd; rw [if_neg hc]
theorem E_if {d y ix a b : Nat} {L L' : LL} {st st' : List Value} {h h' : AH} {c : Bool} (hq : stepA y ix L st h = nx (if c = true then a else b) L' st' h') : E d y ix L st h = if c = true then E d y a L' st' h' else E d y b L' st' h' := by
  rw [E_nx hq]; split <;> rfl
