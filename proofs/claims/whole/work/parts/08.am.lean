def wI (w : AW) (a j : Nat) : Int := w.2.1 a j
def wL (w : AW) (a j : Nat) : Int := w.2.2.1 a j
def wR (w : AW) (a j : Nat) : Option Nat := w.2.2.2 a j
def uI (w : AW) (a j : Nat) (x : Int) : AW := (w.1, (fun b i => if b = a ∧ i = j then x else w.2.1 b i), w.2.2.1, w.2.2.2)
def uL (w : AW) (a j : Nat) (x : Int) : AW := (w.1, w.2.1, (fun b i => if b = a ∧ i = j then x else w.2.2.1 b i), w.2.2.2)
def uR (w : AW) (a j : Nat) (x : Option Nat) : AW := (w.1, w.2.1, w.2.2.1, (fun b i => if b = a ∧ i = j then x else w.2.2.2 b i))
/-- one more cell, all zero -/
def uN (w : AW) (q : Nat × Nat × Nat) : AW := (w.1 ++ [q], (fun b i => if b = w.1.length then 0 else w.2.1 b i), (fun b i => if b = w.1.length then 0 else w.2.2.1 b i), (fun b i => if b = w.1.length then none else w.2.2.2 b i))
/-- how many cells, how many slots -/
def cN (w : AW) : Nat := w.1.length
def sN (w : AW) : Nat := (w.1.map (fun q => q.2.2)).sum
def i32 (x : Int) : Prop := -2147483648 ≤ x ∧ x ≤ 2147483647
def i64 (x : Int) : Prop := -9223372036854775808 ≤ x ∧ x ≤ 9223372036854775807
def w32 (x : Int) : Int := Int.bmod x 4294967296
def w64 (x : Int) : Int := Int.bmod x 18446744073709551616
def bAnd (x y : Int) : Int := (Int32.ofInt x &&& Int32.ofInt y).toInt
def bOr (x y : Int) : Int := (Int32.ofInt x ||| Int32.ofInt y).toInt
def bXor (x y : Int) : Int := (Int32.ofInt x ^^^ Int32.ofInt y).toInt
def bShl (x y : Int) : Int := (Int32.ofInt x <<< (Int32.ofInt y &&& 31)).toInt
def bShr (x y : Int) : Int := (Int32.ofInt x >>> (Int32.ofInt y &&& 31)).toInt
def bUshr (x y : Int) : Int := ((Int32.ofInt x).toUInt32 >>> ((Int32.ofInt y).toUInt32 &&& Int32.toUInt32 31)).toInt32.toInt
def lAnd (x y : Int) : Int := (Int64.ofInt x &&& Int64.ofInt y).toInt
def lOr (x y : Int) : Int := (Int64.ofInt x ||| Int64.ofInt y).toInt
def lXor (x y : Int) : Int := (Int64.ofInt x ^^^ Int64.ofInt y).toInt
def lShl (x y : Int) : Int := (Int64.ofInt x <<< ((Int32.ofInt y).toInt64 &&& 63)).toInt
def lShr (x y : Int) : Int := (Int64.ofInt x >>> ((Int32.ofInt y).toInt64 &&& 63)).toInt
def lUshr (x y : Int) : Int := ((Int64.ofInt x).toUInt64 >>> ((Int32.ofInt y).toInt64.toUInt64 &&& Int64.toUInt64 63)).toInt64.toInt
def lCmp (x y : Int) : Int := if x < y then -1 else if x = y then 0 else 1
def iMax (x y : Int) : Int := if x < y then y else x
def lMax (x y : Int) : Int := if y < x then x else y
def c16 (x : Int) : Int := ((Int32.ofInt x).toUInt32 % 65536).toInt32.toInt
def kL (lv : List (Option AV)) (i : Nat) : List (Option AV) := match lv[i]? with
  | some (some (Sum.inr (Sum.inl _))) => lv.set i none
  | _ => lv
/-- locals behind a store of one word, of two -/
def s1 (lv : List (Option AV)) (i : Nat) (v : AV) : List (Option AV) := (match i with
  | 0 => lv
  | j + 1 => kL lv j).set i (some v)
def s2 (lv : List (Option AV)) (i : Nat) (v : AV) : List (Option AV) := ((match i with
  | 0 => lv
  | j + 1 => kL lv j).set (i + 1) none).set i (some v)
def cat (v : AV) : Nat := match v with
  | Sum.inr (Sum.inl _) => 2
  | _ => 1
def catS (st : List AV) : Nat := (st.map cat).sum
/-- the kinds of a class's fields: 0 int, 1 boolean, 2 long, 3 a reference -/
def fT (ci j : Nat) : Nat := (fTL.getD ci []).getD j 0
def rg (a b x : Int) : Bool := decide (a ≤ x) && decide (x ≤ b)
def tgt (pc : Nat) (off : Int) : Nat := ((pc : Int) + off).toNat
def lInt (lv : List (Option AV)) (i : Nat) : Option Int := match lv[i]? with
  | some (some (Sum.inl x)) => some x
  | _ => none
def lLng (lv : List (Option AV)) (i : Nat) : Option Int := match lv[i]? with
  | some (some (Sum.inr (Sum.inl x))) => some x
  | _ => none
def lRef (lv : List (Option AV)) (i : Nat) : Option Nat := match lv[i]? with
  | some (some (Sum.inr (Sum.inr (some x)))) => if x < 5000 then some x else none
  | _ => none
def fGv (w : AW) (r a b : Nat) : AV := match fT a b with
  | 0 => vI (wI w r b)
  | 1 => vI (wI w r b)
  | 2 => vL (wL w r b)
  | _ => vO (wR w r b)
def fGet (w : AW) (st : List AV) (a b : Nat) : Option (List AV) := match st with
  | Sum.inr (Sum.inr (some r)) :: st =>
    if a = 100 then (if 2000 ≤ r ∧ r < 2010 then some ((if b = 0 then vR (r + 1000) else vI 0) :: st) else none) else
    match w.1[r]? with
    | some (0, ci, n) => if ci = a ∧ b < n then some (fGv w r a b :: st) else none
    | _ => none
  | _ => none
def fPut (w : AW) (st : List AV) (a b : Nat) : Option (List Prop × List AV × AW) := match st with
  | v :: Sum.inr (Sum.inr (some r)) :: st =>
    match w.1[r]? with
    | some (0, ci, n) => if ci = a ∧ b < n then (match fT a b, v with
      | 0, Sum.inl x => some ([], st, uI w r b x)
      | 1, Sum.inl x => some ([x = 0 ∨ x = 1], st, uI w r b x)
      | 2, Sum.inr (Sum.inl x) => some ([], st, uL w r b x)
      | 3, Sum.inr (Sum.inr x) => some ([], st, uR w r b x)
      | _, _ => none) else none
    | _ => none
  | _ => none
def aGet (E : AX) (w : AW) (st : List AV) (t : Nat) : Option (List Prop × List AV) := match st with
  | Sum.inl i :: Sum.inr (Sum.inr (some r)) :: st =>
    match w.1[r]? with
    | some (1, ty, n) => if ty = t then some ([0 ≤ i ∧ i < (n : Int)], (if t = 2 then vL (wL w r i.toNat) else vI (wI w r i.toNat)) :: st) else none
    | some _ => none
    | none => if r = 1000 ∧ t = 0 then some ([0 ≤ i ∧ i < (E.1 : Int)], vI (E.2 i.toNat).toInt :: st) else
      if 3000 ≤ r ∧ r < 3010 ∧ t = 1 then some ([0 ≤ i ∧ i < ((strB.getD (r - 3000) []).length : Int)], vI ((strB.getD (r - 3000) []).getD i.toNat 0) :: st) else none
  | _ => none
def aPut (w : AW) (st : List AV) (t : Nat) : Option (List Prop × List AV × AW) := match st with
  | v :: Sum.inl i :: Sum.inr (Sum.inr (some r)) :: st =>
    match w.1[r]? with
    | some (1, ty, n) => if ty = t then (match t, v with
      | 0, Sum.inl x => some ([0 ≤ i ∧ i < (n : Int)], st, uI w r i.toNat x)
      | 1, Sum.inl x => some ([0 ≤ i ∧ i < (n : Int), x = 0 ∨ x = 1], st, uI w r i.toNat x)
      | 2, Sum.inr (Sum.inl x) => some ([0 ≤ i ∧ i < (n : Int)], st, uL w r i.toNat x)
      | _, _ => none) else none
    | _ => none
  | _ => none
def aLen (E : AX) (w : AW) (st : List AV) : Option (List Prop × List AV) := match st with
  | Sum.inr (Sum.inr (some r)) :: st =>
    match w.1[r]? with
    | some (1, _, n) => if n < 100000 then some ([], vI (n : Int) :: st) else none
    | some _ => none
    | none => if r = 1000 then some ([E.1 < 100000], vI (E.1 : Int) :: st) else if 3000 ≤ r ∧ r < 3010 then some ([], vI ((strB.getD (r - 3000) []).length : Int) :: st) else none
  | _ => none
/-- one instruction that goes on: what it asks, and the state behind it -/
def ex (E : AX) (e : AE) (pc : Nat) (lv : List (Option AV)) (st : List AV) (w : AW) : Option (List Prop × AS) :=
  match e.2.1 with
  | .iconst n => if rg (-128) 127 n = true then some ([], pc + 1, lv, vI n :: st, w) else none
  | .bipush n => if rg (-128) 127 n = true then some ([], pc + 2, lv, vI n :: st, w) else none
  | .sipush n => if rg (-32768) 32767 n = true then some ([], pc + 3, lv, vI n :: st, w) else none
  | .lconst n => some ([], pc + 1, lv, vL ((n : Nat) : Int) :: st, w)
  | .ldc _ => if e.2.2.2.2.1 = 0 then (if rg (-2147483648) 2147483647 e.2.2.2.1 = true then some ([], pc + 2, lv, vI e.2.2.2.1 :: st, w) else none) else if e.2.2.2.2.2 < 10 then some ([], pc + 2, lv, vR (2000 + e.2.2.2.2.2) :: st, w) else none
  | .ldc_w _ => if rg (-2147483648) 2147483647 e.2.2.2.1 = true then some ([], pc + 3, lv, vI e.2.2.2.1 :: st, w) else none
  | .ldc2_w _ => if rg (-9223372036854775808) 9223372036854775807 e.2.2.2.1 = true then some ([], pc + 3, lv, vL e.2.2.2.1 :: st, w) else none
  | .iload i => (lInt lv i).map (fun x => ([], pc + 2, lv, vI x :: st, w))
  | .iload_n i => (lInt lv i).map (fun x => ([], pc + 1, lv, vI x :: st, w))
  | .lload i => (lLng lv i).map (fun x => ([], pc + 2, lv, vL x :: st, w))
  | .lload_n i => (lLng lv i).map (fun x => ([], pc + 1, lv, vL x :: st, w))
  | .aload i => (lRef lv i).map (fun x => ([], pc + 2, lv, vR x :: st, w))
  | .aload_n i => (lRef lv i).map (fun x => ([], pc + 1, lv, vR x :: st, w))
  | .istore i => match st with
    | Sum.inl x :: st => if (i : Nat) < lv.length then some ([], pc + 2, s1 lv i (vI x), st, w) else none
    | _ => none
  | .istore_n i => match st with
    | Sum.inl x :: st => if (i : Nat) < lv.length then some ([], pc + 1, s1 lv i (vI x), st, w) else none
    | _ => none
  | .lstore i => match st with
    | Sum.inr (Sum.inl x) :: st => if (i : Nat) + 1 < lv.length then some ([], pc + 2, s2 lv i (vL x), st, w) else none
    | _ => none
  | .lstore_n i => match st with
    | Sum.inr (Sum.inl x) :: st => if (i : Nat) + 1 < lv.length then some ([], pc + 1, s2 lv i (vL x), st, w) else none
    | _ => none
  | .astore i => match st with
    | Sum.inr (Sum.inr (some x)) :: st => if x < 5000 ∧ (i : Nat) < lv.length then some ([], pc + 2, s1 lv i (vR x), st, w) else none
    | _ => none
  | .astore_n i => match st with
    | Sum.inr (Sum.inr (some x)) :: st => if x < 5000 ∧ (i : Nat) < lv.length then some ([], pc + 1, s1 lv i (vR x), st, w) else none
    | _ => none
  | .iinc i n => (lInt lv i).map (fun x => ([i32 (x + n)], pc + 3, s1 lv i (vI (x + n)), st, w))
  | .iadd => match st with
    | Sum.inl y :: Sum.inl x :: st => if e.2.2.2.1 = 0 then some ([i32 (x + y)], pc + 1, lv, vI (x + y) :: st, w) else some ([], pc + 1, lv, vI (w32 (x + y)) :: st, w)
    | _ => none
  | .isub => match st with
    | Sum.inl y :: Sum.inl x :: st => if e.2.2.2.1 = 0 then some ([i32 (x - y)], pc + 1, lv, vI (x - y) :: st, w) else some ([], pc + 1, lv, vI (w32 (x - y)) :: st, w)
    | _ => none
  | .imul => match st with
    | Sum.inl y :: Sum.inl x :: st => if e.2.2.2.1 = 0 then some ([i32 (x * y)], pc + 1, lv, vI (x * y) :: st, w) else some ([], pc + 1, lv, vI (w32 (x * y)) :: st, w)
    | _ => none
  | .ineg => match st with
    | Sum.inl x :: st => some ([i32 (-x)], pc + 1, lv, vI (-x) :: st, w)
    | _ => none
  | .iand => match st with
    | Sum.inl y :: Sum.inl x :: st => some ([], pc + 1, lv, vI (bAnd x y) :: st, w)
    | _ => none
  | .ior => match st with
    | Sum.inl y :: Sum.inl x :: st => some ([], pc + 1, lv, vI (bOr x y) :: st, w)
    | _ => none
  | .ixor => match st with
    | Sum.inl y :: Sum.inl x :: st => some ([], pc + 1, lv, vI (bXor x y) :: st, w)
    | _ => none
  | .ishl => match st with
    | Sum.inl y :: Sum.inl x :: st => some ([], pc + 1, lv, vI (bShl x y) :: st, w)
    | _ => none
  | .ishr => match st with
    | Sum.inl y :: Sum.inl x :: st => some ([], pc + 1, lv, vI (bShr x y) :: st, w)
    | _ => none
  | .iushr => match st with
    | Sum.inl y :: Sum.inl x :: st => some ([], pc + 1, lv, vI (bUshr x y) :: st, w)
    | _ => none
  | .ladd => match st with
    | Sum.inr (Sum.inl y) :: Sum.inr (Sum.inl x) :: st => some ([i64 (x + y)], pc + 1, lv, vL (x + y) :: st, w)
    | _ => none
  | .lsub => match st with
    | Sum.inr (Sum.inl y) :: Sum.inr (Sum.inl x) :: st => some ([i64 (x - y)], pc + 1, lv, vL (x - y) :: st, w)
    | _ => none
  | .lmul => match st with
    | Sum.inr (Sum.inl y) :: Sum.inr (Sum.inl x) :: st => some ([i64 (x * y)], pc + 1, lv, vL (x * y) :: st, w)
    | _ => none
  | .land => match st with
    | Sum.inr (Sum.inl y) :: Sum.inr (Sum.inl x) :: st => some ([], pc + 1, lv, vL (lAnd x y) :: st, w)
    | _ => none
  | .lor => match st with
    | Sum.inr (Sum.inl y) :: Sum.inr (Sum.inl x) :: st => some ([], pc + 1, lv, vL (lOr x y) :: st, w)
    | _ => none
  | .lxor => match st with
    | Sum.inr (Sum.inl y) :: Sum.inr (Sum.inl x) :: st => some ([], pc + 1, lv, vL (lXor x y) :: st, w)
    | _ => none
  | .lshl => match st with
    | Sum.inl y :: Sum.inr (Sum.inl x) :: st => some ([], pc + 1, lv, vL (lShl x y) :: st, w)
    | _ => none
  | .lshr => match st with
    | Sum.inl y :: Sum.inr (Sum.inl x) :: st => some ([], pc + 1, lv, vL (lShr x y) :: st, w)
    | _ => none
  | .lushr => match st with
    | Sum.inl y :: Sum.inr (Sum.inl x) :: st => some ([], pc + 1, lv, vL (lUshr x y) :: st, w)
    | _ => none
  | .lcmp => match st with
    | Sum.inr (Sum.inl y) :: Sum.inr (Sum.inl x) :: st => some ([], pc + 1, lv, vI (lCmp x y) :: st, w)
    | _ => none
  | .i2l => match st with
    | Sum.inl x :: st => some ([], pc + 1, lv, vL x :: st, w)
    | _ => none
  | .l2i => match st with
    | Sum.inr (Sum.inl x) :: st => some ([], pc + 1, lv, vI (w32 x) :: st, w)
    | _ => none
  | .i2c => match st with
    | Sum.inl x :: st => some ([], pc + 1, lv, vI (c16 x) :: st, w)
    | _ => none
  | .dup => match st with
    | v :: st => if cat v = 1 then some ([], pc + 1, lv, v :: v :: st, w) else none
    | _ => none
  | .dup2 => match st with
    | v :: u :: st => if cat v = 1 ∧ cat u = 1 then some ([], pc + 1, lv, v :: u :: v :: u :: st, w) else none
    | _ => none
  | .pop => match st with
    | v :: st => if cat v = 1 then some ([], pc + 1, lv, st, w) else none
    | _ => none
  | .goto off => if 0 ≤ (pc : Int) + off then some ([], tgt pc off, lv, st, w) else none
  | .getfield _ => (fGet w st e.2.2.2.2.1 e.2.2.2.2.2).map (fun st => ([], pc + 3, lv, st, w))
  | .getstatic _ => if e.2.2.2.2.1 = 0 then some ([], pc + 3, lv, vI 1 :: st, w) else if e.2.2.2.2.1 = 1 then some ([], pc + 3, lv, vR 5000 :: st, w) else none
  | .putfield _ => (fPut w st e.2.2.2.2.1 e.2.2.2.2.2).map (fun q => (q.1, pc + 3, lv, q.2.1, q.2.2))
  | .iaload => (aGet E w st 0).map (fun q => (q.1, pc + 1, lv, q.2, w))
  | .baload => (aGet E w st 1).map (fun q => (q.1, pc + 1, lv, q.2, w))
  | .laload => (aGet E w st 2).map (fun q => (q.1, pc + 1, lv, q.2, w))
  | .iastore => (aPut w st 0).map (fun q => (q.1, pc + 1, lv, q.2.1, q.2.2))
  | .bastore => (aPut w st 1).map (fun q => (q.1, pc + 1, lv, q.2.1, q.2.2))
  | .lastore => (aPut w st 2).map (fun q => (q.1, pc + 1, lv, q.2.1, q.2.2))
  | .arraylength => (aLen E w st).map (fun q => (q.1, pc + 1, lv, q.2, w))
  | .invokespecial _ => if e.2.2.2.2.1 = 990 then (match st with
    | Sum.inr (Sum.inr (some r)) :: st => if r < 5000 ∧ catS st ≤ 8 then some ([], pc + 3, lv, st, w) else none
    | _ => none) else none
  | .invokestatic _ => if e.2.2.2.2.1 = 991 then (match st with
    | Sum.inl y :: Sum.inl x :: st => if catS st ≤ 8 then some ([], pc + 3, lv, vI (iMax x y) :: st, w) else none
    | _ => none) else if e.2.2.2.2.1 = 992 then (match st with
    | Sum.inr (Sum.inl y) :: Sum.inr (Sum.inl x) :: st => if catS st ≤ 8 then some ([], pc + 3, lv, vL (lMax x y) :: st, w) else none
    | _ => none) else none
  | _ => none
/-- how long an instruction is (those of a fixed length) -/
def il (i : Instr) : Nat := match i with
  | .bipush _ => 2
  | .sipush _ => 3
  | .ldc _ => 2
  | .ldc_w _ => 3
  | .ldc2_w _ => 3
  | .iload _ => 2
  | .lload _ => 2
  | .aload _ => 2
  | .istore _ => 2
  | .lstore _ => 2
  | .astore _ => 2
  | .iinc _ _ => 3
  | .goto _ => 3
  | .ifCond _ _ => 3
  | .if_icmp _ _ => 3
  | .getfield _ => 3
  | .putfield _ => 3
  | .getstatic _ => 3
  | .invokevirtual _ => 3
  | .invokespecial _ => 3
  | .invokestatic _ => 3
  | .new _ => 3
  | .newarray _ => 2
  | _ => 1
def nx (E : AX) (cs : List AE) (t : AS) : Option (List Prop × AS) := match en cs t.1 with
  | none => none
  | some e => if Nat.beq e.2.2.1 (il e.2.1) = true then ex E e t.1 t.2.1 t.2.2.1 t.2.2.2 else none
def rn (E : AX) (cs : List AE) : Nat → AS → Option (List Prop × AS)
  | 0, t => some ([], t)
  | n + 1, t => match nx E cs t with
    | none => none
    | some (ps, t') => match rn E cs n t' with
      | none => none
      | some (qs, t'') => some (ps ++ qs, t'')
def all_ : List Prop → Prop
  | [] => True
  | [p] => p
  | p :: q :: ps => p ∧ all_ (q :: ps)
def cz (c : ClassFile.Cond) (x : Int) : Prop := match c with
  | .eq => x = 0
  | .ne => x ≠ 0
  | .lt => x < 0
  | .ge => 0 ≤ x
  | .gt => 0 < x
  | .le => x ≤ 0
def cc_ (c : ClassFile.Cond) (x y : Int) : Prop := match c with
  | .eq => x = y
  | .ne => x ≠ y
  | .lt => x < y
  | .ge => y ≤ x
  | .gt => y < x
  | .le => x ≤ y
/-- a branch: its condition, the two states -/
def bcE (e : AE) (pc : Nat) (lv : List (Option AV)) (st : List AV) (w : AW) : Option (Prop × AS × AS) :=
  match e.2.1, st with
  | .ifCond c off, Sum.inl x :: st => if 0 ≤ (pc : Int) + off then some (cz c x, (tgt pc off, lv, st, w), (pc + 3, lv, st, w)) else none
  | .if_icmp c off, Sum.inl y :: Sum.inl x :: st => if 0 ≤ (pc : Int) + off then some (cc_ c x y, (tgt pc off, lv, st, w), (pc + 3, lv, st, w)) else none
  | _, _ => none
def bc (cs : List AE) (t : AS) : Option (Prop × AS × AS) := match en cs t.1 with
  | none => none
  | some e => if Nat.beq e.2.2.1 (il e.2.1) = true then bcE e t.1 t.2.1 t.2.2.1 t.2.2.2 else none
