-- THE SMALL MACHINE: values, names of the world's objects, a flat memory of numbers, one step after another
abbrev MN : Type := Nat × Nat × Nat
abbrev MV : Type := Int32 ⊕ (Int64 ⊕ MN)
abbrev MM : Type := (Nat → Nat → Int32) × Int64
abbrev MR : Type := Option (MM × Option MV)
abbrev MF : Type := MM → List MV → MR
abbrev MI : Type := Nat × Nat × Nat × Nat × Int32 × Int64 × List (Int32 × Nat)
abbrev ML : Type := List (Nat × MV)
def mv (ad : MN → Nat) : MV → Value
  | .inl x => .int x
  | .inr (.inl x) => .long x
  | .inr (.inr q) => .ref (ad q)
def mcat : MV → Nat
  | .inr (.inl _) => 2
  | _ => 1
-- tags: 0 shop, 1 pages, 2 books i, 3 varieties i, 4 labels i, 5 lots i, 6 tanks i, 7 sums i, 8 variety i j, 9 label i j, 10 bottled i j, 11 lot i j, 12 tank i j (the trial is tank 8 0), 13 script, 14 text, 15 rows, 16 model, 17 s, 18 past, 19 kept, 20 text of the model, 21 commands; 22 the law's script; 23 strings
/-- what kind of cell: the class's number, or 100 ints, 101 chars, 102 bytes, 103 references -/
def mKc (t : Nat) : Nat := match t with
  | 0 => 6
  | 1 => 103
  | 2 => 0
  | 3 => 103
  | 4 => 103
  | 5 => 103
  | 6 => 103
  | 7 => 100
  | 8 => 5
  | 9 => 1
  | 10 => 100
  | 11 => 2
  | 12 => 4
  | 13 => 3
  | 14 => 101
  | 15 => 100
  | _ => 200
def mSz (t : Nat) : Nat := match t with
  | 0 => 6
  | 1 => 8
  | 2 => 14
  | 3 => 6
  | 4 => 4
  | 5 => 8
  | 6 => 6
  | 7 => 7
  | 8 => 3
  | 9 => 6
  | 10 => 11
  | 11 => 2
  | 12 => 7
  | 13 => 5
  | 14 => 100
  | 15 => 125
  | _ => 0
/-- the component type of an array -/
def mTy (t : Nat) : FieldType := match t with
  | 1 => .object RX0
  | 3 => .object RX5
  | 4 => .object RX1
  | 5 => .object RX2
  | 6 => .object RX4
  | 14 => .char
  | _ => .int
/-- where a slot refers to, if it does -/
def mRf (q : MN) (k : Nat) : Option MN := match q.1 with
  | 0 => match k with
    | 0 => some (1, 0, 0)
    | 1 => some (12, 8, 0)
    | 2 => some (13, 0, 0)
    | _ => none
  | 1 => some (2, k, 0)
  | 2 => match k with
    | 9 => some (3, q.2.1, 0)
    | 10 => some (4, q.2.1, 0)
    | 11 => some (5, q.2.1, 0)
    | 12 => some (6, q.2.1, 0)
    | 13 => some (7, q.2.1, 0)
    | _ => none
  | 3 => some (8, q.2.1, k)
  | 4 => some (9, q.2.1, k)
  | 5 => some (11, q.2.1, k)
  | 6 => some (12, q.2.1, k)
  | 9 => match k with
    | 5 => some (10, q.2.1, q.2.2)
    | _ => none
  | 13 => match k with
    | 0 => some (14, 0, 0)
    | 4 => some (15, 0, 0)
    | _ => none
  | _ => none
/-- a slot's place in the flat memory: region, offset. A page i is region i, in the model's order; 151 + j all bottles of a label, 155 the refusal -/
def mFl (q : MN) (k : Nat) : Nat × Nat := match q.1 with
  | 0 => (12, k)
  | 2 => match k with
    | 0 => (q.2.1, 18)
    | 1 => (q.2.1, 19)
    | 2 => (q.2.1, 20)
    | 3 => (q.2.1, 21)
    | 4 => (q.2.1, 42)
    | 5 => (q.2.1, 59)
    | 6 => (q.2.1, 102)
    | 7 => (q.2.1, 103)
    | _ => (q.2.1, 155)
  | 7 => (q.2.1, 104 + k)
  | 8 => (q.2.1, 3 * q.2.2 + k)
  | 9 => (q.2.1, 22 + 5 * q.2.2 + k)
  | 10 => (q.2.1, if k = 0 then 151 + q.2.2 else 110 + 10 * q.2.2 + k)
  | 11 => (q.2.1, 43 + 2 * q.2.2 + k)
  | 12 => (q.2.1, 60 + 7 * q.2.2 + k)
  | 13 => (9, k)
  | 14 => (10, k)
  | _ => (11, k)
def mGet (v : MM) (q : MN) (k : Nat) : MV := match mRf q k with
  | some y => .inr (.inr y)
  | none => .inl (v.1 (mFl q k).1 (mFl q k).2)
def mUp (v : MM) (p : Nat × Nat) (x : Int32) : MM := (fun r o => if r = p.1 ∧ o = p.2 then x else v.1 r o, v.2)
/-- all places of a copied row -/
def mIs (q : MN) (r o : Nat) : Bool := match q.1 with
  | 7 => decide (r = q.2.1 ∧ 104 ≤ o ∧ o < 111)
  | _ => decide (r = q.2.1 ∧ (o = 151 + q.2.2 ∨ (111 + 10 * q.2.2 ≤ o ∧ o < 121 + 10 * q.2.2)))
def mCpy (v : MM) (i : Nat) (d : MN) : MM := (fun r o => if mIs d r o = true then v.1 i o else v.1 r o, v.2)
abbrev mIn (k : Int32) (n : Nat) : Prop := 0 ≤ k ∧ k.toNatClampNeg < n
def lk : ML → Nat → Option MV
  | [], _ => none
  | (j, w) :: l, i => match Nat.beq j i with
    | true => some w
    | false => lk l i
def sto1 (l : ML) (a : Nat) (w : MV) : ML := (a, w) :: l.filter (fun q => !(q.1 == a) && !(q.1 + 1 == a && mcat q.2 == 2))
def sto2 (l : ML) (a : Nat) (w : MV) : ML := (a, w) :: l.filter (fun q => !(q.1 == a) && (!(q.1 == a + 1) && !(q.1 + 1 == a && mcat q.2 == 2)))
def nth : List MI → Nat → Option MI
  | [], _ => none
  | a :: _, 0 => some a
  | _ :: l, k + 1 => nth l k
/-- behind a call that answers an int, nothing, a reference -/
def bI (o : MR) (k : MM → Int32 → MR) : MR := match o with
  | some (v, some (.inl x)) => k v x
  | _ => none
def bV (o : MR) (k : MM → MR) : MR := match o with
  | some (v, none) => k v
  | _ => none
def bN (o : MR) (k : MM → MN → MR) : MR := match o with
  | some (v, some (.inr (.inr q))) => k v q
  | _ => none
def bL (o : MR) (k : MM → Int64 → MR) : MR := match o with
  | some (v, some (.inr (.inl x))) => k v x
  | _ => none
def mcats (st : List MV) : Nat := (st.map mcat).sum
/-- a receiver is of the class that its call names -/
def mRcv (tb : List (Int32 × Nat)) (as : List MV) : Bool := match tb with
  | [] => true
  | (_, k) :: _ => match as.getLast? with
    | some (.inr (.inr q)) => Nat.beq (mKc q.1) k
    | _ => false
def swt (x : Int32) (d : Nat) : List (Int32 × Nat) → (Nat → MR) → MR
  | [], k => k d
  | (y, t) :: l, k => if x = y then k t else swt x d l k
def ibin (b : Nat) (p q : Int32) : Int32 := match b with
  | 0 => p + q
  | 1 => p - q
  | 2 => p * q
  | 3 => p &&& q
  | 4 => p >>> (q &&& 31)
  | _ => p
def lbin (b : Nat) (p q : Int64) : Int64 := match b with
  | 0 => p + q
  | 1 => p - q
  | 2 => p * q
  | _ => p
def iun (b : Nat) (p : Int32) : Int32 := match b with
  | 0 => -p
  | 1 => p.toInt8.toInt32
  | 2 => (p.toUInt32 % 65536).toInt32
  | _ => p
/-- one instruction, and what goes on behind it -/
def stI (F : Nat → MF) (K : Nat → ML → List MV → MM → MR) (i : Nat) (loc : ML) (st : List MV) (v : MM) (m : MI) : MR := match m with
  | (op, a, b, c, x, y, tb) => match op with
    -- constants
    | 0 => K (i + 1) loc (.inl x :: st) v
    | 1 => K (i + 1) loc (.inl x :: st) v
    | 2 => K (i + 1) loc (.inl x :: st) v
    | 3 => K (i + 1) loc (.inr (.inl y) :: st) v
    | 4 => K (i + 1) loc (.inr (.inl y) :: st) v
    | 5 => K (i + 1) loc (.inl x :: st) v
    -- loads
    | 6 => match lk loc a with
      | some (.inl w) => K (i + 1) loc (.inl w :: st) v
      | _ => none
    | 7 => match lk loc a with
      | some (.inr (.inl w)) => K (i + 1) loc (.inr (.inl w) :: st) v
      | _ => none
    | 8 => match lk loc a with
      | some (.inr (.inr w)) => K (i + 1) loc (.inr (.inr w) :: st) v
      | _ => none
    -- stores
    | 9 => match st with
      | .inl w :: st => K (i + 1) (sto1 loc a (.inl w)) st v
      | _ => none
    | 10 => match st with
      | .inr (.inr w) :: st => K (i + 1) (sto1 loc a (.inr (.inr w))) st v
      | _ => none
    | 11 => match lk loc a with
      | some (.inl w) => K (i + 1) (sto1 loc a (.inl (w + x))) st v
      | _ => none
    -- numbers
    | 12 => match st with
      | .inl q :: .inl p :: st => K (i + 1) loc (.inl (ibin b p q) :: st) v
      | _ => none
    | 13 => match st with
      | .inl q :: .inl p :: st => if q = 0 then none else K (i + 1) loc (.inl (p / q) :: st) v
      | _ => none
    | 14 => match st with
      | .inl q :: .inl p :: st => if q = 0 then none else K (i + 1) loc (.inl (p - p / q * q) :: st) v
      | _ => none
    | 15 => match st with
      | .inl p :: st => K (i + 1) loc (.inl (iun b p) :: st) v
      | _ => none
    | 16 => match st with
      | .inr (.inl q) :: .inr (.inl p) :: st => K (i + 1) loc (.inr (.inl (lbin b p q)) :: st) v
      | _ => none
    | 17 => match st with
      | .inr (.inl q) :: .inr (.inl p) :: st => if q = 0 then none else K (i + 1) loc (.inr (.inl (p / q)) :: st) v
      | _ => none
    | 18 => match st with
      | .inl p :: st => K (i + 1) loc (.inr (.inl p.toInt64) :: st) v
      | _ => none
    | 19 => match st with
      | .inr (.inl p) :: st => K (i + 1) loc (.inl p.toInt32 :: st) v
      | _ => none
    | 20 => match st with
      | .inr (.inl q) :: .inr (.inl p) :: st => K (i + 1) loc (.inl (lg_cmp p q) :: st) v
      | _ => none
    | 21 => match st with
      | w :: st => match Nat.beq (mcat w) 1 with
        | true => K (i + 1) loc (w :: w :: st) v
        | false => none
      | _ => none
    | 22 => match st with
      | w :: u :: st => match Nat.beq (mcat w) 1 with
        | true => match Nat.beq (mcat u) 1 with
          | true => K (i + 1) loc (w :: u :: w :: u :: st) v
          | false => none
        | false => none
      | _ => none
    | 23 => match st with
      | w :: st => match Nat.beq (mcat w) 1 with
        | true => K (i + 1) loc st v
        | false => none
      | _ => none
    -- jumps
    | 24 => match st with
      | .inl p :: st => match b with
        | 0 => if p = 0 then K a loc st v else K (i + 1) loc st v
        | 1 => if p = 0 then K (i + 1) loc st v else K a loc st v
        | 2 => if p < 0 then K a loc st v else K (i + 1) loc st v
        | 3 => if p < 0 then K (i + 1) loc st v else K a loc st v
        | 4 => if 0 < p then K a loc st v else K (i + 1) loc st v
        | _ => if 0 < p then K (i + 1) loc st v else K a loc st v
      | _ => none
    | 25 => match st with
      | .inl q :: .inl p :: st => match b with
        | 0 => if p = q then K a loc st v else K (i + 1) loc st v
        | 1 => if p = q then K (i + 1) loc st v else K a loc st v
        | 2 => if p < q then K a loc st v else K (i + 1) loc st v
        | 3 => if p < q then K (i + 1) loc st v else K a loc st v
        | 4 => if q < p then K a loc st v else K (i + 1) loc st v
        | _ => if q < p then K (i + 1) loc st v else K a loc st v
      | _ => none
    | 26 => K a loc st v
    | 27 => match st with
      | .inl p :: st => swt p a tb (fun t => K t loc st v)
      | _ => none
    | 28 => match st with
      | .inl p :: st => swt p a tb (fun t => K t loc st v)
      | _ => none
    -- fields
    | 30 => match st with
      | .inr (.inr q) :: st => match Nat.beq (mKc q.1) b with
        | true => K (i + 1) loc (mGet v q c :: st) v
        | false => none
      | _ => none
    | 31 => match st with
      | .inl w :: .inr (.inr q) :: st => match Nat.beq (mKc q.1) b with
        | true => K (i + 1) loc st (mUp v (mFl q c) w)
        | false => none
      | _ => none
    | 32 => match st with
      | .inl w :: .inr (.inr q) :: st => match Nat.beq (mKc q.1) b with
        | true => if w = 0 ∨ w = 1 then K (i + 1) loc st (mUp v (mFl q c) w) else none
        | false => none
      | _ => none
    -- arrays
    | 34 => match st with
      | .inl k :: .inr (.inr q) :: st => match Nat.beq (mKc q.1) b with
        | true => if mIn k (mSz q.1) then K (i + 1) loc (.inl (v.1 (mFl q k.toNatClampNeg).1 (mFl q k.toNatClampNeg).2) :: st) v else none
        | false => none
      | _ => none
    | 35 => match st with
      | .inl w :: .inl k :: .inr (.inr q) :: st => match Nat.beq (mKc q.1) b with
        | true => if mIn k (mSz q.1) then K (i + 1) loc st (mUp v (mFl q k.toNatClampNeg) (vp_nar (mTy q.1) w)) else none
        | false => none
      | _ => none
    | 36 => match st with
      | .inl k :: .inr (.inr q) :: st => match Nat.beq (mKc q.1) 103 with
        | true => if mIn k (mSz q.1) then match mRf q k.toNatClampNeg with
          | some y => K (i + 1) loc (.inr (.inr y) :: st) v
          | none => none else none
        | false => none
      | _ => none
    | 37 => match st with
      | .inr (.inr q) :: st => match Nat.ble 100 (mKc q.1) && Nat.ble (mKc q.1) 103 with
        | true => K (i + 1) loc (.inl (Int32.ofNat (mSz q.1)) :: st) v
        | false => none
      | _ => none
    | 38 => match st with
      | .inl k :: .inl d0 :: .inr (.inr d) :: .inl s0 :: .inr (.inr s) :: st => match (Nat.beq s.1 d.1 && Nat.beq s.2.2 d.2.2) && (Nat.beq s.1 7 || Nat.beq s.1 10) with
        | true => if d0 = 0 ∧ s0 = 0 ∧ k = Int32.ofNat (mSz s.1) ∧ mcats st ≤ 8 then K (i + 1) loc st (mCpy v s.2.1 d) else none
        | false => none
      | _ => none
    -- calls: a the pool's entry, b which callee, c how many values, tb the receiver's class, none of a static one
    | 40 => match (Nat.ble c st.length && Nat.ble (mcats (st.drop c)) 8) && mRcv tb (st.take c) with
      | true => bI (F b v (st.take c).reverse) (fun v r => K (i + 1) loc (.inl r :: st.drop c) v)
      | false => none
    | 41 => match (Nat.ble c st.length && Nat.ble (mcats (st.drop c)) 8) && mRcv tb (st.take c) with
      | true => bV (F b v (st.take c).reverse) (fun v => K (i + 1) loc (st.drop c) v)
      | false => none
    | 42 => match (Nat.ble c st.length && Nat.ble (mcats (st.drop c)) 8) && mRcv tb (st.take c) with
      | true => bN (F b v (st.take c).reverse) (fun v q => K (i + 1) loc (.inr (.inr q) :: st.drop c) v)
      | false => none
    | 43 => match (Nat.ble c st.length && Nat.ble (mcats (st.drop c)) 8) && mRcv tb (st.take c) with
      | true => bL (F b v (st.take c).reverse) (fun v r => K (i + 1) loc (.inr (.inl r) :: st.drop c) v)
      | false => none
    | 44 => match st with
      | .inr (.inl w) :: st => K (i + 1) (sto2 loc a (.inr (.inl w))) st v
      | _ => none
    -- ends
    | 50 => match st with
      | [.inl w] => some (v, some (.inl w))
      | _ => none
    | 51 => match st with
      | [.inl w] => if w = 0 ∨ w = 1 then some (v, some (.inl w)) else none
      | _ => none
    | 52 => match st with
      | [.inr (.inr q)] => match Nat.beq q.1 2 && (Nat.blt q.2.1 8 && Nat.beq q.2.2 0) with
        | true => some (v, some (.inr (.inr q)))
        | false => none
      | _ => none
    | 53 => match st with
      | [] => some (v, none)
      | _ => none
    | 54 => match st with
      | [.inr (.inl w)] => some (v, some (.inr (.inl w)))
      | _ => none
    -- the law's script
    | 55 => match st with
      | .inl k :: .inr (.inr q) :: st => match Nat.beq q.1 22 with
        | true => bI (F 99 v [.inl k]) (fun _ r => K (i + 1) loc (.inl r :: st) v)
        | false => none
      | _ => none
    | 56 => match st with
      | .inr (.inr q) :: st => match Nat.beq q.1 22 with
        | true => bI (F 98 v []) (fun _ r => K (i + 1) loc (.inl r :: st) v)
        | false => none
      | _ => none
    | _ => none
def stp (F : Nat → MF) (cd : List MI) (K : Nat → ML → List MV → MM → MR) (i : Nat) (loc : ML) (st : List MV) (v : MM) : MR := match nth cd i with
  | none => none
  | some m => stI F K i loc st v m
def run (F : Nat → MF) (cd : List MI) : Nat → Nat → ML → List MV → MM → MR
  | 0 => fun _ _ _ _ => none
  | n + 1 => stp F cd (run F cd n)
/-- the entry: arguments in their places -/
def mEl : Nat → List MV → ML
  | _, [] => []
  | i, w :: l => (i, w) :: mEl (i + mcat w) l
def mEnt (maxL : Nat) (F : Nat → MF) (cd : List MI) (n : Nat) (v : MM) (as : List MV) : MR := match Nat.ble (mcats as) maxL with
  | true => run F cd n 0 (mEl 0 as) [] v
  | false => none
/-- an instruction's length, its place, and the instruction of the class file -/
def ilen (m : MI) : Nat := match m with
  | (op, a, b, c, _, _, _) => match op with
    | 0 => 1
    | 1 => 2
    | 2 => 3
    | 3 => 1
    | 4 => 3
    | 5 => 2
    | 6 => if c = 0 then 1 else 2
    | 7 => if c = 0 then 1 else 2
    | 8 => if c = 0 then 1 else 2
    | 9 => if c = 0 then 1 else 2
    | 10 => if c = 0 then 1 else 2
    | 11 => 3
    | 24 => 3
    | 25 => 3
    | 26 => 3
    | 27 => b
    | 28 => b
    | 30 => 3
    | 31 => 3
    | 32 => 3
    | 38 => 3
    | 40 => 3
    | 41 => 3
    | 42 => 3
    | 43 => 3
    | 44 => if c = 0 then 1 else 2
    | _ => 1
def pcs : List MI → Nat → Nat
  | [], _ => 0
  | _, 0 => 0
  | m :: l, k + 1 => ilen m + pcs l k
def fin4 (a : Nat) : Fin 4 := match a with
  | 0 => 0
  | 1 => 1
  | 2 => 2
  | _ => 3
def icond (b : Nat) : Jvm.ClassFile.Cond := match b with
  | 0 => .eq
  | 1 => .ne
  | 2 => .lt
  | 3 => .ge
  | 4 => .gt
  | _ => .le
def ioff (cd : List MI) (i a : Nat) : Int := (pcs cd a : Int) - (pcs cd i : Int)
def toI (cd : List MI) (i : Nat) (m : MI) : Instr := match m with
  | (op, a, b, c, x, y, tb) => match op with
    | 0 => .iconst x.toInt
    | 1 => .bipush x.toInt
    | 2 => .sipush x.toInt
    | 3 => .lconst (if y = 0 then 0 else 1)
    | 4 => .ldc2_w a
    | 5 => .ldc a
    | 6 => if c = 0 then .iload_n (fin4 a) else .iload a
    | 7 => if c = 0 then .lload_n (fin4 a) else .lload a
    | 8 => if c = 0 then .aload_n (fin4 a) else .aload a
    | 9 => if c = 0 then .istore_n (fin4 a) else .istore a
    | 10 => if c = 0 then .astore_n (fin4 a) else .astore a
    | 11 => .iinc a x.toInt
    | 12 => match b with
      | 0 => .iadd
      | 1 => .isub
      | 2 => .imul
      | 3 => .iand
      | _ => .ishr
    | 13 => .idiv
    | 14 => .irem
    | 15 => match b with
      | 0 => .ineg
      | 1 => .i2b
      | _ => .i2c
    | 16 => match b with
      | 0 => .ladd
      | 1 => .lsub
      | _ => .lmul
    | 17 => .ldiv
    | 18 => .i2l
    | 19 => .l2i
    | 20 => .lcmp
    | 21 => .dup
    | 22 => .dup2
    | 23 => .pop
    | 24 => .ifCond (icond b) (ioff cd i a)
    | 25 => .if_icmp (icond b) (ioff cd i a)
    | 26 => .goto (ioff cd i a)
    | 27 => .tableswitch (ioff cd i a) x.toInt (x.toInt + tb.length - 1) (tb.map (fun e => ioff cd i e.2)).toArray
    | 28 => .lookupswitch (ioff cd i a) (tb.map (fun e => (e.1.toInt, ioff cd i e.2))).toArray
    | 30 => .getfield a
    | 31 => .putfield a
    | 32 => .putfield a
    | 34 => match b with
      | 100 => .iaload
      | 101 => .caload
      | _ => .baload
    | 35 => match b with
      | 100 => .iastore
      | 101 => .castore
      | _ => .bastore
    | 36 => .aaload
    | 37 => .arraylength
    | 38 => .invokestatic a
    | 40 => match tb with
      | [] => .invokestatic a
      | _ => .invokevirtual a
    | 41 => match tb with
      | [] => .invokestatic a
      | _ => .invokevirtual a
    | 42 => match tb with
      | [] => .invokestatic a
      | _ => .invokevirtual a
    | 43 => match tb with
      | [] => .invokestatic a
      | _ => .invokevirtual a
    | 44 => if c = 0 then .lstore_n (fin4 a) else .lstore a
    | 50 => .ireturn
    | 51 => .ireturn
    | 52 => .areturn
    | 54 => .lreturn
    | 55 => .iaload
    | 56 => .arraylength
    | _ => .return_
