-- THE MAKING MACHINE: constructors, over a list of cells that grows
abbrev AV : Type := Int32 ⊕ (Int64 ⊕ Option Nat)
abbrev AC : Type := Nat × (Nat × List AV)
abbrev AH : Type := List AC
abbrev AL : Type := List (Nat × AV)
abbrev AS : Type := AH × (Nat × Nat)
abbrev AR : Type := Option (AS × AL)
abbrev AF : Type := AH → Nat → Option AH
/-- an object as it is made -/
def aDf (b : Nat) : List AV := (List.range (nOf b)).map (fun k => match tyOf b k with
  | .int => .inl 0
  | .boolean => .inl 0
  | .long => .inr (.inl 0)
  | _ => .inr (.inr none))
def lkA : AL → Nat → Option AV
  | [], _ => none
  | (j, w) :: l, i => match Nat.beq j i with
    | true => some w
    | false => lkA l i
def acat : AV → Nat
  | .inr (.inl _) => 2
  | _ => 1
def acats (st : List AV) : Nat := (st.map acat).sum
def stA1 (l : AL) (a : Nat) (w : AV) : AL := (a, w) :: l.filter (fun q => !(q.1 == a) && !(q.1 + 1 == a && acat q.2 == 2))
/-- a slot of an object -/
def aGet (hp : AH) (j b c : Nat) : Option AV := match hp[j]? with
  | some (k, (_, l)) => if k = b then l[c]? else none
  | none => none
def aPut (hp : AH) (j b c : Nat) (w : AV) : Option AH := match hp[j]? with
  | some (k, (t, l)) => if k = b ∧ c < l.length then some (hp.set j (k, (t, l.set c w))) else none
  | none => none
/-- an element of an array of numbers -/
def aSto (hp : AH) (j : Nat) (n w : Int32) : Option AH := match hp[j]? with
  | some (k, (t, l)) => if k = 100 ∧ mIn n l.length ∧ (mAt.contains t = true ∧ mTy t = .int) then some (hp.set j (k, (t, l.set n.toNatClampNeg (.inl w)))) else none
  | none => none
/-- an element of an array of references -/
def aStr (hp : AH) (j : Nat) (n : Int32) (w : Nat) : Option AH := match hp[j]? with
  | some (k, (t, l)) => match hp[w]? with
    | some (k2, _) => if (k = 103 ∧ mIn n l.length) ∧ (k2 < 7 ∧ mTy t = .object (ownN k2)) then some (hp.set j (k, (t, l.set n.toNatClampNeg (.inr (.inr (some w)))))) else none
    | none => none
  | none => none
def aRm (R : Nat × Nat) (v : AS) (n s : Nat) : Bool := Nat.ble (v.2.1 + n) R.1 && Nat.ble (v.2.2 + s) R.2
def atI (F : Nat → AF) (cost : Nat → Nat × Nat) (R : Nat × Nat) (K : Nat → AL → List AV → AS → AR) (i : Nat) (loc : AL) (st : List AV) (v : AS) (m : MI) : AR := match m with
  | (op, a, b, c, x, y, tb) => match op with
    | 0 => K (i + 1) loc (.inl x :: st) v
    | 1 => K (i + 1) loc (.inl x :: st) v
    | 2 => K (i + 1) loc (.inl x :: st) v
    | 6 => match lkA loc a with
      | some (.inl w) => K (i + 1) loc (.inl w :: st) v
      | _ => none
    | 8 => match lkA loc a with
      | some (.inr (.inr (some w))) => K (i + 1) loc (.inr (.inr (some w)) :: st) v
      | _ => none
    | 9 => match st with
      | .inl w :: st => K (i + 1) (stA1 loc a (.inl w)) st v
      | _ => none
    | 10 => match st with
      | .inr (.inr (some w)) :: st => K (i + 1) (stA1 loc a (.inr (.inr (some w)))) st v
      | _ => none
    | 11 => match lkA loc a with
      | some (.inl w) => K (i + 1) (stA1 loc a (.inl (w + x))) st v
      | _ => none
    | 12 => match st with
      | .inl q :: .inl p :: st => K (i + 1) loc (.inl (ibin b p q) :: st) v
      | _ => none
    | 21 => match st with
      | .inr (.inr (some w)) :: st => K (i + 1) loc (.inr (.inr (some w)) :: .inr (.inr (some w)) :: st) v
      | _ => none
    | 25 => match st with
      | .inl q :: .inl p :: st => if p < q then K (i + 1) loc st v else K a loc st v
      | _ => none
    | 26 => K a loc st v
    | 30 => match st with
      | .inr (.inr (some j)) :: st => match aGet v.1 j b c with
        | some w => K (i + 1) loc (w :: st) v
        | none => none
      | _ => none
    | 31 => match st with
      | .inl w :: .inr (.inr (some j)) :: st => match aPut v.1 j b c (.inl w) with
        | some h => K (i + 1) loc st (h, v.2)
        | none => none
      | _ => none
    | 60 => match st with
      | .inr (.inr (some w)) :: .inr (.inr (some j)) :: st => match aPut v.1 j b c (.inr (.inr (some w))) with
        | some h => K (i + 1) loc st (h, v.2)
        | none => none
      | _ => none
    | 35 => match st with
      | .inl w :: .inl n :: .inr (.inr (some j)) :: st => match aSto v.1 j n w with
        | some h => K (i + 1) loc st (h, v.2)
        | none => none
      | _ => none
    | 57 => match aRm R v 1 (nOf b) with
      | true => K (i + 1) loc (.inr (.inr (some v.1.length)) :: st) (v.1 ++ [(b, (0, aDf b))], (v.2.1 + 1, v.2.2 + nOf b))
      | false => none
    | 58 => match st with
      | .inl n :: st => match aRm R v 1 n.toNatClampNeg with
        | true => if mIn n 1000 then K (i + 1) loc (.inr (.inr (some v.1.length)) :: st) (v.1 ++ [(b, (c, List.replicate n.toNatClampNeg (.inl 0)))], (v.2.1 + 1, v.2.2 + n.toNatClampNeg)) else none
        | false => none
      | _ => none
    | 59 => match st with
      | .inl n :: st => match aRm R v 1 n.toNatClampNeg with
        | true => if mIn n 1000 then K (i + 1) loc (.inr (.inr (some v.1.length)) :: st) (v.1 ++ [(103, (c, List.replicate n.toNatClampNeg (.inr (.inr none))))], (v.2.1 + 1, v.2.2 + n.toNatClampNeg)) else none
        | false => none
      | _ => none
    | 61 => match st with
      | .inr (.inr (some w)) :: .inl n :: .inr (.inr (some j)) :: st => match aStr v.1 j n w with
        | some h => K (i + 1) loc st (h, v.2)
        | none => none
      | _ => none
    | 62 => match st with
      | .inr (.inr (some _)) :: st => match Nat.ble (acats st) 8 with
        | true => K (i + 1) loc st v
        | false => none
      | _ => none
    | 63 => match st with
      | .inr (.inr (some j)) :: st => match Nat.ble (acats st) 8 && (Nat.blt j v.1.length && aRm R v (cost b).1 (cost b).2) with
        | true => match F b v.1 j with
          | some h => K (i + 1) loc st (h, (v.2.1 + (cost b).1, v.2.2 + (cost b).2))
          | none => none
        | false => none
      | _ => none
    | 53 => match st with
      | [] => some (v, loc)
      | _ => none
    | 65 => match st with
      | [] => some (v, loc)
      | _ => none
    | _ => none
def arun (F : Nat → AF) (cost : Nat → Nat × Nat) (R : Nat × Nat) (cd : List MI) : Nat → Nat → AL → List AV → AS → AR
  | 0 => fun _ _ _ _ => none
  | n + 1 => fun i loc st v => match nth cd i with
    | none => none
    | some m => atI F cost R (arun F cost R cd n) i loc st v m
/-- a constructor as a function of the cells -/
def aFn (F : Nat → AF) (cost : Nat → Nat × Nat) (R : Nat × Nat) (cd : List MI) (n : Nat) : AF := fun hp j => match arun F cost R cd n 0 [(0, .inr (.inr (some j)))] [] (hp, (0, 0)) with
  | some (v, _) => match aRm R v 0 0 with
    | true => some v.1
    | false => none
  | none => none
def alen (m : MI) : Nat := match m.1 with
  | 57 => 3
  | 58 => 2
  | 59 => 3
  | 60 => 3
  | 62 => 3
  | 63 => 3
  | _ => ilen m
def apcs : List MI → Nat → Nat
  | [], _ => 0
  | _, 0 => 0
  | m :: l, k + 1 => alen m + apcs l k
def aoff (cd : List MI) (i a : Nat) : Int := (apcs cd a : Int) - (apcs cd i : Int)
def aTyp (b : Nat) : ArrayType := match b with
  | 100 => .int
  | 101 => .char
  | _ => .byte
def toA (cd : List MI) (i : Nat) (m : MI) : Instr := match m with
  | (op, a, b, c, x, y, tb) => match op with
    | 25 => .if_icmp .ge (aoff cd i a)
    | 26 => .goto (aoff cd i a)
    | 35 => .iastore
    | 57 => .new a
    | 58 => .newarray (aTyp b)
    | 59 => .anewarray a
    | 60 => .putfield a
    | 61 => .aastore
    | 62 => .invokespecial a
    | 63 => .invokespecial a
    | _ => toI cd i m
theorem apcs_succ : ∀ {cd : List MI} {i : Nat} {m : MI}, nth cd i = some m → apcs cd (i + 1) = apcs cd i + alen m
  | [], _, _, h => by cases h
  | a :: l, 0, m, h => by
    cases h
    show alen a + apcs l 0 = 0 + alen a
    have : apcs l 0 = 0 := by cases l <;> rfl
    omega
  | a :: l, k + 1, m, h => by
    show alen a + apcs l (k + 1) = alen a + apcs l k + alen m
    rw [apcs_succ (cd := l) (i := k) h]
    omega
theorem aoff_ok {cd : List MI} {i a : Nat} : ((apcs cd i : Nat) : Int) + aoff cd i a = ((apcs cd a : Nat) : Int) := by
  unfold aoff
  omega
-- places of the words: Object's constructor; new; arrays
def oTab : List (Nat × Nat × Nat) := [(15, 6, 3), (25, 4, 1), (61, 3, 3), (85, 0, 3), (98, 5, 1), (116, 1, 3), (142, 2, 1)]
def nTab : List (Nat × Nat × Nat × Nat) := [(10, 8, 13, 6), (18, 6, 9, 0), (20, 6, 15, 4), (56, 6, 22, 3), (86, 0, 39, 5), (88, 0, 45, 1), (90, 0, 51, 2), (92, 0, 57, 4)]
def iTab : List (Nat × Nat × Nat) := [(81, 4, 0), (112, 6, 1), (138, 7, 2), (57, 3, 3), (21, 2, 4), (94, 5, 5), (11, 1, 6)]
theorem oTab_ok : oTab.all (fun e => decide (tables_1[e.1]? = some (.methodLink (ownN e.2.1) e.2.2 Lib.objectInit)) && mStab (.methodLink (ownN e.2.1) e.2.2 Lib.objectInit)) = true := by decide +kernel
theorem nTab_ok : nTab.all (fun e => decide (tables_1[e.1]? = some (.classLink (ownN e.2.1) e.2.2.1 (ownN e.2.2.2))) && mStab (.classLink (ownN e.2.1) e.2.2.1 (ownN e.2.2.2))) = true := by decide +kernel
theorem iTab_ok : iTab.all (fun e => (decide (tables_1[e.1]? = some (.instantiable (ownN e.2.2) (nOf e.2.2))) && mStab (.instantiable (ownN e.2.2) (nOf e.2.2))) && (decide (tables_1[e.2.1]? = some (.initialized (ownN e.2.2))) && mStab (.initialized (ownN e.2.2)))) = true := by decide +kernel
theorem obj_in : Cond.instanceMethod Lib.objectInit ∈ mTs := mTs_of 16 (by decide +kernel) (by decide +kernel)
theorem obj_cd : Cond.code Lib.objectInit ⟨#[0xb1]⟩ 1 none ∈ mTs := mTs_of 17 (by decide +kernel) (by decide +kernel)
theorem arr_int : Cond.arrayClass .int ∈ mTs := mTs_of 80 (by decide +kernel) (by decide +kernel)
theorem arr_char : Cond.arrayClass .char ∈ mTs := mTs_of 79 (by decide +kernel) (by decide +kernel)
def oHas (o a : Nat) : Bool := oTab.any (fun e => Nat.beq e.2.1 o && Nat.beq e.2.2 a)
def nHas (o a c : Nat) : Bool := nTab.any (fun e => Nat.beq e.2.1 o && (Nat.beq e.2.2.1 a && Nat.beq e.2.2.2 c))
theorem oHas_in {o a : Nat} (h : oHas o a = true) : Cond.methodLink (ownN o) a Lib.objectInit ∈ mTs := by
  obtain ⟨e, he, hx⟩ := List.any_eq_true.mp h
  simp only [Bool.and_eq_true] at hx
  have h1 := Nat.eq_of_beq_eq_true hx.1
  have h2 := Nat.eq_of_beq_eq_true hx.2
  subst h1; subst h2
  have h := List.all_eq_true.mp oTab_ok e he
  simp only [Bool.and_eq_true, decide_eq_true_eq] at h
  exact mTs_of e.1 h.1 h.2
theorem nHas_in {o a c : Nat} (h : nHas o a c = true) : Cond.classLink (ownN o) a (ownN c) ∈ mTs := by
  obtain ⟨e, he, hx⟩ := List.any_eq_true.mp h
  simp only [Bool.and_eq_true] at hx
  have h1 := Nat.eq_of_beq_eq_true hx.1
  have h2 := Nat.eq_of_beq_eq_true hx.2.1
  have h3 := Nat.eq_of_beq_eq_true hx.2.2
  subst h1; subst h2; subst h3
  have h := List.all_eq_true.mp nTab_ok e he
  simp only [Bool.and_eq_true, decide_eq_true_eq] at h
  exact mTs_of e.1 h.1 h.2
theorem iTab_all : ∀ c, c < 7 → ∃ i j, (i, j, c) ∈ iTab := by
  have h : (List.range 7).all (fun c => iTab.any (fun e => e.2.2 == c)) = true := by decide +kernel
  intro c hc
  obtain ⟨e, he, hx⟩ := List.any_eq_true.mp (List.all_eq_true.mp h c (List.mem_range.mpr hc))
  rw [beq_iff_eq] at hx
  exact ⟨e.1, e.2.1, by rw [← hx]; exact he⟩
theorem mk_in {c : Nat} (hc : c < 7) : Cond.instantiable (ownN c) (nOf c) ∈ mTs ∧ Cond.initialized (ownN c) ∈ mTs := by
  obtain ⟨i, j, he⟩ := iTab_all c hc
  have h := List.all_eq_true.mp iTab_ok _ he
  simp only [Bool.and_eq_true, decide_eq_true_eq] at h
  exact ⟨mTs_of i h.1.1 h.1.2, mTs_of j h.2.1 h.2.2⟩
def okA (o nL : Nat) (m : MI) : Bool := match m with
  | (op, a, b, c, x, y, tb) => match op with
    | 1 => decide ((Int8.ofInt x.toInt).toInt32 = x)
    | 2 => decide ((Int16.ofInt x.toInt).toInt32 = x)
    | 6 => Nat.beq c 0 && Nat.blt a 4
    | 8 => Nat.beq c 0 && Nat.blt a 4
    | 9 => Nat.blt a nL && (Nat.beq c 0 && Nat.blt a 4)
    | 10 => Nat.blt a nL && (Nat.beq c 0 && Nat.blt a 4)
    | 11 => Nat.blt a nL
    | 12 => Nat.beq b 0 || Nat.beq b 2
    | 30 => fHas o a b c && (Nat.blt c (nOf b) && Nat.blt b 7)
    | 31 => (fHas o a b c && (Nat.blt c (nOf b) && Nat.blt b 7)) && (decide (tyOf b c = .int) && !(tOf b c).2.2.2)
    | 60 => (fHas o a b c && (Nat.blt c (nOf b) && Nat.blt b 7)) && ((tOf b c).2.2.2 && (Nat.beq b o && (match tyOf b c with
      | .object _ => true
      | .array _ => true
      | _ => false)))
    | 57 => nHas o a b && Nat.blt b 7
    | 58 => mAt.contains c && ((Nat.beq b 100 && decide (mTy c = .int)) || (Nat.beq b 101 && decide (mTy c = .char)))
    | 59 => match tb with
      | [(_, k)] => nHas o a k && (decide (mTy c = .object (ownN k)) && ([0, 1, 2, 4, 5].contains k && mAt.contains c))
      | _ => false
    | 62 => oHas o a
    | _ => true
def opA : List Nat := [0, 1, 2, 6, 8, 9, 10, 11, 12, 21, 25, 26, 30, 31, 60, 35, 57, 58, 59, 61, 62, 63, 53, 65]
def aCk (o nL : Nat) (cc : ByteArray) (cd : List MI) : Bool := (List.range cd.length).all (fun i => match nth cd i with
  | some m => (Nat.beq m.1 65 || decide (decode cc (apcs cd i) = .ok (toA cd i m, alen m))) && (okA o nL m && opA.contains m.1)
  | none => true)
theorem aCk_at {o nL : Nat} {cc : ByteArray} {cd : List MI} (h : aCk o nL cc cd = true) {i : Nat} {m : MI} (hi : nth cd i = some m) : (m.1 = 65 ∨ decode cc (apcs cd i) = .ok (toA cd i m, alen m)) ∧ okA o nL m = true ∧ m.1 ∈ opA := by
  have h1 := List.all_eq_true.mp h i (List.mem_range.mpr (nth_lt hi).1)
  rw [hi] at h1
  simpa using h1
