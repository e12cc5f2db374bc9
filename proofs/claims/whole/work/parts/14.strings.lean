-- THE JDK's String.length and String.charAt over the class's own constants
def fJ0_length_8abf5 : MF := fun v as => match as with
  | [.inr (.inr (23, k, 0))] => if k < 7 then some (v, some (.inl (nI (mLenS.getD k 0)))) else none
  | _ => none
def fJ0_charAt_5068e : MF := fun v as => match as with
  | [.inr (.inr (23, k, 0)), .inl i] => if k < 7 ∧ mIn i (mLenS.getD k 0) then some (v, some (.inl ((mBytS.getD k []).getD i.toNatClampNeg 0))) else none
  | _ => none
def rmJ0_length_8abf5 : Room := { frames := 1, cells := 0, slots := 0, locals := 40 }
def rmJ0_charAt_5068e : Room := { frames := 4, cells := 0, slots := 0, locals := 120 }
theorem ctJ0_length_8abf5 : MCt yJ0_length_8abf5 cJ0_length_8abf5 1 (some .int) rmJ0_length_8abf5 fJ0_length_8abf5 := sorry
theorem ctJ0_charAt_5068e : MCt yJ0_charAt_5068e cJ0_charAt_5068e 2 (some .char) rmJ0_charAt_5068e fJ0_charAt_5068e := sorry
