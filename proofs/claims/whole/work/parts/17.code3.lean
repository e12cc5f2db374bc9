-- CODE of every method but constructors, and its contract (by program: wip/whole/gen/code.py)
def cdX3_clear : List MI := [(8, 0, 0, 0, 0, 0, []), (30, 15, 3, 1, 0, 0, []), (9, 1, 0, 0, 0, 0, []), (8, 0, 0, 0, 0, 0, []), (0, 0, 0, 0, 0, 0, []), (31, 15, 3, 1, 0, 0, []), (6, 1, 0, 0, 0, 0, []), (50, 0, 0, 0, 0, 0, [])]
noncomputable def FX3_clear : Nat → MF := fun k => match k with
  | _ => fun _ _ => none
noncomputable def fX3_clear : MF := mLim 2 FX3_clear cdX3_clear
theorem ckX3_clear : mCk 3 2 0 cX3_clear cdX3_clear = true := by decide +kernel
def rmX3_clear : Room := { frames := 0, cells := 0, slots := 0, locals := 0 }
theorem caX3_clear : allC rmX3_clear 3 FX3_clear (cdX3_clear.filter isCall) := (show True from trivial)
theorem ctX3_clear : MCt yX3_clear cX3_clear 2 (some .int) rmX3_clear fX3_clear := mct_of (o := 3) (rk := 0) (by decide +kernel) rfl ckX3_clear rfl ⟨rfl, rfl⟩ caX3_clear (no38 (by decide +kernel)) (by decide +kernel) mLim_ex
def cdX3_number : List MI := [(6, 1, 0, 0, 0, 0, []), (0, 0, 0, 0, 5, 0, []), (12, 0, 2, 0, 0, 0, []), (6, 2, 0, 0, 0, 0, []), (12, 0, 0, 0, 0, 0, []), (9, 3, 0, 0, 0, 0, []), (6, 3, 0, 0, 0, 0, []), (0, 0, 0, 0, 0, 0, []), (8, 0, 0, 0, 0, 0, []), (30, 25, 3, 4, 0, 0, []), (37, 0, 0, 0, 0, 0, []), (0, 0, 0, 0, 1, 0, []), (12, 0, 1, 0, 0, 0, []), (40, 29, 0, 3, 0, 0, []), (24, 20, 0, 0, 0, 0, []), (8, 0, 0, 0, 0, 0, []), (30, 25, 3, 4, 0, 0, []), (6, 3, 0, 0, 0, 0, []), (34, 0, 100, 0, 0, 0, []), (26, 21, 0, 0, 0, 0, []), (0, 0, 0, 0, 0, 0, []), (50, 0, 0, 0, 0, 0, [])]
noncomputable def FX3_number : Nat → MF := fun k => match k with
  | 0 => fX6_within
  | _ => fun _ _ => none
noncomputable def fX3_number : MF := mLim 4 FX3_number cdX3_number
theorem ckX3_number : mCk 3 4 0 cX3_number cdX3_number = true := by decide +kernel
def rmX3_number : Room := { frames := 1, cells := 0, slots := 0, locals := 22 }
theorem caX3_number : allC rmX3_number 3 FX3_number (cdX3_number.filter isCall) := (show MCall rmX3_number 3 FX3_number (40, 29, 0, 3, 0, 0, []) ∧ True from ⟨⟨yX6_within, cX6_within, 3, _, rmX6_within, 3, ctX6_within, ykX6_within, ⟨rfl, rfl, by decide, by decide⟩, ⟨Or.inr ⟨_, ml_3_29⟩, ysX6_within, rfl⟩⟩, trivial⟩)
theorem ctX3_number : MCt yX3_number cX3_number 4 (some .int) rmX3_number fX3_number := mct_of (o := 3) (rk := 0) (by decide +kernel) rfl ckX3_number rfl ⟨rfl, rfl⟩ caX3_number (no38 (by decide +kernel)) (by decide +kernel) mLim_ex
def cdX3_keep : List MI := [(8, 0, 0, 0, 0, 0, []), (30, 22, 3, 3, 0, 0, []), (0, 0, 0, 0, 5, 0, []), (12, 0, 2, 0, 0, 0, []), (6, 1, 0, 0, 0, 0, []), (12, 0, 0, 0, 0, 0, []), (9, 3, 0, 0, 0, 0, []), (6, 3, 0, 0, 0, 0, []), (0, 0, 0, 0, 0, 0, []), (8, 0, 0, 0, 0, 0, []), (30, 25, 3, 4, 0, 0, []), (37, 0, 0, 0, 0, 0, []), (0, 0, 0, 0, 1, 0, []), (12, 0, 1, 0, 0, 0, []), (40, 29, 0, 3, 0, 0, []), (24, 21, 0, 0, 0, 0, []), (8, 0, 0, 0, 0, 0, []), (30, 25, 3, 4, 0, 0, []), (6, 3, 0, 0, 0, 0, []), (6, 2, 0, 0, 0, 0, []), (35, 0, 100, 0, 0, 0, []), (53, 0, 0, 0, 0, 0, [])]
noncomputable def FX3_keep : Nat → MF := fun k => match k with
  | 0 => fX6_within
  | _ => fun _ _ => none
noncomputable def fX3_keep : MF := mLim 4 FX3_keep cdX3_keep
theorem ckX3_keep : mCk 3 4 3 cX3_keep cdX3_keep = true := by decide +kernel
def rmX3_keep : Room := { frames := 1, cells := 0, slots := 0, locals := 22 }
theorem caX3_keep : allC rmX3_keep 3 FX3_keep (cdX3_keep.filter isCall) := (show MCall rmX3_keep 3 FX3_keep (40, 29, 0, 3, 0, 0, []) ∧ True from ⟨⟨yX6_within, cX6_within, 3, _, rmX6_within, 3, ctX6_within, ykX6_within, ⟨rfl, rfl, by decide, by decide⟩, ⟨Or.inr ⟨_, ml_3_29⟩, ysX6_within, rfl⟩⟩, trivial⟩)
theorem ctX3_keep : MCt yX3_keep cX3_keep 4 (none) rmX3_keep fX3_keep := mct_of (o := 3) (rk := 3) (by decide +kernel) rfl ckX3_keep rfl ⟨rfl, rfl⟩ caX3_keep (no38 (by decide +kernel)) (by decide +kernel) mLim_ex
def cdX3_endOf : List MI := [(8, 0, 0, 0, 0, 0, []), (30, 19, 3, 2, 0, 0, []), (9, 3, 0, 0, 0, 0, []), (6, 3, 0, 0, 0, 0, []), (8, 0, 0, 0, 0, 0, []), (30, 15, 3, 1, 0, 0, []), (25, 21, 3, 0, 0, 0, []), (8, 0, 0, 0, 0, 0, []), (30, 9, 3, 0, 0, 0, []), (6, 3, 0, 0, 0, 0, []), (34, 0, 101, 0, 0, 0, []), (6, 1, 0, 0, 0, 0, []), (25, 21, 2, 0, 0, 0, []), (8, 0, 0, 0, 0, 0, []), (30, 9, 3, 0, 0, 0, []), (6, 3, 0, 0, 0, 0, []), (34, 0, 101, 0, 0, 0, []), (6, 2, 0, 0, 0, 0, []), (25, 21, 4, 0, 0, 0, []), (11, 3, 0, 0, 1, 0, []), (26, 3, 0, 0, 0, 0, []), (6, 3, 0, 0, 0, 0, []), (50, 0, 0, 0, 0, 0, [])]
noncomputable def FX3_endOf : Nat → MF := fun k => match k with
  | _ => fun _ _ => none
noncomputable def fX3_endOf : MF := mLim 4 FX3_endOf cdX3_endOf
theorem ckX3_endOf : mCk 3 4 0 cX3_endOf cdX3_endOf = true := by decide +kernel
def rmX3_endOf : Room := { frames := 0, cells := 0, slots := 0, locals := 0 }
theorem caX3_endOf : allC rmX3_endOf 3 FX3_endOf (cdX3_endOf.filter isCall) := (show True from trivial)
theorem ctX3_endOf : MCt yX3_endOf cX3_endOf 4 (some .int) rmX3_endOf fX3_endOf := mct_of (o := 3) (rk := 0) (by decide +kernel) rfl ckX3_endOf rfl ⟨rfl, rfl⟩ caX3_endOf (no38 (by decide +kernel)) (by decide +kernel) mLim_ex
def cdX3_skipSpaces : List MI := [(8, 0, 0, 0, 0, 0, []), (8, 0, 0, 0, 0, 0, []), (1, 0, 0, 0, 32, 0, []), (1, 0, 0, 0, 32, 0, []), (40, 59, 0, 3, 0, 0, [(0, 3)]), (31, 19, 3, 2, 0, 0, []), (53, 0, 0, 0, 0, 0, [])]
noncomputable def FX3_skipSpaces : Nat → MF := fun k => match k with
  | 0 => fX3_endOf
  | _ => fun _ _ => none
noncomputable def fX3_skipSpaces : MF := mLim 1 FX3_skipSpaces cdX3_skipSpaces
theorem ckX3_skipSpaces : mCk 3 1 3 cX3_skipSpaces cdX3_skipSpaces = true := by decide +kernel
def rmX3_skipSpaces : Room := { frames := 1, cells := 0, slots := 0, locals := 23 }
theorem caX3_skipSpaces : allC rmX3_skipSpaces 3 FX3_skipSpaces (cdX3_skipSpaces.filter isCall) := (show MCall rmX3_skipSpaces 3 FX3_skipSpaces (40, 59, 0, 3, 0, 0, [(0, 3)]) ∧ True from ⟨⟨yX3_endOf, cX3_endOf, 4, _, rmX3_endOf, 2, ctX3_endOf, ykX3_endOf, ⟨rfl, rfl, by decide, by decide⟩, ⟨ml_3_59, yvX3_endOf, rfl, rfl, Or.inl (by decide)⟩⟩, trivial⟩)
theorem ctX3_skipSpaces : MCt yX3_skipSpaces cX3_skipSpaces 1 (none) rmX3_skipSpaces fX3_skipSpaces := mct_of (o := 3) (rk := 3) (by decide +kernel) rfl ckX3_skipSpaces rfl ⟨rfl, rfl⟩ caX3_skipSpaces (no38 (by decide +kernel)) (by decide +kernel) mLim_ex
def cdX3_isWord : List MI := [(6, 2, 0, 0, 0, 0, []), (8, 0, 0, 0, 0, 0, []), (30, 19, 3, 2, 0, 0, []), (12, 0, 1, 0, 0, 0, []), (8, 1, 0, 0, 0, 0, []), (40, 84, 0, 1, 0, 0, [(0, 123)]), (25, 9, 0, 0, 0, 0, []), (0, 0, 0, 0, 0, 0, []), (51, 0, 0, 0, 0, 0, []), (0, 0, 0, 0, 0, 0, []), (9, 3, 0, 0, 0, 0, []), (6, 3, 0, 0, 0, 0, []), (8, 1, 0, 0, 0, 0, []), (40, 84, 0, 1, 0, 0, [(0, 123)]), (25, 30, 3, 0, 0, 0, []), (8, 0, 0, 0, 0, 0, []), (30, 9, 3, 0, 0, 0, []), (8, 0, 0, 0, 0, 0, []), (30, 19, 3, 2, 0, 0, []), (6, 3, 0, 0, 0, 0, []), (12, 0, 0, 0, 0, 0, []), (34, 0, 101, 0, 0, 0, []), (8, 1, 0, 0, 0, 0, []), (6, 3, 0, 0, 0, 0, []), (40, 88, 1, 2, 0, 0, [(0, 123)]), (25, 28, 0, 0, 0, 0, []), (0, 0, 0, 0, 0, 0, []), (51, 0, 0, 0, 0, 0, []), (11, 3, 0, 0, 1, 0, []), (26, 11, 0, 0, 0, 0, []), (0, 0, 0, 0, 1, 0, []), (51, 0, 0, 0, 0, 0, [])]
noncomputable def FX3_isWord : Nat → MF := fun k => match k with
  | 0 => fJ0_length_8abf5
  | 1 => fJ0_charAt_5068e
  | _ => fun _ _ => none
noncomputable def fX3_isWord : MF := mLim 4 FX3_isWord cdX3_isWord
theorem ckX3_isWord : mCk 3 4 1 cX3_isWord cdX3_isWord = true := by decide +kernel
def rmX3_isWord : Room := { frames := 5, cells := 0, slots := 0, locals := 141 }
theorem caX3_isWord : allC rmX3_isWord 3 FX3_isWord (cdX3_isWord.filter isCall) := (show MCall rmX3_isWord 3 FX3_isWord (40, 84, 0, 1, 0, 0, [(0, 123)]) ∧ MCall rmX3_isWord 3 FX3_isWord (40, 84, 0, 1, 0, 0, [(0, 123)]) ∧ MCall rmX3_isWord 3 FX3_isWord (40, 88, 1, 2, 0, 0, [(0, 123)]) ∧ True from ⟨⟨yJ0_length_8abf5, cJ0_length_8abf5, 1, _, rmJ0_length_8abf5, 0, ctJ0_length_8abf5, ykJ0_length_8abf5, ⟨rfl, rfl, by decide, by decide⟩, ⟨ml_3_84, yvJ0_length_8abf5, rfl, rfl, Or.inr rfl⟩⟩, ⟨yJ0_length_8abf5, cJ0_length_8abf5, 1, _, rmJ0_length_8abf5, 0, ctJ0_length_8abf5, ykJ0_length_8abf5, ⟨rfl, rfl, by decide, by decide⟩, ⟨ml_3_84, yvJ0_length_8abf5, rfl, rfl, Or.inr rfl⟩⟩, ⟨yJ0_charAt_5068e, cJ0_charAt_5068e, 2, _, rmJ0_charAt_5068e, 1, ctJ0_charAt_5068e, ykJ0_charAt_5068e, ⟨rfl, rfl, by decide, by decide⟩, ⟨ml_3_88, yvJ0_charAt_5068e, rfl, rfl, Or.inr rfl⟩⟩, trivial⟩)
theorem ctX3_isWord : MCt yX3_isWord cX3_isWord 4 (some .boolean) rmX3_isWord fX3_isWord := mct_of (o := 3) (rk := 1) (by decide +kernel) rfl ckX3_isWord rfl ⟨rfl, rfl⟩ caX3_isWord (no38 (by decide +kernel)) (by decide +kernel) mLim_ex
def cdX3_kindOfWord : List MI := [(8, 0, 0, 0, 0, 0, []), (5, 66, 0, 0, 0, 0, []), (6, 1, 0, 0, 0, 0, []), (40, 68, 0, 3, 0, 0, [(0, 3)]), (24, 7, 0, 0, 0, 0, []), (0, 0, 0, 0, 0, 0, []), (50, 0, 0, 0, 0, 0, []), (8, 0, 0, 0, 0, 0, []), (5, 72, 1, 0, 0, 0, []), (6, 1, 0, 0, 0, 0, []), (40, 68, 0, 3, 0, 0, [(0, 3)]), (24, 14, 0, 0, 0, 0, []), (0, 0, 0, 0, 1, 0, []), (50, 0, 0, 0, 0, 0, []), (8, 0, 0, 0, 0, 0, []), (5, 74, 2, 0, 0, 0, []), (6, 1, 0, 0, 0, 0, []), (40, 68, 0, 3, 0, 0, [(0, 3)]), (24, 21, 0, 0, 0, 0, []), (0, 0, 0, 0, 2, 0, []), (50, 0, 0, 0, 0, 0, []), (8, 0, 0, 0, 0, 0, []), (5, 76, 3, 0, 0, 0, []), (6, 1, 0, 0, 0, 0, []), (40, 68, 0, 3, 0, 0, [(0, 3)]), (24, 28, 0, 0, 0, 0, []), (0, 0, 0, 0, 3, 0, []), (50, 0, 0, 0, 0, 0, []), (8, 0, 0, 0, 0, 0, []), (5, 78, 4, 0, 0, 0, []), (6, 1, 0, 0, 0, 0, []), (40, 68, 0, 3, 0, 0, [(0, 3)]), (24, 35, 0, 0, 0, 0, []), (0, 0, 0, 0, 4, 0, []), (50, 0, 0, 0, 0, 0, []), (8, 0, 0, 0, 0, 0, []), (5, 80, 5, 0, 0, 0, []), (6, 1, 0, 0, 0, 0, []), (40, 68, 0, 3, 0, 0, [(0, 3)]), (24, 42, 0, 0, 0, 0, []), (0, 0, 0, 0, 5, 0, []), (50, 0, 0, 0, 0, 0, []), (8, 0, 0, 0, 0, 0, []), (5, 82, 6, 0, 0, 0, []), (6, 1, 0, 0, 0, 0, []), (40, 68, 0, 3, 0, 0, [(0, 3)]), (24, 49, 0, 0, 0, 0, []), (1, 0, 0, 0, 6, 0, []), (26, 50, 0, 0, 0, 0, []), (0, 0, 0, 0, (-1), 0, []), (50, 0, 0, 0, 0, 0, [])]
noncomputable def FX3_kindOfWord : Nat → MF := fun k => match k with
  | 0 => fX3_isWord
  | _ => fun _ _ => none
noncomputable def fX3_kindOfWord : MF := mLim 2 FX3_kindOfWord cdX3_kindOfWord
theorem ckX3_kindOfWord : mCk 3 2 0 cX3_kindOfWord cdX3_kindOfWord = true := by decide +kernel
def rmX3_kindOfWord : Room := { frames := 6, cells := 0, slots := 0, locals := 164 }
theorem caX3_kindOfWord : allC rmX3_kindOfWord 3 FX3_kindOfWord (cdX3_kindOfWord.filter isCall) := (show MCall rmX3_kindOfWord 3 FX3_kindOfWord (40, 68, 0, 3, 0, 0, [(0, 3)]) ∧ MCall rmX3_kindOfWord 3 FX3_kindOfWord (40, 68, 0, 3, 0, 0, [(0, 3)]) ∧ MCall rmX3_kindOfWord 3 FX3_kindOfWord (40, 68, 0, 3, 0, 0, [(0, 3)]) ∧ MCall rmX3_kindOfWord 3 FX3_kindOfWord (40, 68, 0, 3, 0, 0, [(0, 3)]) ∧ MCall rmX3_kindOfWord 3 FX3_kindOfWord (40, 68, 0, 3, 0, 0, [(0, 3)]) ∧ MCall rmX3_kindOfWord 3 FX3_kindOfWord (40, 68, 0, 3, 0, 0, [(0, 3)]) ∧ MCall rmX3_kindOfWord 3 FX3_kindOfWord (40, 68, 0, 3, 0, 0, [(0, 3)]) ∧ True from ⟨⟨yX3_isWord, cX3_isWord, 4, _, rmX3_isWord, 2, ctX3_isWord, ykX3_isWord, ⟨rfl, rfl, by decide, by decide⟩, ⟨ml_3_68, yvX3_isWord, rfl, rfl, Or.inl (by decide)⟩⟩, ⟨yX3_isWord, cX3_isWord, 4, _, rmX3_isWord, 2, ctX3_isWord, ykX3_isWord, ⟨rfl, rfl, by decide, by decide⟩, ⟨ml_3_68, yvX3_isWord, rfl, rfl, Or.inl (by decide)⟩⟩, ⟨yX3_isWord, cX3_isWord, 4, _, rmX3_isWord, 2, ctX3_isWord, ykX3_isWord, ⟨rfl, rfl, by decide, by decide⟩, ⟨ml_3_68, yvX3_isWord, rfl, rfl, Or.inl (by decide)⟩⟩, ⟨yX3_isWord, cX3_isWord, 4, _, rmX3_isWord, 2, ctX3_isWord, ykX3_isWord, ⟨rfl, rfl, by decide, by decide⟩, ⟨ml_3_68, yvX3_isWord, rfl, rfl, Or.inl (by decide)⟩⟩, ⟨yX3_isWord, cX3_isWord, 4, _, rmX3_isWord, 2, ctX3_isWord, ykX3_isWord, ⟨rfl, rfl, by decide, by decide⟩, ⟨ml_3_68, yvX3_isWord, rfl, rfl, Or.inl (by decide)⟩⟩, ⟨yX3_isWord, cX3_isWord, 4, _, rmX3_isWord, 2, ctX3_isWord, ykX3_isWord, ⟨rfl, rfl, by decide, by decide⟩, ⟨ml_3_68, yvX3_isWord, rfl, rfl, Or.inl (by decide)⟩⟩, ⟨yX3_isWord, cX3_isWord, 4, _, rmX3_isWord, 2, ctX3_isWord, ykX3_isWord, ⟨rfl, rfl, by decide, by decide⟩, ⟨ml_3_68, yvX3_isWord, rfl, rfl, Or.inl (by decide)⟩⟩, trivial⟩)
theorem ctX3_kindOfWord : MCt yX3_kindOfWord cX3_kindOfWord 2 (some .int) rmX3_kindOfWord fX3_kindOfWord := mct_of (o := 3) (rk := 0) (by decide +kernel) rfl ckX3_kindOfWord rfl ⟨rfl, rfl⟩ caX3_kindOfWord (no38 (by decide +kernel)) (by decide +kernel) mLim_ex
def cdX3_readWord : List MI := [(8, 0, 0, 0, 0, 0, []), (1, 0, 0, 0, 97, 0, []), (1, 0, 0, 0, 122, 0, []), (40, 59, 0, 3, 0, 0, [(0, 3)]), (9, 1, 0, 0, 0, 0, []), (8, 0, 0, 0, 0, 0, []), (6, 1, 0, 0, 0, 0, []), (40, 63, 1, 2, 0, 0, [(0, 3)]), (9, 2, 0, 0, 0, 0, []), (6, 2, 0, 0, 0, 0, []), (0, 0, 0, 0, (-1), 0, []), (25, 15, 0, 0, 0, 0, []), (8, 0, 0, 0, 0, 0, []), (6, 1, 0, 0, 0, 0, []), (31, 19, 3, 2, 0, 0, []), (6, 2, 0, 0, 0, 0, []), (50, 0, 0, 0, 0, 0, [])]
noncomputable def FX3_readWord : Nat → MF := fun k => match k with
  | 0 => fX3_endOf
  | 1 => fX3_kindOfWord
  | _ => fun _ _ => none
noncomputable def fX3_readWord : MF := mLim 3 FX3_readWord cdX3_readWord
theorem ckX3_readWord : mCk 3 3 0 cX3_readWord cdX3_readWord = true := by decide +kernel
def rmX3_readWord : Room := { frames := 7, cells := 0, slots := 0, locals := 185 }
theorem caX3_readWord : allC rmX3_readWord 3 FX3_readWord (cdX3_readWord.filter isCall) := (show MCall rmX3_readWord 3 FX3_readWord (40, 59, 0, 3, 0, 0, [(0, 3)]) ∧ MCall rmX3_readWord 3 FX3_readWord (40, 63, 1, 2, 0, 0, [(0, 3)]) ∧ True from ⟨⟨yX3_endOf, cX3_endOf, 4, _, rmX3_endOf, 2, ctX3_endOf, ykX3_endOf, ⟨rfl, rfl, by decide, by decide⟩, ⟨ml_3_59, yvX3_endOf, rfl, rfl, Or.inl (by decide)⟩⟩, ⟨yX3_kindOfWord, cX3_kindOfWord, 2, _, rmX3_kindOfWord, 1, ctX3_kindOfWord, ykX3_kindOfWord, ⟨rfl, rfl, by decide, by decide⟩, ⟨ml_3_63, yvX3_kindOfWord, rfl, rfl, Or.inl (by decide)⟩⟩, trivial⟩)
theorem ctX3_readWord : MCt yX3_readWord cX3_readWord 3 (some .int) rmX3_readWord fX3_readWord := mct_of (o := 3) (rk := 0) (by decide +kernel) rfl ckX3_readWord rfl ⟨rfl, rfl⟩ caX3_readWord (no38 (by decide +kernel)) (by decide +kernel) mLim_ex
def cdX3_numbersOf : List MI := [(6, 0, 0, 0, 0, 0, []), (27, 10, 39, 0, 0, 0, [(0, 2), (1, 4), (2, 2), (3, 4), (4, 6), (5, 8)]), (0, 0, 0, 0, 3, 0, []), (50, 0, 0, 0, 0, 0, []), (0, 0, 0, 0, 2, 0, []), (50, 0, 0, 0, 0, 0, []), (0, 0, 0, 0, 1, 0, []), (50, 0, 0, 0, 0, 0, []), (0, 0, 0, 0, 4, 0, []), (50, 0, 0, 0, 0, 0, []), (0, 0, 0, 0, 0, 0, []), (50, 0, 0, 0, 0, 0, [])]
noncomputable def FX3_numbersOf : Nat → MF := fun k => match k with
  | _ => fun _ _ => none
noncomputable def fX3_numbersOf : MF := mLim 1 FX3_numbersOf cdX3_numbersOf
theorem ckX3_numbersOf : mCk 3 1 0 cX3_numbersOf cdX3_numbersOf = true := by decide +kernel
def rmX3_numbersOf : Room := { frames := 0, cells := 0, slots := 0, locals := 0 }
theorem caX3_numbersOf : allC rmX3_numbersOf 3 FX3_numbersOf (cdX3_numbersOf.filter isCall) := (show True from trivial)
theorem ctX3_numbersOf : MCt yX3_numbersOf cX3_numbersOf 1 (some .int) rmX3_numbersOf fX3_numbersOf := mct_of (o := 3) (rk := 0) (by decide +kernel) rfl ckX3_numbersOf rfl ⟨rfl, rfl⟩ caX3_numbersOf (no38 (by decide +kernel)) (by decide +kernel) mLim_ex
def cdX3_readNumber : List MI := [(8, 0, 0, 0, 0, 0, []), (41, 33, 0, 1, 0, 0, [(0, 3)]), (8, 0, 0, 0, 0, 0, []), (1, 0, 0, 0, 48, 0, []), (1, 0, 0, 0, 57, 0, []), (40, 59, 1, 3, 0, 0, [(0, 3)]), (9, 2, 0, 0, 0, 0, []), (6, 2, 0, 0, 0, 0, []), (8, 0, 0, 0, 0, 0, []), (30, 19, 3, 2, 0, 0, []), (12, 0, 1, 0, 0, 0, []), (9, 3, 0, 0, 0, 0, []), (6, 3, 0, 0, 0, 0, []), (0, 0, 0, 0, 1, 0, []), (25, 28, 2, 0, 0, 0, []), (6, 3, 0, 0, 0, 0, []), (0, 0, 0, 0, 5, 0, []), (25, 28, 4, 0, 0, 0, []), (6, 3, 0, 0, 0, 0, []), (0, 0, 0, 0, 1, 0, []), (25, 30, 5, 0, 0, 0, []), (8, 0, 0, 0, 0, 0, []), (30, 9, 3, 0, 0, 0, []), (8, 0, 0, 0, 0, 0, []), (30, 19, 3, 2, 0, 0, []), (34, 0, 101, 0, 0, 0, []), (1, 0, 0, 0, 48, 0, []), (25, 30, 1, 0, 0, 0, []), (0, 0, 0, 0, 0, 0, []), (51, 0, 0, 0, 0, 0, []), (0, 0, 0, 0, 0, 0, []), (9, 4, 0, 1, 0, 0, []), (8, 0, 0, 0, 0, 0, []), (30, 19, 3, 2, 0, 0, []), (9, 5, 0, 1, 0, 0, []), (6, 5, 0, 1, 0, 0, []), (6, 2, 0, 0, 0, 0, []), (25, 51, 3, 0, 0, 0, []), (6, 4, 0, 1, 0, 0, []), (1, 0, 0, 0, 10, 0, []), (12, 0, 2, 0, 0, 0, []), (8, 0, 0, 0, 0, 0, []), (30, 9, 3, 0, 0, 0, []), (6, 5, 0, 1, 0, 0, []), (34, 0, 101, 0, 0, 0, []), (1, 0, 0, 0, 48, 0, []), (12, 0, 1, 0, 0, 0, []), (12, 0, 0, 0, 0, 0, []), (9, 4, 0, 1, 0, 0, []), (11, 5, 0, 0, 1, 0, []), (26, 35, 0, 0, 0, 0, []), (8, 0, 0, 0, 0, 0, []), (6, 1, 0, 0, 0, 0, []), (6, 4, 0, 1, 0, 0, []), (41, 44, 2, 3, 0, 0, [(0, 3)]), (8, 0, 0, 0, 0, 0, []), (6, 2, 0, 0, 0, 0, []), (31, 19, 3, 2, 0, 0, []), (0, 0, 0, 0, 1, 0, []), (51, 0, 0, 0, 0, 0, [])]
noncomputable def FX3_readNumber : Nat → MF := fun k => match k with
  | 0 => fX3_skipSpaces
  | 1 => fX3_endOf
  | 2 => fX3_keep
  | _ => fun _ _ => none
noncomputable def fX3_readNumber : MF := mLim 6 FX3_readNumber cdX3_readNumber
theorem ckX3_readNumber : mCk 3 6 1 cX3_readNumber cdX3_readNumber = true := by decide +kernel
def rmX3_readNumber : Room := { frames := 2, cells := 0, slots := 0, locals := 45 }
theorem caX3_readNumber : allC rmX3_readNumber 3 FX3_readNumber (cdX3_readNumber.filter isCall) := (show MCall rmX3_readNumber 3 FX3_readNumber (41, 33, 0, 1, 0, 0, [(0, 3)]) ∧ MCall rmX3_readNumber 3 FX3_readNumber (40, 59, 1, 3, 0, 0, [(0, 3)]) ∧ MCall rmX3_readNumber 3 FX3_readNumber (41, 44, 2, 3, 0, 0, [(0, 3)]) ∧ True from ⟨⟨yX3_skipSpaces, cX3_skipSpaces, 1, _, rmX3_skipSpaces, 0, ctX3_skipSpaces, ykX3_skipSpaces, ⟨rfl, rfl, by decide, by decide⟩, ⟨ml_3_33, yvX3_skipSpaces, rfl, rfl, Or.inl (by decide)⟩⟩, ⟨yX3_endOf, cX3_endOf, 4, _, rmX3_endOf, 2, ctX3_endOf, ykX3_endOf, ⟨rfl, rfl, by decide, by decide⟩, ⟨ml_3_59, yvX3_endOf, rfl, rfl, Or.inl (by decide)⟩⟩, ⟨yX3_keep, cX3_keep, 4, _, rmX3_keep, 2, ctX3_keep, ykX3_keep, ⟨rfl, rfl, by decide, by decide⟩, ⟨ml_3_44, yvX3_keep, rfl, rfl, Or.inl (by decide)⟩⟩, trivial⟩)
theorem ctX3_readNumber : MCt yX3_readNumber cX3_readNumber 6 (some .boolean) rmX3_readNumber fX3_readNumber := mct_of (o := 3) (rk := 1) (by decide +kernel) rfl ckX3_readNumber rfl ⟨rfl, rfl⟩ caX3_readNumber (no38 (by decide +kernel)) (by decide +kernel) mLim_ex
def cdX3_readEnd : List MI := [(8, 0, 0, 0, 0, 0, []), (41, 33, 0, 1, 0, 0, [(0, 3)]), (8, 0, 0, 0, 0, 0, []), (30, 19, 3, 2, 0, 0, []), (8, 0, 0, 0, 0, 0, []), (30, 15, 3, 1, 0, 0, []), (25, 14, 3, 0, 0, 0, []), (8, 0, 0, 0, 0, 0, []), (30, 9, 3, 0, 0, 0, []), (8, 0, 0, 0, 0, 0, []), (30, 19, 3, 2, 0, 0, []), (34, 0, 101, 0, 0, 0, []), (1, 0, 0, 0, 59, 0, []), (25, 16, 0, 0, 0, 0, []), (0, 0, 0, 0, 0, 0, []), (51, 0, 0, 0, 0, 0, []), (8, 0, 0, 0, 0, 0, []), (21, 0, 0, 0, 0, 0, []), (30, 19, 3, 2, 0, 0, []), (0, 0, 0, 0, 1, 0, []), (12, 0, 0, 0, 0, 0, []), (31, 19, 3, 2, 0, 0, []), (0, 0, 0, 0, 1, 0, []), (51, 0, 0, 0, 0, 0, [])]
noncomputable def FX3_readEnd : Nat → MF := fun k => match k with
  | 0 => fX3_skipSpaces
  | _ => fun _ _ => none
noncomputable def fX3_readEnd : MF := mLim 1 FX3_readEnd cdX3_readEnd
theorem ckX3_readEnd : mCk 3 1 1 cX3_readEnd cdX3_readEnd = true := by decide +kernel
def rmX3_readEnd : Room := { frames := 2, cells := 0, slots := 0, locals := 43 }
theorem caX3_readEnd : allC rmX3_readEnd 3 FX3_readEnd (cdX3_readEnd.filter isCall) := (show MCall rmX3_readEnd 3 FX3_readEnd (41, 33, 0, 1, 0, 0, [(0, 3)]) ∧ True from ⟨⟨yX3_skipSpaces, cX3_skipSpaces, 1, _, rmX3_skipSpaces, 0, ctX3_skipSpaces, ykX3_skipSpaces, ⟨rfl, rfl, by decide, by decide⟩, ⟨ml_3_33, yvX3_skipSpaces, rfl, rfl, Or.inl (by decide)⟩⟩, trivial⟩)
theorem ctX3_readEnd : MCt yX3_readEnd cX3_readEnd 1 (some .boolean) rmX3_readEnd fX3_readEnd := mct_of (o := 3) (rk := 1) (by decide +kernel) rfl ckX3_readEnd rfl ⟨rfl, rfl⟩ caX3_readEnd (no38 (by decide +kernel)) (by decide +kernel) mLim_ex
def cdX3_readCommand : List MI := [(8, 0, 0, 0, 0, 0, []), (40, 40, 0, 1, 0, 0, [(0, 3)]), (9, 1, 0, 0, 0, 0, []), (6, 1, 0, 0, 0, 0, []), (0, 0, 0, 0, (-1), 0, []), (25, 8, 1, 0, 0, 0, []), (0, 0, 0, 0, 0, 0, []), (51, 0, 0, 0, 0, 0, []), (8, 0, 0, 0, 0, 0, []), (0, 0, 0, 0, 0, 0, []), (6, 1, 0, 0, 0, 0, []), (41, 44, 1, 3, 0, 0, [(0, 3)]), (0, 0, 0, 0, 1, 0, []), (9, 2, 0, 0, 0, 0, []), (6, 2, 0, 0, 0, 0, []), (6, 1, 0, 0, 0, 0, []), (40, 48, 2, 1, 0, 0, []), (25, 26, 4, 0, 0, 0, []), (8, 0, 0, 0, 0, 0, []), (6, 2, 0, 0, 0, 0, []), (40, 52, 3, 2, 0, 0, [(0, 3)]), (24, 24, 1, 0, 0, 0, []), (0, 0, 0, 0, 0, 0, []), (51, 0, 0, 0, 0, 0, []), (11, 2, 0, 0, 1, 0, []), (26, 14, 0, 0, 0, 0, []), (8, 0, 0, 0, 0, 0, []), (40, 56, 4, 1, 0, 0, [(0, 3)]), (51, 0, 0, 0, 0, 0, [])]
noncomputable def FX3_readCommand : Nat → MF := fun k => match k with
  | 0 => fX3_readWord
  | 1 => fX3_keep
  | 2 => fX3_numbersOf
  | 3 => fX3_readNumber
  | 4 => fX3_readEnd
  | _ => fun _ _ => none
noncomputable def fX3_readCommand : MF := mLim 3 FX3_readCommand cdX3_readCommand
theorem ckX3_readCommand : mCk 3 3 1 cX3_readCommand cdX3_readCommand = true := by decide +kernel
def rmX3_readCommand : Room := { frames := 8, cells := 0, slots := 0, locals := 207 }
theorem caX3_readCommand : allC rmX3_readCommand 3 FX3_readCommand (cdX3_readCommand.filter isCall) := (show MCall rmX3_readCommand 3 FX3_readCommand (40, 40, 0, 1, 0, 0, [(0, 3)]) ∧ MCall rmX3_readCommand 3 FX3_readCommand (41, 44, 1, 3, 0, 0, [(0, 3)]) ∧ MCall rmX3_readCommand 3 FX3_readCommand (40, 48, 2, 1, 0, 0, []) ∧ MCall rmX3_readCommand 3 FX3_readCommand (40, 52, 3, 2, 0, 0, [(0, 3)]) ∧ MCall rmX3_readCommand 3 FX3_readCommand (40, 56, 4, 1, 0, 0, [(0, 3)]) ∧ True from ⟨⟨yX3_readWord, cX3_readWord, 3, _, rmX3_readWord, 0, ctX3_readWord, ykX3_readWord, ⟨rfl, rfl, by decide, by decide⟩, ⟨ml_3_40, yvX3_readWord, rfl, rfl, Or.inl (by decide)⟩⟩, ⟨yX3_keep, cX3_keep, 4, _, rmX3_keep, 2, ctX3_keep, ykX3_keep, ⟨rfl, rfl, by decide, by decide⟩, ⟨ml_3_44, yvX3_keep, rfl, rfl, Or.inl (by decide)⟩⟩, ⟨yX3_numbersOf, cX3_numbersOf, 1, _, rmX3_numbersOf, 1, ctX3_numbersOf, ykX3_numbersOf, ⟨rfl, rfl, by decide, by decide⟩, ⟨Or.inl ml_3_48, ysX3_numbersOf, rfl⟩⟩, ⟨yX3_readNumber, cX3_readNumber, 6, _, rmX3_readNumber, 1, ctX3_readNumber, ykX3_readNumber, ⟨rfl, rfl, by decide, by decide⟩, ⟨ml_3_52, yvX3_readNumber, rfl, rfl, Or.inl (by decide)⟩⟩, ⟨yX3_readEnd, cX3_readEnd, 1, _, rmX3_readEnd, 0, ctX3_readEnd, ykX3_readEnd, ⟨rfl, rfl, by decide, by decide⟩, ⟨ml_3_56, yvX3_readEnd, rfl, rfl, Or.inl (by decide)⟩⟩, trivial⟩)
theorem ctX3_readCommand : MCt yX3_readCommand cX3_readCommand 3 (some .boolean) rmX3_readCommand fX3_readCommand := mct_of (o := 3) (rk := 1) (by decide +kernel) rfl ckX3_readCommand rfl ⟨rfl, rfl⟩ caX3_readCommand (no38 (by decide +kernel)) (by decide +kernel) mLim_ex
def cdX3_read : List MI := [(8, 0, 0, 0, 0, 0, []), (0, 0, 0, 0, 0, 0, []), (31, 19, 3, 2, 0, 0, []), (8, 0, 0, 0, 0, 0, []), (0, 0, 0, 0, 0, 0, []), (31, 22, 3, 3, 0, 0, []), (0, 0, 0, 0, 0, 0, []), (9, 1, 0, 0, 0, 0, []), (6, 1, 0, 0, 0, 0, []), (1, 0, 0, 0, 25, 0, []), (25, 33, 4, 0, 0, 0, []), (8, 0, 0, 0, 0, 0, []), (41, 33, 0, 1, 0, 0, [(0, 3)]), (8, 0, 0, 0, 0, 0, []), (30, 19, 3, 2, 0, 0, []), (8, 0, 0, 0, 0, 0, []), (30, 15, 3, 1, 0, 0, []), (25, 20, 2, 0, 0, 0, []), (0, 0, 0, 0, 1, 0, []), (51, 0, 0, 0, 0, 0, []), (8, 0, 0, 0, 0, 0, []), (40, 36, 1, 1, 0, 0, [(0, 3)]), (24, 25, 1, 0, 0, 0, []), (0, 0, 0, 0, 0, 0, []), (51, 0, 0, 0, 0, 0, []), (8, 0, 0, 0, 0, 0, []), (21, 0, 0, 0, 0, 0, []), (30, 22, 3, 3, 0, 0, []), (0, 0, 0, 0, 1, 0, []), (12, 0, 0, 0, 0, 0, []), (31, 22, 3, 3, 0, 0, []), (11, 1, 0, 0, 1, 0, []), (26, 8, 0, 0, 0, 0, []), (0, 0, 0, 0, 0, 0, []), (51, 0, 0, 0, 0, 0, [])]
noncomputable def FX3_read : Nat → MF := fun k => match k with
  | 0 => fX3_skipSpaces
  | 1 => fX3_readCommand
  | _ => fun _ _ => none
noncomputable def fX3_read : MF := mLim 2 FX3_read cdX3_read
theorem ckX3_read : mCk 3 2 1 cX3_read cdX3_read = true := by decide +kernel
def rmX3_read : Room := { frames := 9, cells := 0, slots := 0, locals := 229 }
theorem caX3_read : allC rmX3_read 3 FX3_read (cdX3_read.filter isCall) := (show MCall rmX3_read 3 FX3_read (41, 33, 0, 1, 0, 0, [(0, 3)]) ∧ MCall rmX3_read 3 FX3_read (40, 36, 1, 1, 0, 0, [(0, 3)]) ∧ True from ⟨⟨yX3_skipSpaces, cX3_skipSpaces, 1, _, rmX3_skipSpaces, 0, ctX3_skipSpaces, ykX3_skipSpaces, ⟨rfl, rfl, by decide, by decide⟩, ⟨ml_3_33, yvX3_skipSpaces, rfl, rfl, Or.inl (by decide)⟩⟩, ⟨yX3_readCommand, cX3_readCommand, 3, _, rmX3_readCommand, 0, ctX3_readCommand, ykX3_readCommand, ⟨rfl, rfl, by decide, by decide⟩, ⟨ml_3_36, yvX3_readCommand, rfl, rfl, Or.inl (by decide)⟩⟩, trivial⟩)
theorem ctX3_read : MCt yX3_read cX3_read 2 (some .boolean) rmX3_read fX3_read := mct_of (o := 3) (rk := 1) (by decide +kernel) rfl ckX3_read rfl ⟨rfl, rfl⟩ caX3_read (no38 (by decide +kernel)) (by decide +kernel) mLim_ex
def cdX4_property : List MI := [(6, 1, 0, 0, 0, 0, []), (27, 23, 43, 0, 0, 0, [(0, 2), (1, 5), (2, 8), (3, 11), (4, 14), (5, 17), (6, 20)]), (8, 0, 0, 0, 0, 0, []), (30, 7, 4, 0, 0, 0, []), (50, 0, 0, 0, 0, 0, []), (8, 0, 0, 0, 0, 0, []), (30, 13, 4, 1, 0, 0, []), (50, 0, 0, 0, 0, 0, []), (8, 0, 0, 0, 0, 0, []), (30, 16, 4, 2, 0, 0, []), (50, 0, 0, 0, 0, 0, []), (8, 0, 0, 0, 0, 0, []), (30, 19, 4, 3, 0, 0, []), (50, 0, 0, 0, 0, 0, []), (8, 0, 0, 0, 0, 0, []), (30, 22, 4, 4, 0, 0, []), (50, 0, 0, 0, 0, 0, []), (8, 0, 0, 0, 0, 0, []), (30, 25, 4, 5, 0, 0, []), (50, 0, 0, 0, 0, 0, []), (8, 0, 0, 0, 0, 0, []), (30, 28, 4, 6, 0, 0, []), (50, 0, 0, 0, 0, 0, []), (8, 0, 0, 0, 0, 0, []), (40, 31, 0, 1, 0, 0, [(0, 4)]), (50, 0, 0, 0, 0, 0, [])]
noncomputable def FX4_property : Nat → MF := fun k => match k with
  | 0 => fX4_left
  | _ => fun _ _ => none
noncomputable def fX4_property : MF := mLim 2 FX4_property cdX4_property
theorem ckX4_property : mCk 4 2 0 cX4_property cdX4_property = true := by decide +kernel
def rmX4_property : Room := { frames := 1, cells := 0, slots := 0, locals := 20 }
theorem caX4_property : allC rmX4_property 4 FX4_property (cdX4_property.filter isCall) := (show MCall rmX4_property 4 FX4_property (40, 31, 0, 1, 0, 0, [(0, 4)]) ∧ True from ⟨⟨yX4_left, cX4_left, 1, _, rmX4_left, 0, ctX4_left, ykX4_left, ⟨rfl, rfl, by decide, by decide⟩, ⟨ml_4_31, yvX4_left, rfl, rfl, Or.inl (by decide)⟩⟩, trivial⟩)
theorem ctX4_property : MCt yX4_property cX4_property 2 (some .int) rmX4_property fX4_property := mct_of (o := 4) (rk := 0) (by decide +kernel) rfl ckX4_property rfl ⟨rfl, rfl⟩ caX4_property (no38 (by decide +kernel)) (by decide +kernel) mLim_ex
def cdX5_property : List MI := [(6, 1, 0, 0, 0, 0, []), (28, 8, 27, 0, 0, 0, [(0, 2), (1, 5)]), (8, 0, 0, 0, 0, 0, []), (30, 7, 5, 0, 0, 0, []), (50, 0, 0, 0, 0, 0, []), (8, 0, 0, 0, 0, 0, []), (30, 13, 5, 1, 0, 0, []), (50, 0, 0, 0, 0, 0, []), (8, 0, 0, 0, 0, 0, []), (30, 16, 5, 2, 0, 0, []), (50, 0, 0, 0, 0, 0, [])]
noncomputable def FX5_property : Nat → MF := fun k => match k with
  | _ => fun _ _ => none
noncomputable def fX5_property : MF := mLim 2 FX5_property cdX5_property
theorem ckX5_property : mCk 5 2 0 cX5_property cdX5_property = true := by decide +kernel
def rmX5_property : Room := { frames := 0, cells := 0, slots := 0, locals := 0 }
theorem caX5_property : allC rmX5_property 5 FX5_property (cdX5_property.filter isCall) := (show True from trivial)
theorem ctX5_property : MCt yX5_property cX5_property 2 (some .int) rmX5_property fX5_property := mct_of (o := 5) (rk := 0) (by decide +kernel) rfl ckX5_property rfl ⟨rfl, rfl⟩ caX5_property (no38 (by decide +kernel)) (by decide +kernel) mLim_ex
def cdX6_nextPage : List MI := [(8, 0, 0, 0, 0, 0, []), (30, 29, 6, 3, 0, 0, []), (0, 0, 0, 0, 1, 0, []), (12, 0, 0, 0, 0, 0, []), (1, 0, 0, 0, 8, 0, []), (14, 0, 0, 0, 0, 0, []), (50, 0, 0, 0, 0, 0, [])]
noncomputable def FX6_nextPage : Nat → MF := fun k => match k with
  | _ => fun _ _ => none
noncomputable def fX6_nextPage : MF := mLim 1 FX6_nextPage cdX6_nextPage
theorem ckX6_nextPage : mCk 6 1 0 cX6_nextPage cdX6_nextPage = true := by decide +kernel
def rmX6_nextPage : Room := { frames := 0, cells := 0, slots := 0, locals := 0 }
theorem caX6_nextPage : allC rmX6_nextPage 6 FX6_nextPage (cdX6_nextPage.filter isCall) := (show True from trivial)
theorem ctX6_nextPage : MCt yX6_nextPage cX6_nextPage 1 (some .int) rmX6_nextPage fX6_nextPage := mct_of (o := 6) (rk := 0) (by decide +kernel) rfl ckX6_nextPage rfl ⟨rfl, rfl⟩ caX6_nextPage (no38 (by decide +kernel)) (by decide +kernel) mLim_ex
def cdX6_books : List MI := [(8, 0, 0, 0, 0, 0, []), (30, 11, 6, 0, 0, 0, []), (8, 0, 0, 0, 0, 0, []), (30, 29, 6, 3, 0, 0, []), (36, 0, 0, 0, 0, 0, []), (52, 0, 0, 0, 0, 0, [])]
noncomputable def FX6_books : Nat → MF := fun k => match k with
  | _ => fun _ _ => none
noncomputable def fX6_books : MF := mLim 1 FX6_books cdX6_books
theorem ckX6_books : mCk 6 1 2 cX6_books cdX6_books = true := by decide +kernel
def rmX6_books : Room := { frames := 0, cells := 0, slots := 0, locals := 0 }
theorem caX6_books : allC rmX6_books 6 FX6_books (cdX6_books.filter isCall) := (show True from trivial)
theorem ctX6_books : MCt yX6_books cX6_books 1 (some (.object "CiderShop$Books")) rmX6_books fX6_books := mct_of (o := 6) (rk := 2) (by decide +kernel) rfl ckX6_books ⟨_, rfl⟩ ⟨rfl, rfl⟩ caX6_books (no38 (by decide +kernel)) (by decide +kernel) mLim_ex
def cdX6_draft : List MI := [(8, 0, 0, 0, 0, 0, []), (30, 11, 6, 0, 0, 0, []), (8, 0, 0, 0, 0, 0, []), (40, 237, 0, 1, 0, 0, [(0, 6)]), (36, 0, 0, 0, 0, 0, []), (10, 1, 0, 0, 0, 0, []), (8, 1, 0, 0, 0, 0, []), (8, 0, 0, 0, 0, 0, []), (42, 120, 1, 1, 0, 0, [(0, 6)]), (41, 240, 2, 2, 0, 0, [(0, 0)]), (8, 1, 0, 0, 0, 0, []), (52, 0, 0, 0, 0, 0, [])]
noncomputable def FX6_draft : Nat → MF := fun k => match k with
  | 0 => fX6_nextPage
  | 1 => fX6_books
  | 2 => fX0_copyFrom
  | _ => fun _ _ => none
noncomputable def fX6_draft : MF := mLim 2 FX6_draft cdX6_draft
theorem ckX6_draft : mCk 6 2 2 cX6_draft cdX6_draft = true := by decide +kernel
def rmX6_draft : Room := { frames := 3, cells := 0, slots := 0, locals := 69 }
theorem caX6_draft : allC rmX6_draft 6 FX6_draft (cdX6_draft.filter isCall) := (show MCall rmX6_draft 6 FX6_draft (40, 237, 0, 1, 0, 0, [(0, 6)]) ∧ MCall rmX6_draft 6 FX6_draft (42, 120, 1, 1, 0, 0, [(0, 6)]) ∧ MCall rmX6_draft 6 FX6_draft (41, 240, 2, 2, 0, 0, [(0, 0)]) ∧ True from ⟨⟨yX6_nextPage, cX6_nextPage, 1, _, rmX6_nextPage, 0, ctX6_nextPage, ykX6_nextPage, ⟨rfl, rfl, by decide, by decide⟩, ⟨ml_6_237, yvX6_nextPage, rfl, rfl, Or.inl (by decide)⟩⟩, ⟨yX6_books, cX6_books, 1, _, rmX6_books, 0, ctX6_books, ykX6_books, ⟨rfl, rfl, by decide, by decide⟩, ⟨ml_6_120, yvX6_books, rfl, rfl, Or.inl (by decide)⟩⟩, ⟨yX0_copyFrom, cX0_copyFrom, 3, _, rmX0_copyFrom, 1, ctX0_copyFrom, ykX0_copyFrom, ⟨rfl, rfl, by decide, by decide⟩, ⟨ml_6_240, yvX0_copyFrom, rfl, rfl, Or.inl (by decide)⟩⟩, trivial⟩)
theorem ctX6_draft : MCt yX6_draft cX6_draft 2 (some (.object "CiderShop$Books")) rmX6_draft fX6_draft := mct_of (o := 6) (rk := 2) (by decide +kernel) rfl ckX6_draft ⟨_, rfl⟩ ⟨rfl, rfl⟩ caX6_draft (no38 (by decide +kernel)) (by decide +kernel) mLim_ex
def cdX6_finish : List MI := [(6, 2, 0, 0, 0, 0, []), (24, 18, 2, 0, 0, 0, []), (8, 0, 0, 0, 0, 0, []), (8, 0, 0, 0, 0, 0, []), (40, 237, 0, 1, 0, 0, [(0, 6)]), (31, 29, 6, 3, 0, 0, []), (8, 0, 0, 0, 0, 0, []), (8, 0, 0, 0, 0, 0, []), (30, 33, 6, 4, 0, 0, []), (0, 0, 0, 0, 1, 0, []), (12, 0, 0, 0, 0, 0, []), (1, 0, 0, 0, 6, 0, []), (40, 228, 1, 2, 0, 0, []), (31, 33, 6, 4, 0, 0, []), (8, 0, 0, 0, 0, 0, []), (0, 0, 0, 0, 0, 0, []), (31, 36, 6, 5, 0, 0, []), (26, 25, 0, 0, 0, 0, []), (6, 2, 0, 0, 0, 0, []), (1, 0, 0, 0, (-2), 0, []), (25, 25, 1, 0, 0, 0, []), (8, 0, 0, 0, 0, 0, []), (8, 1, 0, 0, 0, 0, []), (30, 243, 0, 8, 0, 0, []), (31, 36, 6, 5, 0, 0, []), (6, 2, 0, 0, 0, 0, []), (50, 0, 0, 0, 0, 0, [])]
noncomputable def FX6_finish : Nat → MF := fun k => match k with
  | 0 => fX6_nextPage
  | 1 => fJ9_min_7cf53
  | _ => fun _ _ => none
noncomputable def fX6_finish : MF := mLim 3 FX6_finish cdX6_finish
theorem ckX6_finish : mCk 6 3 0 cX6_finish cdX6_finish = true := by decide +kernel
def rmX6_finish : Room := { frames := 1, cells := 0, slots := 0, locals := 21 }
theorem caX6_finish : allC rmX6_finish 6 FX6_finish (cdX6_finish.filter isCall) := (show MCall rmX6_finish 6 FX6_finish (40, 237, 0, 1, 0, 0, [(0, 6)]) ∧ MCall rmX6_finish 6 FX6_finish (40, 228, 1, 2, 0, 0, []) ∧ True from ⟨⟨yX6_nextPage, cX6_nextPage, 1, _, rmX6_nextPage, 0, ctX6_nextPage, ykX6_nextPage, ⟨rfl, rfl, by decide, by decide⟩, ⟨ml_6_237, yvX6_nextPage, rfl, rfl, Or.inl (by decide)⟩⟩, ⟨yJ9_min_7cf53, cJ9_min_7cf53, 2, _, rmJ9_min_7cf53, 2, ctJ9_min_7cf53, ykJ9_min_7cf53, ⟨rfl, rfl, by decide, by decide⟩, ⟨Or.inl ml_6_228, ysJ9_min_7cf53, rfl⟩⟩, trivial⟩)
theorem ctX6_finish : MCt yX6_finish cX6_finish 3 (some .int) rmX6_finish fX6_finish := mct_of (o := 6) (rk := 0) (by decide +kernel) rfl ckX6_finish rfl ⟨rfl, rfl⟩ caX6_finish (no38 (by decide +kernel)) (by decide +kernel) mLim_ex
def cdX6_setVariety : List MI := [(8, 0, 0, 0, 0, 0, []), (42, 40, 0, 1, 0, 0, [(0, 6)]), (10, 5, 0, 1, 0, 0, []), (8, 0, 0, 0, 0, 0, []), (8, 5, 0, 1, 0, 0, []), (8, 5, 0, 1, 0, 0, []), (6, 1, 0, 0, 0, 0, []), (6, 2, 0, 0, 0, 0, []), (6, 3, 0, 0, 0, 0, []), (6, 4, 0, 1, 0, 0, []), (40, 44, 1, 5, 0, 0, [(0, 0)]), (40, 48, 2, 3, 0, 0, [(0, 6)]), (50, 0, 0, 0, 0, 0, [])]
noncomputable def FX6_setVariety : Nat → MF := fun k => match k with
  | 0 => fX6_draft
  | 1 => fX0_changeVariety
  | 2 => fX6_finish
  | _ => fun _ _ => none
noncomputable def fX6_setVariety : MF := mLim 6 FX6_setVariety cdX6_setVariety
theorem ckX6_setVariety : mCk 6 6 0 cX6_setVariety cdX6_setVariety = true := by decide +kernel
def rmX6_setVariety : Room := { frames := 4, cells := 0, slots := 0, locals := 90 }
theorem caX6_setVariety : allC rmX6_setVariety 6 FX6_setVariety (cdX6_setVariety.filter isCall) := (show MCall rmX6_setVariety 6 FX6_setVariety (42, 40, 0, 1, 0, 0, [(0, 6)]) ∧ MCall rmX6_setVariety 6 FX6_setVariety (40, 44, 1, 5, 0, 0, [(0, 0)]) ∧ MCall rmX6_setVariety 6 FX6_setVariety (40, 48, 2, 3, 0, 0, [(0, 6)]) ∧ True from ⟨⟨yX6_draft, cX6_draft, 2, _, rmX6_draft, 0, ctX6_draft, ykX6_draft, ⟨rfl, rfl, by decide, by decide⟩, ⟨ml_6_40, yvX6_draft, rfl, rfl, Or.inl (by decide)⟩⟩, ⟨yX0_changeVariety, cX0_changeVariety, 7, _, rmX0_changeVariety, 4, ctX0_changeVariety, ykX0_changeVariety, ⟨rfl, rfl, by decide, by decide⟩, ⟨ml_6_44, yvX0_changeVariety, rfl, rfl, Or.inl (by decide)⟩⟩, ⟨yX6_finish, cX6_finish, 3, _, rmX6_finish, 2, ctX6_finish, ykX6_finish, ⟨rfl, rfl, by decide, by decide⟩, ⟨ml_6_48, yvX6_finish, rfl, rfl, Or.inl (by decide)⟩⟩, trivial⟩)
theorem ctX6_setVariety : MCt yX6_setVariety cX6_setVariety 6 (some .int) rmX6_setVariety fX6_setVariety := mct_of (o := 6) (rk := 0) (by decide +kernel) rfl ckX6_setVariety rfl ⟨rfl, rfl⟩ caX6_setVariety (no38 (by decide +kernel)) (by decide +kernel) mLim_ex
def cdX6_setRates : List MI := [(8, 0, 0, 0, 0, 0, []), (42, 40, 0, 1, 0, 0, [(0, 6)]), (10, 5, 0, 1, 0, 0, []), (8, 0, 0, 0, 0, 0, []), (8, 5, 0, 1, 0, 0, []), (8, 5, 0, 1, 0, 0, []), (6, 1, 0, 0, 0, 0, []), (6, 2, 0, 0, 0, 0, []), (6, 3, 0, 0, 0, 0, []), (6, 4, 0, 1, 0, 0, []), (40, 52, 1, 5, 0, 0, [(0, 0)]), (40, 48, 2, 3, 0, 0, [(0, 6)]), (50, 0, 0, 0, 0, 0, [])]
noncomputable def FX6_setRates : Nat → MF := fun k => match k with
  | 0 => fX6_draft
  | 1 => fX0_changeRates
  | 2 => fX6_finish
  | _ => fun _ _ => none
noncomputable def fX6_setRates : MF := mLim 6 FX6_setRates cdX6_setRates
theorem ckX6_setRates : mCk 6 6 0 cX6_setRates cdX6_setRates = true := by decide +kernel
def rmX6_setRates : Room := { frames := 4, cells := 0, slots := 0, locals := 90 }
theorem caX6_setRates : allC rmX6_setRates 6 FX6_setRates (cdX6_setRates.filter isCall) := (show MCall rmX6_setRates 6 FX6_setRates (42, 40, 0, 1, 0, 0, [(0, 6)]) ∧ MCall rmX6_setRates 6 FX6_setRates (40, 52, 1, 5, 0, 0, [(0, 0)]) ∧ MCall rmX6_setRates 6 FX6_setRates (40, 48, 2, 3, 0, 0, [(0, 6)]) ∧ True from ⟨⟨yX6_draft, cX6_draft, 2, _, rmX6_draft, 0, ctX6_draft, ykX6_draft, ⟨rfl, rfl, by decide, by decide⟩, ⟨ml_6_40, yvX6_draft, rfl, rfl, Or.inl (by decide)⟩⟩, ⟨yX0_changeRates, cX0_changeRates, 6, _, rmX0_changeRates, 4, ctX0_changeRates, ykX0_changeRates, ⟨rfl, rfl, by decide, by decide⟩, ⟨ml_6_52, yvX0_changeRates, rfl, rfl, Or.inl (by decide)⟩⟩, ⟨yX6_finish, cX6_finish, 3, _, rmX6_finish, 2, ctX6_finish, ykX6_finish, ⟨rfl, rfl, by decide, by decide⟩, ⟨ml_6_48, yvX6_finish, rfl, rfl, Or.inl (by decide)⟩⟩, trivial⟩)
theorem ctX6_setRates : MCt yX6_setRates cX6_setRates 6 (some .int) rmX6_setRates fX6_setRates := mct_of (o := 6) (rk := 0) (by decide +kernel) rfl ckX6_setRates rfl ⟨rfl, rfl⟩ caX6_setRates (no38 (by decide +kernel)) (by decide +kernel) mLim_ex
def cdX6_setLabel : List MI := [(8, 0, 0, 0, 0, 0, []), (42, 40, 0, 1, 0, 0, [(0, 6)]), (10, 7, 0, 1, 0, 0, []), (8, 0, 0, 0, 0, 0, []), (8, 7, 0, 1, 0, 0, []), (8, 7, 0, 1, 0, 0, []), (6, 1, 0, 0, 0, 0, []), (6, 2, 0, 0, 0, 0, []), (6, 3, 0, 0, 0, 0, []), (6, 4, 0, 1, 0, 0, []), (6, 5, 0, 1, 0, 0, []), (6, 6, 0, 1, 0, 0, []), (40, 55, 1, 7, 0, 0, [(0, 0)]), (40, 48, 2, 3, 0, 0, [(0, 6)]), (50, 0, 0, 0, 0, 0, [])]
noncomputable def FX6_setLabel : Nat → MF := fun k => match k with
  | 0 => fX6_draft
  | 1 => fX0_changeLabel
  | 2 => fX6_finish
  | _ => fun _ _ => none
noncomputable def fX6_setLabel : MF := mLim 8 FX6_setLabel cdX6_setLabel
theorem ckX6_setLabel : mCk 6 8 0 cX6_setLabel cdX6_setLabel = true := by decide +kernel
def rmX6_setLabel : Room := { frames := 4, cells := 0, slots := 0, locals := 90 }
theorem caX6_setLabel : allC rmX6_setLabel 6 FX6_setLabel (cdX6_setLabel.filter isCall) := (show MCall rmX6_setLabel 6 FX6_setLabel (42, 40, 0, 1, 0, 0, [(0, 6)]) ∧ MCall rmX6_setLabel 6 FX6_setLabel (40, 55, 1, 7, 0, 0, [(0, 0)]) ∧ MCall rmX6_setLabel 6 FX6_setLabel (40, 48, 2, 3, 0, 0, [(0, 6)]) ∧ True from ⟨⟨yX6_draft, cX6_draft, 2, _, rmX6_draft, 0, ctX6_draft, ykX6_draft, ⟨rfl, rfl, by decide, by decide⟩, ⟨ml_6_40, yvX6_draft, rfl, rfl, Or.inl (by decide)⟩⟩, ⟨yX0_changeLabel, cX0_changeLabel, 7, _, rmX0_changeLabel, 6, ctX0_changeLabel, ykX0_changeLabel, ⟨rfl, rfl, by decide, by decide⟩, ⟨ml_6_55, yvX0_changeLabel, rfl, rfl, Or.inl (by decide)⟩⟩, ⟨yX6_finish, cX6_finish, 3, _, rmX6_finish, 2, ctX6_finish, ykX6_finish, ⟨rfl, rfl, by decide, by decide⟩, ⟨ml_6_48, yvX6_finish, rfl, rfl, Or.inl (by decide)⟩⟩, trivial⟩)
theorem ctX6_setLabel : MCt yX6_setLabel cX6_setLabel 8 (some .int) rmX6_setLabel fX6_setLabel := mct_of (o := 6) (rk := 0) (by decide +kernel) rfl ckX6_setLabel rfl ⟨rfl, rfl⟩ caX6_setLabel (no38 (by decide +kernel)) (by decide +kernel) mLim_ex
def cdX6_buy : List MI := [(8, 0, 0, 0, 0, 0, []), (42, 40, 0, 1, 0, 0, [(0, 6)]), (10, 3, 0, 0, 0, 0, []), (8, 0, 0, 0, 0, 0, []), (8, 3, 0, 0, 0, 0, []), (8, 3, 0, 0, 0, 0, []), (6, 1, 0, 0, 0, 0, []), (6, 2, 0, 0, 0, 0, []), (40, 59, 1, 3, 0, 0, [(0, 0)]), (40, 48, 2, 3, 0, 0, [(0, 6)]), (50, 0, 0, 0, 0, 0, [])]
noncomputable def FX6_buy : Nat → MF := fun k => match k with
  | 0 => fX6_draft
  | 1 => fX0_buyLot
  | 2 => fX6_finish
  | _ => fun _ _ => none
noncomputable def fX6_buy : MF := mLim 4 FX6_buy cdX6_buy
theorem ckX6_buy : mCk 6 4 0 cX6_buy cdX6_buy = true := by decide +kernel
def rmX6_buy : Room := { frames := 4, cells := 0, slots := 0, locals := 90 }
theorem caX6_buy : allC rmX6_buy 6 FX6_buy (cdX6_buy.filter isCall) := (show MCall rmX6_buy 6 FX6_buy (42, 40, 0, 1, 0, 0, [(0, 6)]) ∧ MCall rmX6_buy 6 FX6_buy (40, 59, 1, 3, 0, 0, [(0, 0)]) ∧ MCall rmX6_buy 6 FX6_buy (40, 48, 2, 3, 0, 0, [(0, 6)]) ∧ True from ⟨⟨yX6_draft, cX6_draft, 2, _, rmX6_draft, 0, ctX6_draft, ykX6_draft, ⟨rfl, rfl, by decide, by decide⟩, ⟨ml_6_40, yvX6_draft, rfl, rfl, Or.inl (by decide)⟩⟩, ⟨yX0_buyLot, cX0_buyLot, 3, _, rmX0_buyLot, 2, ctX0_buyLot, ykX0_buyLot, ⟨rfl, rfl, by decide, by decide⟩, ⟨ml_6_59, yvX0_buyLot, rfl, rfl, Or.inl (by decide)⟩⟩, ⟨yX6_finish, cX6_finish, 3, _, rmX6_finish, 2, ctX6_finish, ykX6_finish, ⟨rfl, rfl, by decide, by decide⟩, ⟨ml_6_48, yvX6_finish, rfl, rfl, Or.inl (by decide)⟩⟩, trivial⟩)
theorem ctX6_buy : MCt yX6_buy cX6_buy 4 (some .int) rmX6_buy fX6_buy := mct_of (o := 6) (rk := 0) (by decide +kernel) rfl ckX6_buy rfl ⟨rfl, rfl⟩ caX6_buy (no38 (by decide +kernel)) (by decide +kernel) mLim_ex
def cdX6_addTank : List MI := [(8, 0, 0, 0, 0, 0, []), (42, 40, 0, 1, 0, 0, [(0, 6)]), (10, 2, 0, 0, 0, 0, []), (8, 0, 0, 0, 0, 0, []), (8, 2, 0, 0, 0, 0, []), (8, 2, 0, 0, 0, 0, []), (6, 1, 0, 0, 0, 0, []), (40, 63, 1, 2, 0, 0, [(0, 0)]), (40, 48, 2, 3, 0, 0, [(0, 6)]), (50, 0, 0, 0, 0, 0, [])]
noncomputable def FX6_addTank : Nat → MF := fun k => match k with
  | 0 => fX6_draft
  | 1 => fX0_openTank
  | 2 => fX6_finish
  | _ => fun _ _ => none
noncomputable def fX6_addTank : MF := mLim 3 FX6_addTank cdX6_addTank
theorem ckX6_addTank : mCk 6 3 0 cX6_addTank cdX6_addTank = true := by decide +kernel
def rmX6_addTank : Room := { frames := 4, cells := 0, slots := 0, locals := 90 }
theorem caX6_addTank : allC rmX6_addTank 6 FX6_addTank (cdX6_addTank.filter isCall) := (show MCall rmX6_addTank 6 FX6_addTank (42, 40, 0, 1, 0, 0, [(0, 6)]) ∧ MCall rmX6_addTank 6 FX6_addTank (40, 63, 1, 2, 0, 0, [(0, 0)]) ∧ MCall rmX6_addTank 6 FX6_addTank (40, 48, 2, 3, 0, 0, [(0, 6)]) ∧ True from ⟨⟨yX6_draft, cX6_draft, 2, _, rmX6_draft, 0, ctX6_draft, ykX6_draft, ⟨rfl, rfl, by decide, by decide⟩, ⟨ml_6_40, yvX6_draft, rfl, rfl, Or.inl (by decide)⟩⟩, ⟨yX0_openTank, cX0_openTank, 2, _, rmX0_openTank, 1, ctX0_openTank, ykX0_openTank, ⟨rfl, rfl, by decide, by decide⟩, ⟨ml_6_63, yvX0_openTank, rfl, rfl, Or.inl (by decide)⟩⟩, ⟨yX6_finish, cX6_finish, 3, _, rmX6_finish, 2, ctX6_finish, ykX6_finish, ⟨rfl, rfl, by decide, by decide⟩, ⟨ml_6_48, yvX6_finish, rfl, rfl, Or.inl (by decide)⟩⟩, trivial⟩)
theorem ctX6_addTank : MCt yX6_addTank cX6_addTank 3 (some .int) rmX6_addTank fX6_addTank := mct_of (o := 6) (rk := 0) (by decide +kernel) rfl ckX6_addTank rfl ⟨rfl, rfl⟩ caX6_addTank (no38 (by decide +kernel)) (by decide +kernel) mLim_ex
def cdX6_press : List MI := [(8, 0, 0, 0, 0, 0, []), (42, 40, 0, 1, 0, 0, [(0, 6)]), (10, 4, 0, 1, 0, 0, []), (8, 0, 0, 0, 0, 0, []), (8, 4, 0, 1, 0, 0, []), (8, 4, 0, 1, 0, 0, []), (6, 1, 0, 0, 0, 0, []), (6, 2, 0, 0, 0, 0, []), (6, 3, 0, 0, 0, 0, []), (40, 67, 1, 4, 0, 0, [(0, 0)]), (40, 48, 2, 3, 0, 0, [(0, 6)]), (50, 0, 0, 0, 0, 0, [])]
noncomputable def FX6_press : Nat → MF := fun k => match k with
  | 0 => fX6_draft
  | 1 => fX0_pressLot
  | 2 => fX6_finish
  | _ => fun _ _ => none
noncomputable def fX6_press : MF := mLim 5 FX6_press cdX6_press
theorem ckX6_press : mCk 6 5 0 cX6_press cdX6_press = true := by decide +kernel
def rmX6_press : Room := { frames := 4, cells := 0, slots := 0, locals := 90 }
theorem caX6_press : allC rmX6_press 6 FX6_press (cdX6_press.filter isCall) := (show MCall rmX6_press 6 FX6_press (42, 40, 0, 1, 0, 0, [(0, 6)]) ∧ MCall rmX6_press 6 FX6_press (40, 67, 1, 4, 0, 0, [(0, 0)]) ∧ MCall rmX6_press 6 FX6_press (40, 48, 2, 3, 0, 0, [(0, 6)]) ∧ True from ⟨⟨yX6_draft, cX6_draft, 2, _, rmX6_draft, 0, ctX6_draft, ykX6_draft, ⟨rfl, rfl, by decide, by decide⟩, ⟨ml_6_40, yvX6_draft, rfl, rfl, Or.inl (by decide)⟩⟩, ⟨yX0_pressLot, cX0_pressLot, 7, _, rmX0_pressLot, 3, ctX0_pressLot, ykX0_pressLot, ⟨rfl, rfl, by decide, by decide⟩, ⟨ml_6_67, yvX0_pressLot, rfl, rfl, Or.inl (by decide)⟩⟩, ⟨yX6_finish, cX6_finish, 3, _, rmX6_finish, 2, ctX6_finish, ykX6_finish, ⟨rfl, rfl, by decide, by decide⟩, ⟨ml_6_48, yvX6_finish, rfl, rfl, Or.inl (by decide)⟩⟩, trivial⟩)
theorem ctX6_press : MCt yX6_press cX6_press 5 (some .int) rmX6_press fX6_press := mct_of (o := 6) (rk := 0) (by decide +kernel) rfl ckX6_press rfl ⟨rfl, rfl⟩ caX6_press (no38 (by decide +kernel)) (by decide +kernel) mLim_ex
def cdX6_wet : List MI := [(8, 0, 0, 0, 0, 0, []), (42, 40, 0, 1, 0, 0, [(0, 6)]), (10, 3, 0, 0, 0, 0, []), (8, 0, 0, 0, 0, 0, []), (8, 3, 0, 0, 0, 0, []), (8, 3, 0, 0, 0, 0, []), (6, 1, 0, 0, 0, 0, []), (6, 2, 0, 0, 0, 0, []), (40, 71, 1, 3, 0, 0, [(0, 0)]), (40, 48, 2, 3, 0, 0, [(0, 6)]), (50, 0, 0, 0, 0, 0, [])]
noncomputable def FX6_wet : Nat → MF := fun k => match k with
  | 0 => fX6_draft
  | 1 => fX0_wetHeap
  | 2 => fX6_finish
  | _ => fun _ _ => none
noncomputable def fX6_wet : MF := mLim 4 FX6_wet cdX6_wet
theorem ckX6_wet : mCk 6 4 0 cX6_wet cdX6_wet = true := by decide +kernel
def rmX6_wet : Room := { frames := 4, cells := 0, slots := 0, locals := 90 }
theorem caX6_wet : allC rmX6_wet 6 FX6_wet (cdX6_wet.filter isCall) := (show MCall rmX6_wet 6 FX6_wet (42, 40, 0, 1, 0, 0, [(0, 6)]) ∧ MCall rmX6_wet 6 FX6_wet (40, 71, 1, 3, 0, 0, [(0, 0)]) ∧ MCall rmX6_wet 6 FX6_wet (40, 48, 2, 3, 0, 0, [(0, 6)]) ∧ True from ⟨⟨yX6_draft, cX6_draft, 2, _, rmX6_draft, 0, ctX6_draft, ykX6_draft, ⟨rfl, rfl, by decide, by decide⟩, ⟨ml_6_40, yvX6_draft, rfl, rfl, Or.inl (by decide)⟩⟩, ⟨yX0_wetHeap, cX0_wetHeap, 4, _, rmX0_wetHeap, 2, ctX0_wetHeap, ykX0_wetHeap, ⟨rfl, rfl, by decide, by decide⟩, ⟨ml_6_71, yvX0_wetHeap, rfl, rfl, Or.inl (by decide)⟩⟩, ⟨yX6_finish, cX6_finish, 3, _, rmX6_finish, 2, ctX6_finish, ykX6_finish, ⟨rfl, rfl, by decide, by decide⟩, ⟨ml_6_48, yvX6_finish, rfl, rfl, Or.inl (by decide)⟩⟩, trivial⟩)
theorem ctX6_wet : MCt yX6_wet cX6_wet 4 (some .int) rmX6_wet fX6_wet := mct_of (o := 6) (rk := 0) (by decide +kernel) rfl ckX6_wet rfl ⟨rfl, rfl⟩ caX6_wet (no38 (by decide +kernel)) (by decide +kernel) mLim_ex
def cdX6_sellPomace : List MI := [(8, 0, 0, 0, 0, 0, []), (42, 40, 0, 1, 0, 0, [(0, 6)]), (10, 1, 0, 0, 0, 0, []), (8, 0, 0, 0, 0, 0, []), (8, 1, 0, 0, 0, 0, []), (8, 1, 0, 0, 0, 0, []), (40, 74, 1, 1, 0, 0, [(0, 0)]), (40, 48, 2, 3, 0, 0, [(0, 6)]), (50, 0, 0, 0, 0, 0, [])]
noncomputable def FX6_sellPomace : Nat → MF := fun k => match k with
  | 0 => fX6_draft
  | 1 => fX0_sellHeap
  | 2 => fX6_finish
  | _ => fun _ _ => none
noncomputable def fX6_sellPomace : MF := mLim 2 FX6_sellPomace cdX6_sellPomace
theorem ckX6_sellPomace : mCk 6 2 0 cX6_sellPomace cdX6_sellPomace = true := by decide +kernel
def rmX6_sellPomace : Room := { frames := 4, cells := 0, slots := 0, locals := 90 }
theorem caX6_sellPomace : allC rmX6_sellPomace 6 FX6_sellPomace (cdX6_sellPomace.filter isCall) := (show MCall rmX6_sellPomace 6 FX6_sellPomace (42, 40, 0, 1, 0, 0, [(0, 6)]) ∧ MCall rmX6_sellPomace 6 FX6_sellPomace (40, 74, 1, 1, 0, 0, [(0, 0)]) ∧ MCall rmX6_sellPomace 6 FX6_sellPomace (40, 48, 2, 3, 0, 0, [(0, 6)]) ∧ True from ⟨⟨yX6_draft, cX6_draft, 2, _, rmX6_draft, 0, ctX6_draft, ykX6_draft, ⟨rfl, rfl, by decide, by decide⟩, ⟨ml_6_40, yvX6_draft, rfl, rfl, Or.inl (by decide)⟩⟩, ⟨yX0_sellHeap, cX0_sellHeap, 2, _, rmX0_sellHeap, 0, ctX0_sellHeap, ykX0_sellHeap, ⟨rfl, rfl, by decide, by decide⟩, ⟨ml_6_74, yvX0_sellHeap, rfl, rfl, Or.inl (by decide)⟩⟩, ⟨yX6_finish, cX6_finish, 3, _, rmX6_finish, 2, ctX6_finish, ykX6_finish, ⟨rfl, rfl, by decide, by decide⟩, ⟨ml_6_48, yvX6_finish, rfl, rfl, Or.inl (by decide)⟩⟩, trivial⟩)
theorem ctX6_sellPomace : MCt yX6_sellPomace cX6_sellPomace 2 (some .int) rmX6_sellPomace fX6_sellPomace := mct_of (o := 6) (rk := 0) (by decide +kernel) rfl ckX6_sellPomace rfl ⟨rfl, rfl⟩ caX6_sellPomace (no38 (by decide +kernel)) (by decide +kernel) mLim_ex
def cdX6_move : List MI := [(8, 0, 0, 0, 0, 0, []), (42, 40, 0, 1, 0, 0, [(0, 6)]), (10, 4, 0, 1, 0, 0, []), (8, 0, 0, 0, 0, 0, []), (8, 4, 0, 1, 0, 0, []), (8, 4, 0, 1, 0, 0, []), (6, 1, 0, 0, 0, 0, []), (6, 2, 0, 0, 0, 0, []), (6, 3, 0, 0, 0, 0, []), (40, 78, 1, 4, 0, 0, [(0, 0)]), (40, 48, 2, 3, 0, 0, [(0, 6)]), (50, 0, 0, 0, 0, 0, [])]
noncomputable def FX6_move : Nat → MF := fun k => match k with
  | 0 => fX6_draft
  | 1 => fX0_moveJuice
  | 2 => fX6_finish
  | _ => fun _ _ => none
noncomputable def fX6_move : MF := mLim 5 FX6_move cdX6_move
theorem ckX6_move : mCk 6 5 0 cX6_move cdX6_move = true := by decide +kernel
def rmX6_move : Room := { frames := 4, cells := 0, slots := 0, locals := 90 }
theorem caX6_move : allC rmX6_move 6 FX6_move (cdX6_move.filter isCall) := (show MCall rmX6_move 6 FX6_move (42, 40, 0, 1, 0, 0, [(0, 6)]) ∧ MCall rmX6_move 6 FX6_move (40, 78, 1, 4, 0, 0, [(0, 0)]) ∧ MCall rmX6_move 6 FX6_move (40, 48, 2, 3, 0, 0, [(0, 6)]) ∧ True from ⟨⟨yX6_draft, cX6_draft, 2, _, rmX6_draft, 0, ctX6_draft, ykX6_draft, ⟨rfl, rfl, by decide, by decide⟩, ⟨ml_6_40, yvX6_draft, rfl, rfl, Or.inl (by decide)⟩⟩, ⟨yX0_moveJuice, cX0_moveJuice, 5, _, rmX0_moveJuice, 3, ctX0_moveJuice, ykX0_moveJuice, ⟨rfl, rfl, by decide, by decide⟩, ⟨ml_6_78, yvX0_moveJuice, rfl, rfl, Or.inl (by decide)⟩⟩, ⟨yX6_finish, cX6_finish, 3, _, rmX6_finish, 2, ctX6_finish, ykX6_finish, ⟨rfl, rfl, by decide, by decide⟩, ⟨ml_6_48, yvX6_finish, rfl, rfl, Or.inl (by decide)⟩⟩, trivial⟩)
theorem ctX6_move : MCt yX6_move cX6_move 5 (some .int) rmX6_move fX6_move := mct_of (o := 6) (rk := 0) (by decide +kernel) rfl ckX6_move rfl ⟨rfl, rfl⟩ caX6_move (no38 (by decide +kernel)) (by decide +kernel) mLim_ex
def cdX6_rack : List MI := [(8, 0, 0, 0, 0, 0, []), (42, 40, 0, 1, 0, 0, [(0, 6)]), (10, 3, 0, 0, 0, 0, []), (8, 0, 0, 0, 0, 0, []), (8, 3, 0, 0, 0, 0, []), (8, 3, 0, 0, 0, 0, []), (6, 1, 0, 0, 0, 0, []), (6, 2, 0, 0, 0, 0, []), (40, 81, 1, 3, 0, 0, [(0, 0)]), (40, 48, 2, 3, 0, 0, [(0, 6)]), (50, 0, 0, 0, 0, 0, [])]
noncomputable def FX6_rack : Nat → MF := fun k => match k with
  | 0 => fX6_draft
  | 1 => fX0_rackJuice
  | 2 => fX6_finish
  | _ => fun _ _ => none
noncomputable def fX6_rack : MF := mLim 4 FX6_rack cdX6_rack
theorem ckX6_rack : mCk 6 4 0 cX6_rack cdX6_rack = true := by decide +kernel
def rmX6_rack : Room := { frames := 4, cells := 0, slots := 0, locals := 90 }
theorem caX6_rack : allC rmX6_rack 6 FX6_rack (cdX6_rack.filter isCall) := (show MCall rmX6_rack 6 FX6_rack (42, 40, 0, 1, 0, 0, [(0, 6)]) ∧ MCall rmX6_rack 6 FX6_rack (40, 81, 1, 3, 0, 0, [(0, 0)]) ∧ MCall rmX6_rack 6 FX6_rack (40, 48, 2, 3, 0, 0, [(0, 6)]) ∧ True from ⟨⟨yX6_draft, cX6_draft, 2, _, rmX6_draft, 0, ctX6_draft, ykX6_draft, ⟨rfl, rfl, by decide, by decide⟩, ⟨ml_6_40, yvX6_draft, rfl, rfl, Or.inl (by decide)⟩⟩, ⟨yX0_rackJuice, cX0_rackJuice, 4, _, rmX0_rackJuice, 2, ctX0_rackJuice, ykX0_rackJuice, ⟨rfl, rfl, by decide, by decide⟩, ⟨ml_6_81, yvX0_rackJuice, rfl, rfl, Or.inl (by decide)⟩⟩, ⟨yX6_finish, cX6_finish, 3, _, rmX6_finish, 2, ctX6_finish, ykX6_finish, ⟨rfl, rfl, by decide, by decide⟩, ⟨ml_6_48, yvX6_finish, rfl, rfl, Or.inl (by decide)⟩⟩, trivial⟩)
theorem ctX6_rack : MCt yX6_rack cX6_rack 4 (some .int) rmX6_rack fX6_rack := mct_of (o := 6) (rk := 0) (by decide +kernel) rfl ckX6_rack rfl ⟨rfl, rfl⟩ caX6_rack (no38 (by decide +kernel)) (by decide +kernel) mLim_ex
def cdX6_clean : List MI := [(8, 0, 0, 0, 0, 0, []), (42, 40, 0, 1, 0, 0, [(0, 6)]), (10, 2, 0, 0, 0, 0, []), (8, 0, 0, 0, 0, 0, []), (8, 2, 0, 0, 0, 0, []), (8, 2, 0, 0, 0, 0, []), (6, 1, 0, 0, 0, 0, []), (40, 84, 1, 2, 0, 0, [(0, 0)]), (40, 48, 2, 3, 0, 0, [(0, 6)]), (50, 0, 0, 0, 0, 0, [])]
noncomputable def FX6_clean : Nat → MF := fun k => match k with
  | 0 => fX6_draft
  | 1 => fX0_cleanTank
  | 2 => fX6_finish
  | _ => fun _ _ => none
noncomputable def fX6_clean : MF := mLim 3 FX6_clean cdX6_clean
theorem ckX6_clean : mCk 6 3 0 cX6_clean cdX6_clean = true := by decide +kernel
def rmX6_clean : Room := { frames := 4, cells := 0, slots := 0, locals := 90 }
theorem caX6_clean : allC rmX6_clean 6 FX6_clean (cdX6_clean.filter isCall) := (show MCall rmX6_clean 6 FX6_clean (42, 40, 0, 1, 0, 0, [(0, 6)]) ∧ MCall rmX6_clean 6 FX6_clean (40, 84, 1, 2, 0, 0, [(0, 0)]) ∧ MCall rmX6_clean 6 FX6_clean (40, 48, 2, 3, 0, 0, [(0, 6)]) ∧ True from ⟨⟨yX6_draft, cX6_draft, 2, _, rmX6_draft, 0, ctX6_draft, ykX6_draft, ⟨rfl, rfl, by decide, by decide⟩, ⟨ml_6_40, yvX6_draft, rfl, rfl, Or.inl (by decide)⟩⟩, ⟨yX0_cleanTank, cX0_cleanTank, 3, _, rmX0_cleanTank, 1, ctX0_cleanTank, ykX0_cleanTank, ⟨rfl, rfl, by decide, by decide⟩, ⟨ml_6_84, yvX0_cleanTank, rfl, rfl, Or.inl (by decide)⟩⟩, ⟨yX6_finish, cX6_finish, 3, _, rmX6_finish, 2, ctX6_finish, ykX6_finish, ⟨rfl, rfl, by decide, by decide⟩, ⟨ml_6_48, yvX6_finish, rfl, rfl, Or.inl (by decide)⟩⟩, trivial⟩)
theorem ctX6_clean : MCt yX6_clean cX6_clean 3 (some .int) rmX6_clean fX6_clean := mct_of (o := 6) (rk := 0) (by decide +kernel) rfl ckX6_clean rfl ⟨rfl, rfl⟩ caX6_clean (no38 (by decide +kernel)) (by decide +kernel) mLim_ex
def cdX6_pour : List MI := [(8, 0, 0, 0, 0, 0, []), (42, 40, 0, 1, 0, 0, [(0, 6)]), (10, 2, 0, 0, 0, 0, []), (8, 0, 0, 0, 0, 0, []), (8, 2, 0, 0, 0, 0, []), (8, 2, 0, 0, 0, 0, []), (6, 1, 0, 0, 0, 0, []), (40, 87, 1, 2, 0, 0, [(0, 0)]), (40, 48, 2, 3, 0, 0, [(0, 6)]), (50, 0, 0, 0, 0, 0, [])]
noncomputable def FX6_pour : Nat → MF := fun k => match k with
  | 0 => fX6_draft
  | 1 => fX0_pourJuice
  | 2 => fX6_finish
  | _ => fun _ _ => none
noncomputable def fX6_pour : MF := mLim 3 FX6_pour cdX6_pour
theorem ckX6_pour : mCk 6 3 0 cX6_pour cdX6_pour = true := by decide +kernel
def rmX6_pour : Room := { frames := 4, cells := 0, slots := 0, locals := 90 }
theorem caX6_pour : allC rmX6_pour 6 FX6_pour (cdX6_pour.filter isCall) := (show MCall rmX6_pour 6 FX6_pour (42, 40, 0, 1, 0, 0, [(0, 6)]) ∧ MCall rmX6_pour 6 FX6_pour (40, 87, 1, 2, 0, 0, [(0, 0)]) ∧ MCall rmX6_pour 6 FX6_pour (40, 48, 2, 3, 0, 0, [(0, 6)]) ∧ True from ⟨⟨yX6_draft, cX6_draft, 2, _, rmX6_draft, 0, ctX6_draft, ykX6_draft, ⟨rfl, rfl, by decide, by decide⟩, ⟨ml_6_40, yvX6_draft, rfl, rfl, Or.inl (by decide)⟩⟩, ⟨yX0_pourJuice, cX0_pourJuice, 3, _, rmX0_pourJuice, 1, ctX0_pourJuice, ykX0_pourJuice, ⟨rfl, rfl, by decide, by decide⟩, ⟨ml_6_87, yvX0_pourJuice, rfl, rfl, Or.inl (by decide)⟩⟩, ⟨yX6_finish, cX6_finish, 3, _, rmX6_finish, 2, ctX6_finish, ykX6_finish, ⟨rfl, rfl, by decide, by decide⟩, ⟨ml_6_48, yvX6_finish, rfl, rfl, Or.inl (by decide)⟩⟩, trivial⟩)
theorem ctX6_pour : MCt yX6_pour cX6_pour 3 (some .int) rmX6_pour fX6_pour := mct_of (o := 6) (rk := 0) (by decide +kernel) rfl ckX6_pour rfl ⟨rfl, rfl⟩ caX6_pour (no38 (by decide +kernel)) (by decide +kernel) mLim_ex
def cdX6_bottle : List MI := [(8, 0, 0, 0, 0, 0, []), (42, 40, 0, 1, 0, 0, [(0, 6)]), (10, 5, 0, 1, 0, 0, []), (8, 0, 0, 0, 0, 0, []), (8, 5, 0, 1, 0, 0, []), (8, 5, 0, 1, 0, 0, []), (6, 1, 0, 0, 0, 0, []), (6, 2, 0, 0, 0, 0, []), (6, 3, 0, 0, 0, 0, []), (6, 4, 0, 1, 0, 0, []), (40, 90, 1, 5, 0, 0, [(0, 0)]), (40, 48, 2, 3, 0, 0, [(0, 6)]), (50, 0, 0, 0, 0, 0, [])]
noncomputable def FX6_bottle : Nat → MF := fun k => match k with
  | 0 => fX6_draft
  | 1 => fX0_bottleJuice
  | 2 => fX6_finish
  | _ => fun _ _ => none
noncomputable def fX6_bottle : MF := mLim 6 FX6_bottle cdX6_bottle
theorem ckX6_bottle : mCk 6 6 0 cX6_bottle cdX6_bottle = true := by decide +kernel
def rmX6_bottle : Room := { frames := 4, cells := 0, slots := 0, locals := 94 }
theorem caX6_bottle : allC rmX6_bottle 6 FX6_bottle (cdX6_bottle.filter isCall) := (show MCall rmX6_bottle 6 FX6_bottle (42, 40, 0, 1, 0, 0, [(0, 6)]) ∧ MCall rmX6_bottle 6 FX6_bottle (40, 90, 1, 5, 0, 0, [(0, 0)]) ∧ MCall rmX6_bottle 6 FX6_bottle (40, 48, 2, 3, 0, 0, [(0, 6)]) ∧ True from ⟨⟨yX6_draft, cX6_draft, 2, _, rmX6_draft, 0, ctX6_draft, ykX6_draft, ⟨rfl, rfl, by decide, by decide⟩, ⟨ml_6_40, yvX6_draft, rfl, rfl, Or.inl (by decide)⟩⟩, ⟨yX0_bottleJuice, cX0_bottleJuice, 7, _, rmX0_bottleJuice, 4, ctX0_bottleJuice, ykX0_bottleJuice, ⟨rfl, rfl, by decide, by decide⟩, ⟨ml_6_90, yvX0_bottleJuice, rfl, rfl, Or.inl (by decide)⟩⟩, ⟨yX6_finish, cX6_finish, 3, _, rmX6_finish, 2, ctX6_finish, ykX6_finish, ⟨rfl, rfl, by decide, by decide⟩, ⟨ml_6_48, yvX6_finish, rfl, rfl, Or.inl (by decide)⟩⟩, trivial⟩)
theorem ctX6_bottle : MCt yX6_bottle cX6_bottle 6 (some .int) rmX6_bottle fX6_bottle := mct_of (o := 6) (rk := 0) (by decide +kernel) rfl ckX6_bottle rfl ⟨rfl, rfl⟩ caX6_bottle (no38 (by decide +kernel)) (by decide +kernel) mLim_ex
def cdX6_day : List MI := [(8, 0, 0, 0, 0, 0, []), (42, 40, 0, 1, 0, 0, [(0, 6)]), (10, 1, 0, 0, 0, 0, []), (8, 0, 0, 0, 0, 0, []), (8, 1, 0, 0, 0, 0, []), (8, 1, 0, 0, 0, 0, []), (40, 93, 1, 1, 0, 0, [(0, 0)]), (40, 48, 2, 3, 0, 0, [(0, 6)]), (50, 0, 0, 0, 0, 0, [])]
noncomputable def FX6_day : Nat → MF := fun k => match k with
  | 0 => fX6_draft
  | 1 => fX0_passDay
  | 2 => fX6_finish
  | _ => fun _ _ => none
noncomputable def fX6_day : MF := mLim 2 FX6_day cdX6_day
theorem ckX6_day : mCk 6 2 0 cX6_day cdX6_day = true := by decide +kernel
def rmX6_day : Room := { frames := 4, cells := 0, slots := 0, locals := 90 }
theorem caX6_day : allC rmX6_day 6 FX6_day (cdX6_day.filter isCall) := (show MCall rmX6_day 6 FX6_day (42, 40, 0, 1, 0, 0, [(0, 6)]) ∧ MCall rmX6_day 6 FX6_day (40, 93, 1, 1, 0, 0, [(0, 0)]) ∧ MCall rmX6_day 6 FX6_day (40, 48, 2, 3, 0, 0, [(0, 6)]) ∧ True from ⟨⟨yX6_draft, cX6_draft, 2, _, rmX6_draft, 0, ctX6_draft, ykX6_draft, ⟨rfl, rfl, by decide, by decide⟩, ⟨ml_6_40, yvX6_draft, rfl, rfl, Or.inl (by decide)⟩⟩, ⟨yX0_passDay, cX0_passDay, 3, _, rmX0_passDay, 0, ctX0_passDay, ykX0_passDay, ⟨rfl, rfl, by decide, by decide⟩, ⟨ml_6_93, yvX0_passDay, rfl, rfl, Or.inl (by decide)⟩⟩, ⟨yX6_finish, cX6_finish, 3, _, rmX6_finish, 2, ctX6_finish, ykX6_finish, ⟨rfl, rfl, by decide, by decide⟩, ⟨ml_6_48, yvX6_finish, rfl, rfl, Or.inl (by decide)⟩⟩, trivial⟩)
theorem ctX6_day : MCt yX6_day cX6_day 2 (some .int) rmX6_day fX6_day := mct_of (o := 6) (rk := 0) (by decide +kernel) rfl ckX6_day rfl ⟨rfl, rfl⟩ caX6_day (no38 (by decide +kernel)) (by decide +kernel) mLim_ex
def cdX6_appendCharacter : List MI := [(6, 1, 0, 0, 0, 0, []), (0, 0, 0, 0, 0, 0, []), (2, 0, 0, 0, 255, 0, []), (40, 96, 0, 3, 0, 0, []), (24, 7, 1, 0, 0, 0, []), (0, 0, 0, 0, (-1), 0, []), (50, 0, 0, 0, 0, 0, []), (8, 0, 0, 0, 0, 0, []), (30, 25, 6, 2, 0, 0, []), (6, 1, 0, 0, 0, 0, []), (15, 0, 2, 0, 0, 0, []), (40, 100, 1, 2, 0, 0, [(0, 3)]), (50, 0, 0, 0, 0, 0, [])]
noncomputable def FX6_appendCharacter : Nat → MF := fun k => match k with
  | 0 => fX6_within
  | 1 => fX3_append
  | _ => fun _ _ => none
noncomputable def fX6_appendCharacter : MF := mLim 2 FX6_appendCharacter cdX6_appendCharacter
theorem ckX6_appendCharacter : mCk 6 2 0 cX6_appendCharacter cdX6_appendCharacter = true := by decide +kernel
def rmX6_appendCharacter : Room := { frames := 2, cells := 0, slots := 0, locals := 43 }
theorem caX6_appendCharacter : allC rmX6_appendCharacter 6 FX6_appendCharacter (cdX6_appendCharacter.filter isCall) := (show MCall rmX6_appendCharacter 6 FX6_appendCharacter (40, 96, 0, 3, 0, 0, []) ∧ MCall rmX6_appendCharacter 6 FX6_appendCharacter (40, 100, 1, 2, 0, 0, [(0, 3)]) ∧ True from ⟨⟨yX6_within, cX6_within, 3, _, rmX6_within, 3, ctX6_within, ykX6_within, ⟨rfl, rfl, by decide, by decide⟩, ⟨Or.inl ml_6_96, ysX6_within, rfl⟩⟩, ⟨yX3_append, cX3_append, 2, _, rmX3_append, 1, ctX3_append, ykX3_append, ⟨rfl, rfl, by decide, by decide⟩, ⟨ml_6_100, yvX3_append, rfl, rfl, Or.inl (by decide)⟩⟩, trivial⟩)
theorem ctX6_appendCharacter : MCt yX6_appendCharacter cX6_appendCharacter 2 (some .int) rmX6_appendCharacter fX6_appendCharacter := mct_of (o := 6) (rk := 0) (by decide +kernel) rfl ckX6_appendCharacter rfl ⟨rfl, rfl⟩ caX6_appendCharacter (no38 (by decide +kernel)) (by decide +kernel) mLim_ex
def cdX6_clearText : List MI := [(8, 0, 0, 0, 0, 0, []), (30, 25, 6, 2, 0, 0, []), (40, 104, 0, 1, 0, 0, [(0, 3)]), (50, 0, 0, 0, 0, 0, [])]
noncomputable def FX6_clearText : Nat → MF := fun k => match k with
  | 0 => fX3_clear
  | _ => fun _ _ => none
noncomputable def fX6_clearText : MF := mLim 1 FX6_clearText cdX6_clearText
theorem ckX6_clearText : mCk 6 1 0 cX6_clearText cdX6_clearText = true := by decide +kernel
def rmX6_clearText : Room := { frames := 1, cells := 0, slots := 0, locals := 21 }
theorem caX6_clearText : allC rmX6_clearText 6 FX6_clearText (cdX6_clearText.filter isCall) := (show MCall rmX6_clearText 6 FX6_clearText (40, 104, 0, 1, 0, 0, [(0, 3)]) ∧ True from ⟨⟨yX3_clear, cX3_clear, 2, _, rmX3_clear, 0, ctX3_clear, ykX3_clear, ⟨rfl, rfl, by decide, by decide⟩, ⟨ml_6_104, yvX3_clear, rfl, rfl, Or.inl (by decide)⟩⟩, trivial⟩)
theorem ctX6_clearText : MCt yX6_clearText cX6_clearText 1 (some .int) rmX6_clearText fX6_clearText := mct_of (o := 6) (rk := 0) (by decide +kernel) rfl ckX6_clearText rfl ⟨rfl, rfl⟩ caX6_clearText (no38 (by decide +kernel)) (by decide +kernel) mLim_ex
def cdX6_perform : List MI := [(8, 0, 0, 0, 0, 0, []), (30, 25, 6, 2, 0, 0, []), (6, 2, 0, 0, 0, 0, []), (0, 0, 0, 0, 1, 0, []), (40, 246, 0, 3, 0, 0, [(0, 3)]), (9, 3, 0, 0, 0, 0, []), (8, 0, 0, 0, 0, 0, []), (30, 25, 6, 2, 0, 0, []), (6, 2, 0, 0, 0, 0, []), (0, 0, 0, 0, 2, 0, []), (40, 246, 0, 3, 0, 0, [(0, 3)]), (9, 4, 0, 1, 0, 0, []), (8, 0, 0, 0, 0, 0, []), (30, 25, 6, 2, 0, 0, []), (6, 2, 0, 0, 0, 0, []), (0, 0, 0, 0, 3, 0, []), (40, 246, 0, 3, 0, 0, [(0, 3)]), (9, 5, 0, 1, 0, 0, []), (8, 0, 0, 0, 0, 0, []), (30, 25, 6, 2, 0, 0, []), (6, 2, 0, 0, 0, 0, []), (0, 0, 0, 0, 0, 0, []), (40, 246, 0, 3, 0, 0, [(0, 3)]), (27, 61, 39, 0, 0, 0, [(0, 24), (1, 30), (2, 35), (3, 41), (4, 46), (5, 50)]), (8, 1, 0, 0, 0, 0, []), (6, 3, 0, 0, 0, 0, []), (6, 4, 0, 1, 0, 0, []), (6, 5, 0, 1, 0, 0, []), (40, 67, 1, 4, 0, 0, [(0, 0)]), (50, 0, 0, 0, 0, 0, []), (8, 1, 0, 0, 0, 0, []), (6, 3, 0, 0, 0, 0, []), (6, 4, 0, 1, 0, 0, []), (40, 71, 2, 3, 0, 0, [(0, 0)]), (50, 0, 0, 0, 0, 0, []), (8, 1, 0, 0, 0, 0, []), (6, 3, 0, 0, 0, 0, []), (6, 4, 0, 1, 0, 0, []), (6, 5, 0, 1, 0, 0, []), (40, 78, 3, 4, 0, 0, [(0, 0)]), (50, 0, 0, 0, 0, 0, []), (8, 1, 0, 0, 0, 0, []), (6, 3, 0, 0, 0, 0, []), (6, 4, 0, 1, 0, 0, []), (40, 81, 4, 3, 0, 0, [(0, 0)]), (50, 0, 0, 0, 0, 0, []), (8, 1, 0, 0, 0, 0, []), (6, 3, 0, 0, 0, 0, []), (40, 84, 5, 2, 0, 0, [(0, 0)]), (50, 0, 0, 0, 0, 0, []), (8, 1, 0, 0, 0, 0, []), (6, 3, 0, 0, 0, 0, []), (6, 4, 0, 1, 0, 0, []), (6, 5, 0, 1, 0, 0, []), (8, 0, 0, 0, 0, 0, []), (30, 25, 6, 2, 0, 0, []), (6, 2, 0, 0, 0, 0, []), (0, 0, 0, 0, 4, 0, []), (40, 246, 0, 3, 0, 0, [(0, 3)]), (40, 90, 6, 5, 0, 0, [(0, 0)]), (50, 0, 0, 0, 0, 0, []), (8, 1, 0, 0, 0, 0, []), (40, 93, 7, 1, 0, 0, [(0, 0)]), (50, 0, 0, 0, 0, 0, [])]
noncomputable def FX6_perform : Nat → MF := fun k => match k with
  | 0 => fX3_number
  | 1 => fX0_pressLot
  | 2 => fX0_wetHeap
  | 3 => fX0_moveJuice
  | 4 => fX0_rackJuice
  | 5 => fX0_cleanTank
  | 6 => fX0_bottleJuice
  | 7 => fX0_passDay
  | _ => fun _ _ => none
noncomputable def fX6_perform : MF := mLim 6 FX6_perform cdX6_perform
theorem ckX6_perform : mCk 6 6 0 cX6_perform cdX6_perform = true := by decide +kernel
def rmX6_perform : Room := { frames := 4, cells := 0, slots := 0, locals := 94 }
theorem caX6_perform : allC rmX6_perform 6 FX6_perform (cdX6_perform.filter isCall) := (show MCall rmX6_perform 6 FX6_perform (40, 246, 0, 3, 0, 0, [(0, 3)]) ∧ MCall rmX6_perform 6 FX6_perform (40, 246, 0, 3, 0, 0, [(0, 3)]) ∧ MCall rmX6_perform 6 FX6_perform (40, 246, 0, 3, 0, 0, [(0, 3)]) ∧ MCall rmX6_perform 6 FX6_perform (40, 246, 0, 3, 0, 0, [(0, 3)]) ∧ MCall rmX6_perform 6 FX6_perform (40, 67, 1, 4, 0, 0, [(0, 0)]) ∧ MCall rmX6_perform 6 FX6_perform (40, 71, 2, 3, 0, 0, [(0, 0)]) ∧ MCall rmX6_perform 6 FX6_perform (40, 78, 3, 4, 0, 0, [(0, 0)]) ∧ MCall rmX6_perform 6 FX6_perform (40, 81, 4, 3, 0, 0, [(0, 0)]) ∧ MCall rmX6_perform 6 FX6_perform (40, 84, 5, 2, 0, 0, [(0, 0)]) ∧ MCall rmX6_perform 6 FX6_perform (40, 246, 0, 3, 0, 0, [(0, 3)]) ∧ MCall rmX6_perform 6 FX6_perform (40, 90, 6, 5, 0, 0, [(0, 0)]) ∧ MCall rmX6_perform 6 FX6_perform (40, 93, 7, 1, 0, 0, [(0, 0)]) ∧ True from ⟨⟨yX3_number, cX3_number, 4, _, rmX3_number, 2, ctX3_number, ykX3_number, ⟨rfl, rfl, by decide, by decide⟩, ⟨ml_6_246, yvX3_number, rfl, rfl, Or.inl (by decide)⟩⟩, ⟨yX3_number, cX3_number, 4, _, rmX3_number, 2, ctX3_number, ykX3_number, ⟨rfl, rfl, by decide, by decide⟩, ⟨ml_6_246, yvX3_number, rfl, rfl, Or.inl (by decide)⟩⟩, ⟨yX3_number, cX3_number, 4, _, rmX3_number, 2, ctX3_number, ykX3_number, ⟨rfl, rfl, by decide, by decide⟩, ⟨ml_6_246, yvX3_number, rfl, rfl, Or.inl (by decide)⟩⟩, ⟨yX3_number, cX3_number, 4, _, rmX3_number, 2, ctX3_number, ykX3_number, ⟨rfl, rfl, by decide, by decide⟩, ⟨ml_6_246, yvX3_number, rfl, rfl, Or.inl (by decide)⟩⟩, ⟨yX0_pressLot, cX0_pressLot, 7, _, rmX0_pressLot, 3, ctX0_pressLot, ykX0_pressLot, ⟨rfl, rfl, by decide, by decide⟩, ⟨ml_6_67, yvX0_pressLot, rfl, rfl, Or.inl (by decide)⟩⟩, ⟨yX0_wetHeap, cX0_wetHeap, 4, _, rmX0_wetHeap, 2, ctX0_wetHeap, ykX0_wetHeap, ⟨rfl, rfl, by decide, by decide⟩, ⟨ml_6_71, yvX0_wetHeap, rfl, rfl, Or.inl (by decide)⟩⟩, ⟨yX0_moveJuice, cX0_moveJuice, 5, _, rmX0_moveJuice, 3, ctX0_moveJuice, ykX0_moveJuice, ⟨rfl, rfl, by decide, by decide⟩, ⟨ml_6_78, yvX0_moveJuice, rfl, rfl, Or.inl (by decide)⟩⟩, ⟨yX0_rackJuice, cX0_rackJuice, 4, _, rmX0_rackJuice, 2, ctX0_rackJuice, ykX0_rackJuice, ⟨rfl, rfl, by decide, by decide⟩, ⟨ml_6_81, yvX0_rackJuice, rfl, rfl, Or.inl (by decide)⟩⟩, ⟨yX0_cleanTank, cX0_cleanTank, 3, _, rmX0_cleanTank, 1, ctX0_cleanTank, ykX0_cleanTank, ⟨rfl, rfl, by decide, by decide⟩, ⟨ml_6_84, yvX0_cleanTank, rfl, rfl, Or.inl (by decide)⟩⟩, ⟨yX3_number, cX3_number, 4, _, rmX3_number, 2, ctX3_number, ykX3_number, ⟨rfl, rfl, by decide, by decide⟩, ⟨ml_6_246, yvX3_number, rfl, rfl, Or.inl (by decide)⟩⟩, ⟨yX0_bottleJuice, cX0_bottleJuice, 7, _, rmX0_bottleJuice, 4, ctX0_bottleJuice, ykX0_bottleJuice, ⟨rfl, rfl, by decide, by decide⟩, ⟨ml_6_90, yvX0_bottleJuice, rfl, rfl, Or.inl (by decide)⟩⟩, ⟨yX0_passDay, cX0_passDay, 3, _, rmX0_passDay, 0, ctX0_passDay, ykX0_passDay, ⟨rfl, rfl, by decide, by decide⟩, ⟨ml_6_93, yvX0_passDay, rfl, rfl, Or.inl (by decide)⟩⟩, trivial⟩)
theorem ctX6_perform : MCt yX6_perform cX6_perform 6 (some .int) rmX6_perform fX6_perform := mct_of (o := 6) (rk := 0) (by decide +kernel) rfl ckX6_perform rfl ⟨rfl, rfl⟩ caX6_perform (no38 (by decide +kernel)) (by decide +kernel) mLim_ex
def cdX6_runScript : List MI := [(8, 0, 0, 0, 0, 0, []), (30, 25, 6, 2, 0, 0, []), (40, 107, 0, 1, 0, 0, [(0, 3)]), (24, 10, 1, 0, 0, 0, []), (1, 0, 0, 0, (-10), 0, []), (8, 0, 0, 0, 0, 0, []), (30, 25, 6, 2, 0, 0, []), (30, 111, 3, 2, 0, 0, []), (12, 0, 1, 0, 0, 0, []), (50, 0, 0, 0, 0, 0, []), (8, 0, 0, 0, 0, 0, []), (42, 40, 1, 1, 0, 0, [(0, 6)]), (10, 1, 0, 0, 0, 0, []), (0, 0, 0, 0, 0, 0, []), (9, 2, 0, 0, 0, 0, []), (6, 2, 0, 0, 0, 0, []), (8, 0, 0, 0, 0, 0, []), (30, 25, 6, 2, 0, 0, []), (30, 114, 3, 3, 0, 0, []), (25, 38, 3, 0, 0, 0, []), (8, 0, 0, 0, 0, 0, []), (8, 1, 0, 0, 0, 0, []), (6, 2, 0, 0, 0, 0, []), (40, 117, 2, 3, 0, 0, [(0, 6)]), (9, 3, 0, 0, 0, 0, []), (6, 3, 0, 0, 0, 0, []), (24, 36, 3, 0, 0, 0, []), (8, 0, 0, 0, 0, 0, []), (8, 1, 0, 0, 0, 0, []), (6, 3, 0, 0, 0, 0, []), (40, 48, 3, 3, 0, 0, [(0, 6)]), (23, 0, 0, 0, 0, 0, []), (2, 0, 0, 0, (-1000), 0, []), (6, 2, 0, 0, 0, 0, []), (12, 0, 1, 0, 0, 0, []), (50, 0, 0, 0, 0, 0, []), (11, 2, 0, 0, 1, 0, []), (26, 15, 0, 0, 0, 0, []), (8, 0, 0, 0, 0, 0, []), (30, 25, 6, 2, 0, 0, []), (40, 104, 4, 1, 0, 0, [(0, 3)]), (23, 0, 0, 0, 0, 0, []), (8, 0, 0, 0, 0, 0, []), (8, 1, 0, 0, 0, 0, []), (8, 0, 0, 0, 0, 0, []), (30, 25, 6, 2, 0, 0, []), (30, 114, 3, 3, 0, 0, []), (40, 48, 3, 3, 0, 0, [(0, 6)]), (50, 0, 0, 0, 0, 0, [])]
noncomputable def FX6_runScript : Nat → MF := fun k => match k with
  | 0 => fX3_read
  | 1 => fX6_draft
  | 2 => fX6_perform
  | 3 => fX6_finish
  | 4 => fX3_clear
  | _ => fun _ _ => none
noncomputable def fX6_runScript : MF := mLim 4 FX6_runScript cdX6_runScript
theorem ckX6_runScript : mCk 6 4 0 cX6_runScript cdX6_runScript = true := by decide +kernel
def rmX6_runScript : Room := { frames := 10, cells := 0, slots := 0, locals := 250 }
theorem caX6_runScript : allC rmX6_runScript 6 FX6_runScript (cdX6_runScript.filter isCall) := (show MCall rmX6_runScript 6 FX6_runScript (40, 107, 0, 1, 0, 0, [(0, 3)]) ∧ MCall rmX6_runScript 6 FX6_runScript (42, 40, 1, 1, 0, 0, [(0, 6)]) ∧ MCall rmX6_runScript 6 FX6_runScript (40, 117, 2, 3, 0, 0, [(0, 6)]) ∧ MCall rmX6_runScript 6 FX6_runScript (40, 48, 3, 3, 0, 0, [(0, 6)]) ∧ MCall rmX6_runScript 6 FX6_runScript (40, 104, 4, 1, 0, 0, [(0, 3)]) ∧ MCall rmX6_runScript 6 FX6_runScript (40, 48, 3, 3, 0, 0, [(0, 6)]) ∧ True from ⟨⟨yX3_read, cX3_read, 2, _, rmX3_read, 0, ctX3_read, ykX3_read, ⟨rfl, rfl, by decide, by decide⟩, ⟨ml_6_107, yvX3_read, rfl, rfl, Or.inl (by decide)⟩⟩, ⟨yX6_draft, cX6_draft, 2, _, rmX6_draft, 0, ctX6_draft, ykX6_draft, ⟨rfl, rfl, by decide, by decide⟩, ⟨ml_6_40, yvX6_draft, rfl, rfl, Or.inl (by decide)⟩⟩, ⟨yX6_perform, cX6_perform, 6, _, rmX6_perform, 2, ctX6_perform, ykX6_perform, ⟨rfl, rfl, by decide, by decide⟩, ⟨ml_6_117, yvX6_perform, rfl, rfl, Or.inl (by decide)⟩⟩, ⟨yX6_finish, cX6_finish, 3, _, rmX6_finish, 2, ctX6_finish, ykX6_finish, ⟨rfl, rfl, by decide, by decide⟩, ⟨ml_6_48, yvX6_finish, rfl, rfl, Or.inl (by decide)⟩⟩, ⟨yX3_clear, cX3_clear, 2, _, rmX3_clear, 0, ctX3_clear, ykX3_clear, ⟨rfl, rfl, by decide, by decide⟩, ⟨ml_6_104, yvX3_clear, rfl, rfl, Or.inl (by decide)⟩⟩, ⟨yX6_finish, cX6_finish, 3, _, rmX6_finish, 2, ctX6_finish, ykX6_finish, ⟨rfl, rfl, by decide, by decide⟩, ⟨ml_6_48, yvX6_finish, rfl, rfl, Or.inl (by decide)⟩⟩, trivial⟩)
theorem ctX6_runScript : MCt yX6_runScript cX6_runScript 4 (some .int) rmX6_runScript fX6_runScript := mct_of (o := 6) (rk := 0) (by decide +kernel) rfl ckX6_runScript rfl ⟨rfl, rfl⟩ caX6_runScript (no38 (by decide +kernel)) (by decide +kernel) mLim_ex
